theorem L_fault_zpf {S : zMs} : ∀ (n : Nat) (X : zMs), zpf S X → zpf S (L_X8_fault n X)
  | 0, X, h => h
  | n + 1, X, h => by
    rw [L_X8_fault_s]
    by_cases c1 : gMs_wr X = false
    · rw [if_pos c1]
      by_cases c2 : gMs_pdm X ≤ gMs_sp X
      · rw [if_pos c2]; exact h
      · rw [if_neg c2]
        by_cases c3 : gMs_wr (f_X8_takeSign X (nI 59)) = false
        · rw [if_pos c3]; exact L_fault_zpf n _ ((zpf_step h c1).2.2.2.2.2 c3).2.1
        · rw [if_neg c3]; exact L_fault_zpf n _ ((zpf_step h c1).2.2.1 (zbt c3))
    · rw [if_neg c1]; exact h
theorem f_fault_zpf {S : zMs} (hp : gMs_pdm S ≤ 80) : zpf S (f_X8_fault S).2 := by
  unfold f_X8_fault
  rw [zsl_e]
  exact L_fault_zpf _ _ (zpf_start hp)
theorem zsame_pf {S T : zMs} (h : zsame S T) : gMs_pf T = gMs_pf S := by rw [h]
theorem zsame_pm {S T : zMs} (h : zsame S T) : gMs_pm T = gMs_pm S := by rw [h]
theorem zsame_at {S T : zMs} (h : zsame S T) : gMs_at T = gMs_at S := by rw [h]

noncomputable def f_X8_carry (S : zMs) (k : Nat) : Int32 × zMs := zsl (
  if ((gMs_so S) k) = nI 98 then
    (((f_X8_tryBuy S ((gMs_nu S) (3 * k)) ((gMs_nu S) (3 * k + 1)) ((gMs_nu S) (3 * k + 2)) false).1), ((f_X8_tryBuy S ((gMs_nu S) (3 * k)) ((gMs_nu S) (3 * k + 1)) ((gMs_nu S) (3 * k + 2)) false).2))
  else
    if ((gMs_so S) k) = nI 100 then
      (((f_X8_tryEndDay S false).1), ((f_X8_tryEndDay S false).2))
    else
      if ((gMs_so S) k) = nI 105 then
        (((f_X8_tryIncome S ((gMs_nu S) (3 * k)) false).1), ((f_X8_tryIncome S ((gMs_nu S) (3 * k)) false).2))
      else
        if ((gMs_so S) k) = nI 108 then
          (((f_X8_tryLeave S ((gMs_nu S) (3 * k)) ((gMs_nu S) (3 * k + 1)) ((gMs_nu S) (3 * k + 2)) false).1), ((f_X8_tryLeave S ((gMs_nu S) (3 * k)) ((gMs_nu S) (3 * k + 1)) ((gMs_nu S) (3 * k + 2)) false).2))
        else
          if ((gMs_so S) k) = nI 113 then
            (((f_X8_tryQuote S ((gMs_nu S) (3 * k)) false).1), ((f_X8_tryQuote S ((gMs_nu S) (3 * k)) false).2))
          else
            (((f_X8_tryPay S false).1), ((f_X8_tryPay S false).2))
  )
set_option maxHeartbeats 4000000 in
set_option maxRecDepth 100000 in
theorem c_X8_carry (l : Launch) (D : va_G) (cy : Nat → ClassId) (m : Nat → Nat) (k : Nat)  (S : zMs) (hf : gMs_pf S < 6) (hm : gMs_pm S ≤ 6) (hb : zCk S 61) (hc : zCk S 122) (hk : k < 42) (hok : ok_endIt (f_X8_keepIf S false)) : zC l yX8_carry (zW yX8_carry cX8_carry 3 (Option.some Jvm.ClassFile.FieldType.int)) { frames := 8, cells := 0, slots := 0, locals := 183 } D cy [.ref (m 0), .int (nI k)] (WM cy m S) (some (.int ((f_X8_carry S k).1))) (WM cy m ((f_X8_carry S k).2)) := by
  refine zC_of rfl (Nat.le_of_ble_eq_true rfl) (zOk_i _) (fun E C hret => ?_)
  show zJ E 3 0 0 (WM cy m S) 0 [(0, .ref (m 0)), (1, .int (nI k))] []
  refine zj_iconst C (v := (nI 3)) dX8_carry_0 (by decide) ?_
  refine zj_iload_n C dX8_carry_1 1 rfl ?_
  refine zj_imul C dX8_carry_2 ?_
  refine zj_topi (nI (3 * k)) (pk_mul _ _) ?_
  refine zj_istore_n C (L' := [(2, .int (nI (3 * k))), (0, .ref (m 0)), (1, .int (nI k))]) dX8_carry_3 rfl (by decide) rfl ?_
  refine zj_aload_n C dX8_carry_4 1 rfl ?_
  refine zj_get C 0 8 13 (v := .ref (m 8)) inZ8 rfl rfl (by decide) tg_690 rfl dX8_carry_5 ?_
  refine zj_iload_n C dX8_carry_8 2 rfl ?_
  refine zj_iald C 8 (f := (gMs_so S)) k (nI_clamp (by omega)) (vp_in_nI (by omega) (by omega)) rfl dX8_carry_9 ?_
  by_cases c_10_98 : ((gMs_so S) k) = nI 98
  · refine zj_topi (nI 98) c_10_98 ?_
    refine zj_look C (off := 50) 60 dX8_carry_10 (by decide) (by decide) (by decide) ?_
    refine zj_aload_n C dX8_carry_60 1 rfl ?_
    refine zj_aload_n C dX8_carry_61 1 rfl ?_
    refine zj_get C 0 8 14 (v := .ref (m 9)) inZ8 rfl rfl (by decide) tg_691 rfl dX8_carry_62 ?_
    refine zj_iload_n C dX8_carry_65 0 rfl ?_
    refine zj_iald C 9 (f := (gMs_nu S)) (3 * k) (nI_clamp (by omega)) (vp_in_nI (by omega) (by omega)) rfl dX8_carry_66 ?_
    refine zj_aload_n C dX8_carry_67 1 rfl ?_
    refine zj_get C 0 8 14 (v := .ref (m 9)) inZ8 rfl rfl (by decide) tg_691 rfl dX8_carry_68 ?_
    refine zj_iload_n C dX8_carry_71 0 rfl ?_
    refine zj_iconst C (v := (nI 1)) dX8_carry_72 (by decide) ?_
    refine zj_iadd C dX8_carry_73 ?_
    refine zj_topi (nI (3 * k + 1)) ((nI_add _ _).trans (congrArg nI (by omega))) ?_
    refine zj_iald C 9 (f := (gMs_nu S)) (3 * k + 1) (nI_clamp (by omega)) (vp_in_nI (by omega) (by omega)) rfl dX8_carry_74 ?_
    refine zj_aload_n C dX8_carry_75 1 rfl ?_
    refine zj_get C 0 8 14 (v := .ref (m 9)) inZ8 rfl rfl (by decide) tg_691 rfl dX8_carry_76 ?_
    refine zj_iload_n C dX8_carry_79 0 rfl ?_
    refine zj_iconst C (v := (nI 2)) dX8_carry_80 (by decide) ?_
    refine zj_iadd C dX8_carry_81 ?_
    refine zj_topi (nI (3 * k + 2)) ((nI_add _ _).trans (congrArg nI (by omega))) ?_
    refine zj_iald C 9 (f := (gMs_nu S)) (3 * k + 2) (nI_clamp (by omega)) (vp_in_nI (by omega) (by omega)) rfl dX8_carry_82 ?_
    refine zj_iconst C (v := (nI 0)) dX8_carry_83 (by decide) ?_
    refine zj_callV C (nn := 10) (ws' := (WM cy m ((f_X8_tryBuy S ((gMs_nu S) (3 * k)) ((gMs_nu S) (3 * k + 1)) ((gMs_nu S) (3 * k + 2)) false).2))) (st := []) (st1 := [.int ((f_X8_tryBuy S ((gMs_nu S) (3 * k)) ((gMs_nu S) (3 * k + 1)) ((gMs_nu S) (3 * k + 2)) false).1)]) 0 8 [0, 1, 2, 3, 4, 5, 6, 7, 8, 9] (c_X8_tryBuy l D cy m ((gMs_nu S) (3 * k)) ((gMs_nu S) (3 * k + 1)) ((gMs_nu S) (3 * k + 2)) false S hf hm hb) (zg_V tg_742 tg_739 tg_741 tgp_15 tg_9) ⟨rfl, hdZ_X8_tryBuy⟩ ⟨rfl, rfl⟩ ⟨by decide, by decide⟩ rfl rfl rfl (by decide) ⟨rfl, rfl⟩ rfl rfl (Nat.le_of_ble_eq_true rfl) dX8_carry_84 rfl rfl ?_
    have e : f_X8_carry S k = (((f_X8_tryBuy S ((gMs_nu S) (3 * k)) ((gMs_nu S) (3 * k + 1)) ((gMs_nu S) (3 * k + 2)) false).1), ((f_X8_tryBuy S ((gMs_nu S) (3 * k)) ((gMs_nu S) (3 * k + 1)) ((gMs_nu S) (3 * k + 2)) false).2)) := by refine (zsl_e _).trans ?_; refine (if_pos c_10_98).trans ?_; rfl
    rw [e] at hret
    exact hret _ _ dX8_carry_87
  · skip
    by_cases c_10_100 : ((gMs_so S) k) = nI 100
    · refine zj_topi (nI 100) c_10_100 ?_
      refine zj_look C (off := 130) 140 dX8_carry_10 (by decide) (by decide) (by decide) ?_
      refine zj_aload_n C dX8_carry_140 1 rfl ?_
      refine zj_iconst C (v := (nI 0)) dX8_carry_141 (by decide) ?_
      refine zj_callV C (nn := 10) (ws' := (WM cy m ((f_X8_tryEndDay S false).2))) (st := []) (st1 := [.int ((f_X8_tryEndDay S false).1)]) 0 8 [0, 1, 2, 3, 4, 5, 6, 7, 8, 9] (c_X8_tryEndDay l D cy m false S hf hm hok) (zg_V tg_816 tg_813 tg_815 tgp_29 tg_9) ⟨rfl, hdZ_X8_tryEndDay⟩ ⟨rfl, rfl⟩ ⟨by decide, by decide⟩ rfl rfl rfl (by decide) ⟨rfl, rfl⟩ rfl rfl (Nat.le_of_ble_eq_true rfl) dX8_carry_142 rfl rfl ?_
      have e : f_X8_carry S k = (((f_X8_tryEndDay S false).1), ((f_X8_tryEndDay S false).2)) := by refine (zsl_e _).trans ?_; refine (if_neg c_10_98).trans ?_; refine (if_pos c_10_100).trans ?_; rfl
      rw [e] at hret
      exact hret _ _ dX8_carry_145
    · skip
      by_cases c_10_105 : ((gMs_so S) k) = nI 105
      · refine zj_topi (nI 105) c_10_105 ?_
        refine zj_look C (off := 118) 128 dX8_carry_10 (by decide) (by decide) (by decide) ?_
        refine zj_aload_n C dX8_carry_128 1 rfl ?_
        refine zj_aload_n C dX8_carry_129 1 rfl ?_
        refine zj_get C 0 8 14 (v := .ref (m 9)) inZ8 rfl rfl (by decide) tg_691 rfl dX8_carry_130 ?_
        refine zj_iload_n C dX8_carry_133 0 rfl ?_
        refine zj_iald C 9 (f := (gMs_nu S)) (3 * k) (nI_clamp (by omega)) (vp_in_nI (by omega) (by omega)) rfl dX8_carry_134 ?_
        refine zj_iconst C (v := (nI 0)) dX8_carry_135 (by decide) ?_
        refine zj_callV C (nn := 10) (ws' := (WM cy m ((f_X8_tryIncome S ((gMs_nu S) (3 * k)) false).2))) (st := []) (st1 := [.int ((f_X8_tryIncome S ((gMs_nu S) (3 * k)) false).1)]) 0 8 [0, 1, 2, 3, 4, 5, 6, 7, 8, 9] (c_X8_tryIncome l D cy m ((gMs_nu S) (3 * k)) false S hf hm) (zg_V tg_902 tg_899 tg_901 tgp_46 tg_9) ⟨rfl, hdZ_X8_tryIncome⟩ ⟨rfl, rfl⟩ ⟨by decide, by decide⟩ rfl rfl rfl (by decide) ⟨rfl, rfl⟩ rfl rfl (Nat.le_of_ble_eq_true rfl) dX8_carry_136 rfl rfl ?_
        have e : f_X8_carry S k = (((f_X8_tryIncome S ((gMs_nu S) (3 * k)) false).1), ((f_X8_tryIncome S ((gMs_nu S) (3 * k)) false).2)) := by refine (zsl_e _).trans ?_; refine (if_neg c_10_98).trans ?_; refine (if_neg c_10_100).trans ?_; refine (if_pos c_10_105).trans ?_; rfl
        rw [e] at hret
        exact hret _ _ dX8_carry_139
      · skip
        by_cases c_10_108 : ((gMs_so S) k) = nI 108
        · refine zj_topi (nI 108) c_10_108 ?_
          refine zj_look C (off := 78) 88 dX8_carry_10 (by decide) (by decide) (by decide) ?_
          refine zj_aload_n C dX8_carry_88 1 rfl ?_
          refine zj_aload_n C dX8_carry_89 1 rfl ?_
          refine zj_get C 0 8 14 (v := .ref (m 9)) inZ8 rfl rfl (by decide) tg_691 rfl dX8_carry_90 ?_
          refine zj_iload_n C dX8_carry_93 0 rfl ?_
          refine zj_iald C 9 (f := (gMs_nu S)) (3 * k) (nI_clamp (by omega)) (vp_in_nI (by omega) (by omega)) rfl dX8_carry_94 ?_
          refine zj_aload_n C dX8_carry_95 1 rfl ?_
          refine zj_get C 0 8 14 (v := .ref (m 9)) inZ8 rfl rfl (by decide) tg_691 rfl dX8_carry_96 ?_
          refine zj_iload_n C dX8_carry_99 0 rfl ?_
          refine zj_iconst C (v := (nI 1)) dX8_carry_100 (by decide) ?_
          refine zj_iadd C dX8_carry_101 ?_
          refine zj_topi (nI (3 * k + 1)) ((nI_add _ _).trans (congrArg nI (by omega))) ?_
          refine zj_iald C 9 (f := (gMs_nu S)) (3 * k + 1) (nI_clamp (by omega)) (vp_in_nI (by omega) (by omega)) rfl dX8_carry_102 ?_
          refine zj_aload_n C dX8_carry_103 1 rfl ?_
          refine zj_get C 0 8 14 (v := .ref (m 9)) inZ8 rfl rfl (by decide) tg_691 rfl dX8_carry_104 ?_
          refine zj_iload_n C dX8_carry_107 0 rfl ?_
          refine zj_iconst C (v := (nI 2)) dX8_carry_108 (by decide) ?_
          refine zj_iadd C dX8_carry_109 ?_
          refine zj_topi (nI (3 * k + 2)) ((nI_add _ _).trans (congrArg nI (by omega))) ?_
          refine zj_iald C 9 (f := (gMs_nu S)) (3 * k + 2) (nI_clamp (by omega)) (vp_in_nI (by omega) (by omega)) rfl dX8_carry_110 ?_
          refine zj_iconst C (v := (nI 0)) dX8_carry_111 (by decide) ?_
          refine zj_callV C (nn := 10) (ws' := (WM cy m ((f_X8_tryLeave S ((gMs_nu S) (3 * k)) ((gMs_nu S) (3 * k + 1)) ((gMs_nu S) (3 * k + 2)) false).2))) (st := []) (st1 := [.int ((f_X8_tryLeave S ((gMs_nu S) (3 * k)) ((gMs_nu S) (3 * k + 1)) ((gMs_nu S) (3 * k + 2)) false).1)]) 0 8 [0, 1, 2, 3, 4, 5, 6, 7, 8, 9] (c_X8_tryLeave l D cy m ((gMs_nu S) (3 * k)) ((gMs_nu S) (3 * k + 1)) ((gMs_nu S) (3 * k + 2)) false S hf hm hc) (zg_V tg_768 tg_765 tg_767 tgp_19 tg_9) ⟨rfl, hdZ_X8_tryLeave⟩ ⟨rfl, rfl⟩ ⟨by decide, by decide⟩ rfl rfl rfl (by decide) ⟨rfl, rfl⟩ rfl rfl (Nat.le_of_ble_eq_true rfl) dX8_carry_112 rfl rfl ?_
          have e : f_X8_carry S k = (((f_X8_tryLeave S ((gMs_nu S) (3 * k)) ((gMs_nu S) (3 * k + 1)) ((gMs_nu S) (3 * k + 2)) false).1), ((f_X8_tryLeave S ((gMs_nu S) (3 * k)) ((gMs_nu S) (3 * k + 1)) ((gMs_nu S) (3 * k + 2)) false).2)) := by refine (zsl_e _).trans ?_; refine (if_neg c_10_98).trans ?_; refine (if_neg c_10_100).trans ?_; refine (if_neg c_10_105).trans ?_; refine (if_pos c_10_108).trans ?_; rfl
          rw [e] at hret
          exact hret _ _ dX8_carry_115
        · skip
          by_cases c_10_113 : ((gMs_so S) k) = nI 113
          · refine zj_topi (nI 113) c_10_113 ?_
            refine zj_look C (off := 106) 116 dX8_carry_10 (by decide) (by decide) (by decide) ?_
            refine zj_aload_n C dX8_carry_116 1 rfl ?_
            refine zj_aload_n C dX8_carry_117 1 rfl ?_
            refine zj_get C 0 8 14 (v := .ref (m 9)) inZ8 rfl rfl (by decide) tg_691 rfl dX8_carry_118 ?_
            refine zj_iload_n C dX8_carry_121 0 rfl ?_
            refine zj_iald C 9 (f := (gMs_nu S)) (3 * k) (nI_clamp (by omega)) (vp_in_nI (by omega) (by omega)) rfl dX8_carry_122 ?_
            refine zj_iconst C (v := (nI 0)) dX8_carry_123 (by decide) ?_
            refine zj_callV C (nn := 10) (ws' := (WM cy m ((f_X8_tryQuote S ((gMs_nu S) (3 * k)) false).2))) (st := []) (st1 := [.int ((f_X8_tryQuote S ((gMs_nu S) (3 * k)) false).1)]) 0 8 [0, 1, 2, 3, 4, 5, 6, 7, 8, 9] (c_X8_tryQuote l D cy m ((gMs_nu S) (3 * k)) false S hf hm) (zg_V tg_888 tg_885 tg_887 tgp_45 tg_9) ⟨rfl, hdZ_X8_tryQuote⟩ ⟨rfl, rfl⟩ ⟨by decide, by decide⟩ rfl rfl rfl (by decide) ⟨rfl, rfl⟩ rfl rfl (Nat.le_of_ble_eq_true rfl) dX8_carry_124 rfl rfl ?_
            have e : f_X8_carry S k = (((f_X8_tryQuote S ((gMs_nu S) (3 * k)) false).1), ((f_X8_tryQuote S ((gMs_nu S) (3 * k)) false).2)) := by refine (zsl_e _).trans ?_; refine (if_neg c_10_98).trans ?_; refine (if_neg c_10_100).trans ?_; refine (if_neg c_10_105).trans ?_; refine (if_neg c_10_108).trans ?_; refine (if_pos c_10_113).trans ?_; rfl
            rw [e] at hret
            exact hret _ _ dX8_carry_127
          · skip
            refine zj_look C (off := 136) 146 dX8_carry_10 (by decide) (by show Op.lookupswitch.offset [(98, 50), (100, 130), (105, 118), (108, 78), (113, 106)] 136 _ = _; rw [lv_osw (a := 98) c_10_98 (by decide), lv_osw (a := 100) c_10_100 (by decide), lv_osw (a := 105) c_10_105 (by decide), lv_osw (a := 108) c_10_108 (by decide), lv_osw (a := 113) c_10_113 (by decide)]; rfl) (by decide) ?_
            refine zj_aload_n C dX8_carry_146 1 rfl ?_
            refine zj_iconst C (v := (nI 0)) dX8_carry_147 (by decide) ?_
            refine zj_callV C (nn := 10) (ws' := (WM cy m ((f_X8_tryPay S false).2))) (st := []) (st1 := [.int ((f_X8_tryPay S false).1)]) 0 8 [0, 1, 2, 3, 4, 5, 6, 7, 8, 9] (c_X8_tryPay l D cy m false S hf hm) (zg_V tg_910 tg_907 tg_909 tgp_47 tg_9) ⟨rfl, hdZ_X8_tryPay⟩ ⟨rfl, rfl⟩ ⟨by decide, by decide⟩ rfl rfl rfl (by decide) ⟨rfl, rfl⟩ rfl rfl (Nat.le_of_ble_eq_true rfl) dX8_carry_148 rfl rfl ?_
            have e : f_X8_carry S k = (((f_X8_tryPay S false).1), ((f_X8_tryPay S false).2)) := by refine (zsl_e _).trans ?_; refine (if_neg c_10_98).trans ?_; refine (if_neg c_10_100).trans ?_; refine (if_neg c_10_105).trans ?_; refine (if_neg c_10_108).trans ?_; refine (if_neg c_10_113).trans ?_; rfl
            rw [e] at hret
            exact hret _ _ dX8_carry_151

def okc (X : zMs) : Prop := gMs_pf X < 6 ∧ gMs_pm X ≤ 6 ∧ zCk X 61 ∧ zCk X 122 ∧ ok_endIt (f_X8_keepIf X false)

noncomputable def L_X8_carry  : Nat → (zMs) → (Nat) → (zMs) × (Nat)
  | 0, X, k => (X, k)
  | fuel + 1, X, k =>
    if (gMs_od X) ≤ k then
      (X, k)
    else
      if ((f_X8_carry X k).1) < 0 then
        (((f_X8_carry X k).2), k)
      else
        L_X8_carry  fuel ((f_X8_carry X k).2) (k + 1)
theorem L_X8_carry_s  (fuel : Nat) (X : zMs) (k : Nat) : L_X8_carry  (fuel + 1) X k = (
    if (gMs_od X) ≤ k then
      (X, k)
    else
      if ((f_X8_carry X k).1) < 0 then
        (((f_X8_carry X k).2), k)
      else
        L_X8_carry  fuel ((f_X8_carry X k).2) (k + 1)
  ) := rfl
noncomputable def f_X8_carryOut (S : zMs) : Int32 × zMs := zsl (
  let T_1 : zMs := ((f_X8_fault S).2)
  if ((f_X8_fault S).1) < 0 then
    let X1 : zMs := ((L_X8_carry  (gMs_od (f_X8_keep T_1) - 0 + 1) (f_X8_keep T_1) 0).1)
    let k1 : Nat := ((L_X8_carry  (gMs_od (f_X8_keep T_1) - 0 + 1) (f_X8_keep T_1) 0).2)
    ((nI k1), (sMs_pdm X1 0))
  else
    ((-3), T_1)
  )
set_option maxHeartbeats 4000000 in
set_option maxRecDepth 100000 in
theorem c_X8_carryOut (l : Launch) (D : va_G) (cy : Nat → ClassId) (m : Nat → Nat)   (S : zMs) (hp : gMs_pdm S ≤ 80) (hf : gMs_pf S < 6) (hm : gMs_pm S ≤ 6) (P : zMs → Nat → Prop) (h0 : P (f_X8_keep (f_X8_fault S).2) 0) (hP : ∀ X k, P X k → k < gMs_od X → okc X ∧ gMs_od (f_X8_carry X k).2 = gMs_od X ∧ P (f_X8_carry X k).2 (k + 1)) : zC l yX8_carryOut (zW yX8_carryOut cX8_carryOut 2 (Option.some Jvm.ClassFile.FieldType.int)) { frames := 9, cells := 0, slots := 0, locals := 205 } D cy [.ref (m 0)] (WM cy m S) (some (.int ((f_X8_carryOut S).1))) (WM cy m ((f_X8_carryOut S).2)) := by
  refine zC_of rfl (Nat.le_of_ble_eq_true rfl) (zOk_i _) (fun E C hret => ?_)
  show zJ E 2 0 0 (WM cy m S) 0 [(0, .ref (m 0))] []
  refine zj_aload_n C dX8_carryOut_0 0 rfl ?_
  refine zj_callV C (nn := 10) (ws' := (WM cy m ((f_X8_fault S).2))) (st := []) (st1 := [.int ((f_X8_fault S).1)]) 0 8 [0, 1, 2, 3, 4, 5, 6, 7, 8, 9] (c_X8_fault l D cy m  S hp) (zg_V tg_963 tg_996 tg_961 tg_962 tg_9) ⟨rfl, hdZ_X8_fault⟩ ⟨rfl, rfl⟩ ⟨by decide, by decide⟩ rfl rfl rfl (by decide) ⟨rfl, rfl⟩ rfl rfl (Nat.le_of_ble_eq_true rfl) dX8_carryOut_1 rfl rfl ?_
  generalize hT_1 : ((f_X8_fault S).2) = T_1
  have zf : zpf S T_1 := hT_1 ▸ f_fault_zpf hp
  rw [hT_1] at h0
  have hf1 : gMs_pf T_1 < 6 := by rw [zsame_pf zf.2.1]; exact hf
  have hm1 : gMs_pm T_1 ≤ 6 := by rw [zsame_pm zf.2.1]; exact hm
  refine zj_if_lt C 10 dX8_carryOut_4 (by decide) (fun c => ?_) (fun c => ?_)
  · have c_4 : ((f_X8_fault S).1) < 0 := c
    refine zj_aload_n C dX8_carryOut_10 0 rfl ?_
    refine zj_callV C (nn := 10) (ws' := (WM cy m (f_X8_keep T_1))) (st := []) (st1 := []) 0 8 [0, 1, 2, 3, 4, 5, 6, 7, 8, 9] (c_X8_keep l D cy m  T_1 hf1 hm1) (zg_V tg_734 tg_731 tg_733 tgp_14 tg_9) ⟨rfl, hdZ_X8_keep⟩ ⟨rfl, rfl⟩ ⟨by decide, by decide⟩ rfl rfl rfl (by decide) ⟨rfl, rfl⟩ rfl rfl (Nat.le_of_ble_eq_true rfl) dX8_carryOut_11 rfl rfl ?_
    refine zj_iconst C (v := (nI 0)) dX8_carryOut_14 (by decide) ?_
    refine zj_istore_n C (L' := [(1, .int (nI 0)), (0, .ref (m 0))]) dX8_carryOut_15 rfl (by decide) rfl ?_
    have loop_16 : ∀ (fuel : Nat) (X : zMs) (k : Nat), (hk : k ≤ 40) → (hod : gMs_od X ≤ 40) → (hPk : P X k) → gMs_od X - k < fuel → (((L_X8_carry  fuel X k).2) ≤ 41 → zJ E 2 0 0 (WM cy m ((L_X8_carry  fuel X k).1)) 38 [(0, .ref (m 0)), (1, .int (nI ((L_X8_carry  fuel X k).2)))] []) → zJ E 2 0 0 (WM cy m X) 16 [(0, .ref (m 0)), (1, .int (nI k))] [] := by
      intro fuel
      induction fuel with
      | zero => intro X k hk hod hPk hmu; exact absurd hmu (Nat.not_lt_zero _)
      | succ fuel ih_16 =>
        intro X k hk hod hPk hmu_16 K_16
        refine zj_iload_n C dX8_carryOut_16 1 rfl ?_
        refine zj_aload_n C dX8_carryOut_17 0 rfl ?_
        refine zj_get C 0 8 12 (v := .int (nI (gMs_od X))) inZ8 rfl rfl (by decide) tg_689 rfl dX8_carryOut_18 ?_
        refine zj_icmp_ge C 38 dX8_carryOut_21 (by decide) (fun c => ?_) (fun c => ?_)
        · have c_21 : (gMs_od X) ≤ k := ((nI_leI (by omega) (by omega)).mp c)
          have e_16 : (L_X8_carry  (fuel + 1) X k) = (X, k) := by refine (L_X8_carry_s  fuel X k).trans ?_; refine (if_pos c_21).trans ?_; rfl
          rw [e_16] at K_16
          exact K_16 (by omega)
        · have c_21 : ¬ ((gMs_od X) ≤ k) := (fun q => c ((nI_leI (by omega) (by omega)).mpr q))
          refine zj_aload_n C dX8_carryOut_24 0 rfl ?_
          refine zj_iload_n C dX8_carryOut_25 1 rfl ?_
          refine zj_callV C (nn := 10) (ws' := (WM cy m ((f_X8_carry X k).2))) (st := []) (st1 := [.int ((f_X8_carry X k).1)]) 0 8 [0, 1, 2, 3, 4, 5, 6, 7, 8, 9] (c_X8_carry l D cy m k X (hP X k hPk (Nat.not_le.mp c_21)).1.1 (hP X k hPk (Nat.not_le.mp c_21)).1.2.1 (hP X k hPk (Nat.not_le.mp c_21)).1.2.2.1 (hP X k hPk (Nat.not_le.mp c_21)).1.2.2.2.1 (by omega) (hP X k hPk (Nat.not_le.mp c_21)).1.2.2.2.2) (zg_V tg_1000 tg_997 tg_999 tgp_56 tg_9) ⟨rfl, hdZ_X8_carry⟩ ⟨rfl, rfl⟩ ⟨by decide, by decide⟩ rfl rfl rfl (by decide) ⟨rfl, rfl⟩ rfl rfl (Nat.le_of_ble_eq_true rfl) dX8_carryOut_26 rfl rfl ?_
          refine zj_if_lt C 38 dX8_carryOut_29 (by decide) (fun c => ?_) (fun c => ?_)
          · have c_29 : ((f_X8_carry X k).1) < 0 := c
            have e_16 : (L_X8_carry  (fuel + 1) X k) = (((f_X8_carry X k).2), k) := by refine (L_X8_carry_s  fuel X k).trans ?_; refine (if_neg c_21).trans ?_; refine (if_pos c_29).trans ?_; rfl
            rw [e_16] at K_16
            exact K_16 (by omega)
          · have c_29 : ¬ (((f_X8_carry X k).1) < 0) := c
            refine zj_iinc C (j := 1) (v := (nI (k + 1))) (L' := [(1, .int (nI (k + 1))), (0, .ref (m 0))]) dX8_carryOut_32 rfl (nI_1 _) (by decide) rfl ?_
            refine zj_goto C 16 dX8_carryOut_35 (by decide) ?_
            refine zj_sub (L' := [(0, .ref (m 0)), (1, .int (nI (k + 1)))]) [1, 0] rfl ?_
            have hn_hk : (k + 1) ≤ 40 := (by omega)
            have hn_hod : gMs_od ((f_X8_carry X k).2) ≤ 40 := (by rw [(hP X k hPk (Nat.not_le.mp c_21)).2.1]; exact hod)
            have hn_hPk : P ((f_X8_carry X k).2) (k + 1) := (hP X k hPk (Nat.not_le.mp c_21)).2.2
            have hn_mu : gMs_od ((f_X8_carry X k).2) - (k + 1) < fuel := (by rw [(hP X k hPk (Nat.not_le.mp c_21)).2.1]; omega)
            have e_16 : (L_X8_carry  (fuel + 1) X k) = (L_X8_carry  fuel ((f_X8_carry X k).2) (k + 1)) := by refine (L_X8_carry_s  fuel X k).trans ?_; refine (if_neg c_21).trans ?_; refine (if_neg c_29).trans ?_; rfl
            rw [e_16] at K_16
            exact ih_16 ((f_X8_carry X k).2) (k + 1) hn_hk hn_hod hn_hPk hn_mu K_16
    have K_16 : ∀ (X1 : zMs) (k1 : Nat), X1 = ((L_X8_carry  (gMs_od (f_X8_keep T_1) - 0 + 1) (f_X8_keep T_1) 0).1) → k1 = ((L_X8_carry  (gMs_od (f_X8_keep T_1) - 0 + 1) (f_X8_keep T_1) 0).2) → (Pk_e : k1 ≤ 41) → zJ E 2 0 0 (WM cy m X1) 38 [(0, .ref (m 0)), (1, .int (nI k1))] [] := by
      intro X1 k1 hX1 hk1 Pk_e
      refine zj_aload_n C dX8_carryOut_38 0 rfl ?_
      refine zj_iconst C (v := (nI 0)) dX8_carryOut_39 (by decide) ?_
      refine zj_put C 0 8 9 (v := .int (nI 0)) (ws' := (WM cy m (sMs_pdm X1 0))) tyX8 tyX8_ok nmX8 inZ8 rfl rfl (by decide) tg_686 rfl rfl rfl (Nat.le_of_ble_eq_true rfl) dX8_carryOut_40 rfl ?_
      refine zj_iload_n C dX8_carryOut_43 1 rfl ?_
      subst hk1
      subst hX1
      subst hT_1
      have e : f_X8_carryOut S = ((nI ((L_X8_carry  (gMs_od (f_X8_keep ((f_X8_fault S).2)) - 0 + 1) (f_X8_keep ((f_X8_fault S).2)) 0).2)), (sMs_pdm ((L_X8_carry  (gMs_od (f_X8_keep ((f_X8_fault S).2)) - 0 + 1) (f_X8_keep ((f_X8_fault S).2)) 0).1) 0)) := by refine (zsl_e _).trans ?_; refine (if_pos c_4).trans ?_; rfl
      rw [e] at hret
      exact hret _ _ dX8_carryOut_44
    refine zj_sub (L' := [(0, .ref (m 0)), (1, .int (nI 0))]) [1, 0] rfl ?_
    exact loop_16 (gMs_od (f_X8_keep T_1) - 0 + 1) (f_X8_keep T_1) 0 (by omega) zf.2.2.2 h0 (Nat.lt_succ_self _) (K_16 _ _ rfl rfl)
  · have c_4 : ¬ (((f_X8_fault S).1) < 0) := c
    refine zj_bipush C (v := (-3)) dX8_carryOut_7 (by decide) ?_
    subst hT_1
    have e : f_X8_carryOut S = ((-3), ((f_X8_fault S).2)) := by refine (zsl_e _).trans ?_; refine (if_neg c_4).trans ?_; rfl
    rw [e] at hret
    exact hret _ _ dX8_carryOut_9

noncomputable def L_X8_undo (S : zMs) : Nat → (Nat → Int64) → (Nat) → (Nat → Int64) × (Nat)
  | 0, A, k => (A, k)
  | fuel + 1, A, k =>
    if 183 ≤ k then
      (A, k)
    else
      L_X8_undo S fuel (vp_updL A k ((gMs_past S) ((183 * (((gMs_pf S) + ((gMs_pm S) - 1)) % 6)) + k))) (k + 1)
theorem L_X8_undo_s (S : zMs) (fuel : Nat) (A : Nat → Int64) (k : Nat) : L_X8_undo S (fuel + 1) A k = (
    if 183 ≤ k then
      (A, k)
    else
      L_X8_undo S fuel (vp_updL A k ((gMs_past S) ((183 * (((gMs_pf S) + ((gMs_pm S) - 1)) % 6)) + k))) (k + 1)
  ) := rfl
noncomputable def f_X8_undo (S : zMs) : Int32 × zMs :=
  if (gMs_pm S) = 0 then
    ((-5), S)
  else
    let A1 : Nat → Int64 := ((L_X8_undo S (183 - 0 + 1) (gMs_at S) 0).1)
    let k1 : Nat := ((L_X8_undo S (183 - 0 + 1) (gMs_at S) 0).2)
    ((nI ((gMs_pm S) - 1)), (sMs_pm (sMs_at S A1) ((gMs_pm S) - 1)))
set_option maxHeartbeats 4000000 in
set_option maxRecDepth 100000 in
theorem c_X8_undo (l : Launch) (D : va_G) (cy : Nat → ClassId) (m : Nat → Nat)   (S : zMs) (hf : gMs_pf S < 6) (hm : gMs_pm S ≤ 6) : zC l yX8_undo (zW yX8_undo cX8_undo 3 (Option.some Jvm.ClassFile.FieldType.int)) { frames := 0, cells := 0, slots := 0, locals := 0 } D cy [.ref (m 0)] (WM cy m S) (some (.int ((f_X8_undo S).1))) (WM cy m ((f_X8_undo S).2)) := by
  refine zC_of rfl (Nat.le_of_ble_eq_true rfl) (zOk_i _) (fun E C hret => ?_)
  show zJ E 3 0 0 (WM cy m S) 0 [(0, .ref (m 0))] []
  refine zj_aload_n C dX8_undo_0 0 rfl ?_
  refine zj_get C 0 8 3 (v := .int (nI (gMs_pm S))) inZ8 rfl rfl (by decide) tg_680 rfl dX8_undo_1 ?_
  refine zj_if_ne C 10 dX8_undo_4 (by decide) (fun c => ?_) (fun c => ?_)
  · have c_4 : ¬ ((gMs_pm S) = 0) := (fun q => c ((zn_eq0 (by omega)).mpr q))
    refine zj_aload_n C dX8_undo_10 0 rfl ?_
    refine zj_dup C dX8_undo_11 rfl ?_
    refine zj_get C 0 8 3 (v := .int (nI (gMs_pm S))) inZ8 rfl rfl (by decide) tg_680 rfl dX8_undo_12 ?_
    refine zj_iconst C (v := (nI 1)) dX8_undo_15 (by decide) ?_
    refine zj_isub C dX8_undo_16 ?_
    refine zj_topi (nI ((gMs_pm S) - 1)) (pk_sub (by omega)) ?_
    refine zj_put C 0 8 3 (v := .int (nI ((gMs_pm S) - 1))) (ws' := (WM cy m (sMs_pm S ((gMs_pm S) - 1)))) tyX8 tyX8_ok nmX8 inZ8 rfl rfl (by decide) tg_680 rfl rfl rfl (Nat.le_of_ble_eq_true rfl) dX8_undo_17 rfl ?_
    refine zj_aload_n C dX8_undo_20 0 rfl ?_
    refine zj_get C 0 8 2 (v := .int (nI (gMs_pf S))) inZ8 rfl rfl (by decide) tg_679 rfl dX8_undo_21 ?_
    refine zj_aload_n C dX8_undo_24 0 rfl ?_
    refine zj_get C 0 8 3 (v := .int (nI ((gMs_pm S) - 1))) inZ8 rfl rfl (by decide) tg_680 rfl dX8_undo_25 ?_
    refine zj_iadd C dX8_undo_28 ?_
    refine zj_topi (nI ((gMs_pf S) + ((gMs_pm S) - 1))) (nI_add _ _) ?_
    refine zj_bipush C (v := (nI 6)) dX8_undo_29 (by decide) ?_
    refine zj_irem C dX8_undo_31 (by decide) ?_
    refine zj_topi (nI (((gMs_pf S) + ((gMs_pm S) - 1)) % 6)) (pk_rem (by omega) (by omega) (by omega)) ?_
    refine zj_istore_n C (L' := [(1, .int (nI (((gMs_pf S) + ((gMs_pm S) - 1)) % 6))), (0, .ref (m 0))]) dX8_undo_32 rfl (by decide) rfl ?_
    refine zj_iconst C (v := (nI 0)) dX8_undo_33 (by decide) ?_
    refine zj_istore_n C (L' := [(2, .int (nI 0)), (1, .int (nI (((gMs_pf S) + ((gMs_pm S) - 1)) % 6))), (0, .ref (m 0))]) dX8_undo_34 rfl (by decide) rfl ?_
    have loop_35 : ∀ (fuel : Nat) (A : Nat → Int64) (k : Nat), (hk : k ≤ 183) → 183 - k < fuel → (zJ E 3 0 0 (WM cy m (sMs_pm (sMs_at S ((L_X8_undo S fuel A k).1)) ((gMs_pm S) - 1))) 66 [(0, .ref (m 0))] []) → zJ E 3 0 0 (WM cy m (sMs_pm (sMs_at S A) ((gMs_pm S) - 1))) 35 [(0, .ref (m 0)), (1, .int (nI (((gMs_pf S) + ((gMs_pm S) - 1)) % 6))), (2, .int (nI k))] [] := by
      intro fuel
      induction fuel with
      | zero => intro A k hk hmu; exact absurd hmu (Nat.not_lt_zero _)
      | succ fuel ih_35 =>
        intro A k hk hmu_35 K_35
        refine zj_iload_n C dX8_undo_35 2 rfl ?_
        refine zj_sipush C (v := (nI 183)) dX8_undo_36 (by decide) ?_
        refine zj_icmp_ge C 66 dX8_undo_39 (by decide) (fun c => ?_) (fun c => ?_)
        · have c_39 : 183 ≤ k := ((nI_leI (by omega) (by omega)).mp c)
          refine zj_sub (L' := [(0, .ref (m 0))]) [0] rfl ?_
          have e_35 : (L_X8_undo S (fuel + 1) A k) = (A, k) := by refine (L_X8_undo_s S fuel A k).trans ?_; refine (if_pos c_39).trans ?_; rfl
          rw [e_35] at K_35
          exact K_35 
        · have c_39 : ¬ (183 ≤ k) := (fun q => c ((nI_leI (by omega) (by omega)).mpr q))
          refine zj_aload_n C dX8_undo_42 0 rfl ?_
          refine zj_get C 0 8 0 (v := .ref (m 1)) inZ8 rfl rfl (by decide) tg_677 rfl dX8_undo_43 ?_
          refine zj_iload_n C dX8_undo_46 2 rfl ?_
          refine zj_aload_n C dX8_undo_47 0 rfl ?_
          refine zj_get C 0 8 1 (v := .ref (m 2)) inZ8 rfl rfl (by decide) tg_678 rfl dX8_undo_48 ?_
          refine zj_sipush C (v := (nI 183)) dX8_undo_51 (by decide) ?_
          refine zj_iload_n C dX8_undo_54 1 rfl ?_
          refine zj_imul C dX8_undo_55 ?_
          refine zj_topi (nI (183 * (((gMs_pf S) + ((gMs_pm S) - 1)) % 6))) (pk_mul _ _) ?_
          refine zj_iload_n C dX8_undo_56 2 rfl ?_
          refine zj_iadd C dX8_undo_57 ?_
          refine zj_topi (nI ((183 * (((gMs_pf S) + ((gMs_pm S) - 1)) % 6)) + k)) (nI_add _ _) ?_
          refine zj_lald C 2 (f := (gMs_past S)) ((183 * (((gMs_pf S) + ((gMs_pm S) - 1)) % 6)) + k) (nI_clamp (by omega)) (vp_in_nI (by omega) (by omega)) rfl dX8_undo_58 ?_
          refine zj_last C 1 (f := A) (ws' := (WM cy m (sMs_pm (sMs_at S (vp_updL A k ((gMs_past S) ((183 * (((gMs_pf S) + ((gMs_pm S) - 1)) % 6)) + k)))) ((gMs_pm S) - 1)))) k (nI_clamp (by omega)) (vp_in_nI (by omega) (by omega)) rfl dX8_undo_59 rfl ?_
          refine zj_iinc C (j := 2) (v := (nI (k + 1))) (L' := [(2, .int (nI (k + 1))), (0, .ref (m 0)), (1, .int (nI (((gMs_pf S) + ((gMs_pm S) - 1)) % 6)))]) dX8_undo_60 rfl (nI_1 _) (by decide) rfl ?_
          refine zj_goto C 35 dX8_undo_63 (by decide) ?_
          refine zj_sub (L' := [(0, .ref (m 0)), (1, .int (nI (((gMs_pf S) + ((gMs_pm S) - 1)) % 6))), (2, .int (nI (k + 1)))]) [1, 2, 0] rfl ?_
          have hn_hk : (k + 1) ≤ 183 := (by omega)
          have hn_mu : 183 - (k + 1) < fuel := (by omega)
          have e_35 : (L_X8_undo S (fuel + 1) A k) = (L_X8_undo S fuel (vp_updL A k ((gMs_past S) ((183 * (((gMs_pf S) + ((gMs_pm S) - 1)) % 6)) + k))) (k + 1)) := by refine (L_X8_undo_s S fuel A k).trans ?_; refine (if_neg c_39).trans ?_; rfl
          rw [e_35] at K_35
          exact ih_35 (vp_updL A k ((gMs_past S) ((183 * (((gMs_pf S) + ((gMs_pm S) - 1)) % 6)) + k))) (k + 1) hn_hk hn_mu K_35
    have K_35 : ∀ (A1 : Nat → Int64) (k1 : Nat), A1 = ((L_X8_undo S (183 - 0 + 1) (gMs_at S) 0).1) → k1 = ((L_X8_undo S (183 - 0 + 1) (gMs_at S) 0).2) → zJ E 3 0 0 (WM cy m (sMs_pm (sMs_at S A1) ((gMs_pm S) - 1))) 66 [(0, .ref (m 0))] [] := by
      intro A1 k1 hA1 hk1 
      refine zj_aload_n C dX8_undo_66 0 rfl ?_
      refine zj_get C 0 8 3 (v := .int (nI ((gMs_pm S) - 1))) inZ8 rfl rfl (by decide) tg_680 rfl dX8_undo_67 ?_
      subst hk1
      subst hA1
      have e : f_X8_undo S = ((nI ((gMs_pm S) - 1)), (sMs_pm (sMs_at S ((L_X8_undo S (183 - 0 + 1) (gMs_at S) 0).1)) ((gMs_pm S) - 1))) := by refine (if_neg c_4).trans ?_; rfl
      rw [e] at hret
      exact hret _ _ dX8_undo_70
    refine zj_sub (L' := [(0, .ref (m 0)), (1, .int (nI (((gMs_pf S) + ((gMs_pm S) - 1)) % 6))), (2, .int (nI 0))]) [2, 1, 0] rfl ?_
    refine zj_eq (ws' := (WM cy m (sMs_pm (sMs_at S (gMs_at S)) ((gMs_pm S) - 1)))) rfl rfl rfl rfl ?_
    exact loop_35 (183 - 0 + 1) (gMs_at S) 0 (by omega) (Nat.lt_succ_self _) (K_35 _ _ rfl rfl)
  · have c_4 : (gMs_pm S) = 0 := ((zn_eq0 (by omega)).mp (Classical.not_not.mp c))
    refine zj_bipush C (v := (-5)) dX8_undo_7 (by decide) ?_
    have e : f_X8_undo S = ((-5), S) := by refine (if_pos c_4).trans ?_; rfl
    rw [e] at hret
    exact hret _ _ dX8_undo_9

noncomputable def L_X8_save (S : zMs) (sl : Int32) : Nat → (Nat → Int64) → (Nat) → (Nat → Int64) × (Nat)
  | 0, A, k => (A, k)
  | fuel + 1, A, k =>
    if 183 ≤ k then
      (A, k)
    else
      L_X8_save S sl fuel (vp_updL A (183 * sl.toNatClampNeg + k) ((gMs_at S) k)) (k + 1)
theorem L_X8_save_s (S : zMs) (sl : Int32) (fuel : Nat) (A : Nat → Int64) (k : Nat) : L_X8_save S sl (fuel + 1) A k = (
    if 183 ≤ k then
      (A, k)
    else
      L_X8_save S sl fuel (vp_updL A (183 * sl.toNatClampNeg + k) ((gMs_at S) k)) (k + 1)
  ) := rfl
noncomputable def f_X8_save (S : zMs) (sl : Int32) : Int32 × zMs :=
  if (f_X8_in (sl.toInt64) 0 1) = false then
    ((-2), S)
  else
    let A1 : Nat → Int64 := ((L_X8_save S sl (183 - 0 + 1) (gMs_sl S) 0).1)
    let k1 : Nat := ((L_X8_save S sl (183 - 0 + 1) (gMs_sl S) 0).2)
    (((((gMs_at S) 10)).toInt32), (sMs_sv (sMs_sl S A1) (upd (gMs_sv S) sl.toNatClampNeg (nI 1))))
set_option maxHeartbeats 4000000 in
set_option maxRecDepth 100000 in
theorem c_X8_save (l : Launch) (D : va_G) (cy : Nat → ClassId) (m : Nat → Nat) (sl : Int32)  (S : zMs)  : zC l yX8_save (zW yX8_save cX8_save 3 (Option.some Jvm.ClassFile.FieldType.int)) { frames := 1, cells := 0, slots := 0, locals := 25 } D cy [.ref (m 0), .int sl] (WM cy m S) (some (.int ((f_X8_save S sl).1))) (WM cy m ((f_X8_save S sl).2)) := by
  refine zC_of rfl (Nat.le_of_ble_eq_true rfl) (zOk_i _) (fun E C hret => ?_)
  show zJ E 3 0 0 (WM cy m S) 0 [(0, .ref (m 0)), (1, .int sl)] []
  refine zj_iload_n C dX8_save_0 1 rfl ?_
  refine zj_i2l C dX8_save_1 ?_
  refine zj_lconst C (v := 0) dX8_save_2 (by decide) ?_
  refine zj_lconst C (v := 1) dX8_save_3 (by decide) ?_
  refine zj_callS C (nn := 0) (ws' := (WM cy m S)) (st := []) (st1 := [.int (zB (f_X8_in (sl.toInt64) 0 1))]) [] (c_X8_in l D cy (sl.toInt64) 0 1  ) tg_730 tg_728 tg_729 tg_9 hdZ_X8_in ⟨rfl, rfl⟩ ⟨by decide, by decide⟩ rfl (by decide) ⟨rfl, rfl⟩ rfl rfl (Nat.le_of_ble_eq_true rfl) dX8_save_4 rfl rfl ?_
  refine zj_if_ne C 13 dX8_save_7 (by decide) (fun c => ?_) (fun c => ?_)
  · have c_7 : ¬ ((f_X8_in (sl.toInt64) 0 1) = false) := (zB_neq c)
    refine zj_iconst C (v := (nI 0)) dX8_save_13 (by decide) ?_
    have hsl := (zin_w (N := 2) c_7 (by decide)).2
    refine zj_istore_n C (L' := [(2, .int (nI 0)), (0, .ref (m 0)), (1, .int sl)]) dX8_save_14 rfl (by decide) rfl ?_
    have loop_15 : ∀ (fuel : Nat) (A : Nat → Int64) (k : Nat), (hk : k ≤ 183) → 183 - k < fuel → (zJ E 3 0 0 (WM cy m (sMs_sl S ((L_X8_save S sl fuel A k).1))) 46 [(0, .ref (m 0)), (1, .int sl)] []) → zJ E 3 0 0 (WM cy m (sMs_sl S A)) 15 [(0, .ref (m 0)), (1, .int sl), (2, .int (nI k))] [] := by
      intro fuel
      induction fuel with
      | zero => intro A k hk hmu; exact absurd hmu (Nat.not_lt_zero _)
      | succ fuel ih_15 =>
        intro A k hk hmu_15 K_15
        refine zj_iload_n C dX8_save_15 2 rfl ?_
        refine zj_sipush C (v := (nI 183)) dX8_save_16 (by decide) ?_
        refine zj_icmp_ge C 46 dX8_save_19 (by decide) (fun c => ?_) (fun c => ?_)
        · have c_19 : 183 ≤ k := ((nI_leI (by omega) (by omega)).mp c)
          refine zj_sub (L' := [(0, .ref (m 0)), (1, .int sl)]) [0, 1] rfl ?_
          have e_15 : (L_X8_save S sl (fuel + 1) A k) = (A, k) := by refine (L_X8_save_s S sl fuel A k).trans ?_; refine (if_pos c_19).trans ?_; rfl
          rw [e_15] at K_15
          exact K_15 
        · have c_19 : ¬ (183 ≤ k) := (fun q => c ((nI_leI (by omega) (by omega)).mpr q))
          refine zj_aload_n C dX8_save_22 0 rfl ?_
          refine zj_get C 0 8 4 (v := .ref (m 3)) inZ8 rfl rfl (by decide) tg_681 rfl dX8_save_23 ?_
          refine zj_sipush C (v := (nI 183)) dX8_save_26 (by decide) ?_
          refine zj_iload_n C dX8_save_29 1 rfl ?_
          refine zj_topi (nI sl.toNatClampNeg) (zin_w (N := 2) c_7 (by decide)).1 ?_
          refine zj_imul C dX8_save_30 ?_
          refine zj_topi (nI (183 * sl.toNatClampNeg)) (pk_mul _ _) ?_
          refine zj_iload_n C dX8_save_31 2 rfl ?_
          refine zj_iadd C dX8_save_32 ?_
          refine zj_topi (nI (183 * sl.toNatClampNeg + k)) (nI_add _ _) ?_
          refine zj_aload_n C dX8_save_33 0 rfl ?_
          refine zj_get C 0 8 0 (v := .ref (m 1)) inZ8 rfl rfl (by decide) tg_677 rfl dX8_save_34 ?_
          refine zj_iload_n C dX8_save_37 2 rfl ?_
          refine zj_lald C 1 (f := (gMs_at S)) k (nI_clamp (by omega)) (vp_in_nI (by omega) (by omega)) rfl dX8_save_38 ?_
          refine zj_last C 3 (f := A) (ws' := (WM cy m (sMs_sl S (vp_updL A (183 * sl.toNatClampNeg + k) ((gMs_at S) k))))) (183 * sl.toNatClampNeg + k) (nI_clamp (by omega)) (vp_in_nI (by omega) (by omega)) rfl dX8_save_39 rfl ?_
          refine zj_iinc C (j := 2) (v := (nI (k + 1))) (L' := [(2, .int (nI (k + 1))), (0, .ref (m 0)), (1, .int sl)]) dX8_save_40 rfl (nI_1 _) (by decide) rfl ?_
          refine zj_goto C 15 dX8_save_43 (by decide) ?_
          refine zj_sub (L' := [(0, .ref (m 0)), (1, .int sl), (2, .int (nI (k + 1)))]) [1, 2, 0] rfl ?_
          have hn_hk : (k + 1) ≤ 183 := (by omega)
          have hn_mu : 183 - (k + 1) < fuel := (by omega)
          have e_15 : (L_X8_save S sl (fuel + 1) A k) = (L_X8_save S sl fuel (vp_updL A (183 * sl.toNatClampNeg + k) ((gMs_at S) k)) (k + 1)) := by refine (L_X8_save_s S sl fuel A k).trans ?_; refine (if_neg c_19).trans ?_; rfl
          rw [e_15] at K_15
          exact ih_15 (vp_updL A (183 * sl.toNatClampNeg + k) ((gMs_at S) k)) (k + 1) hn_hk hn_mu K_15
    have K_15 : ∀ (A1 : Nat → Int64) (k1 : Nat), A1 = ((L_X8_save S sl (183 - 0 + 1) (gMs_sl S) 0).1) → k1 = ((L_X8_save S sl (183 - 0 + 1) (gMs_sl S) 0).2) → zJ E 3 0 0 (WM cy m (sMs_sl S A1)) 46 [(0, .ref (m 0)), (1, .int sl)] [] := by
      intro A1 k1 hA1 hk1 
      refine zj_aload_n C dX8_save_46 0 rfl ?_
      refine zj_get C 0 8 5 (v := .ref (m 4)) inZ8 rfl rfl (by decide) tg_682 rfl dX8_save_47 ?_
      refine zj_iload_n C dX8_save_50 1 rfl ?_
      refine zj_topi (nI sl.toNatClampNeg) (zin_w (N := 2) c_7 (by decide)).1 ?_
      refine zj_iconst C (v := (nI 1)) dX8_save_51 (by decide) ?_
      refine zj_zast C 4 (f := (gMs_sv S)) (ws' := (WM cy m (sMs_sv (sMs_sl S A1) (upd (gMs_sv S) sl.toNatClampNeg (nI 1))))) sl.toNatClampNeg (nI_clamp (by omega)) (vp_in_nI (by omega) (by omega)) rfl (by decide) dX8_save_52 rfl ?_
      refine zj_aload_n C dX8_save_53 0 rfl ?_
      refine zj_get C 0 8 0 (v := .ref (m 1)) inZ8 rfl rfl (by decide) tg_677 rfl dX8_save_54 ?_
      refine zj_bipush C (v := (nI 10)) dX8_save_57 (by decide) ?_
      refine zj_lald C 1 (f := (gMs_at S)) 10 (by decide) (vp_in_nI (by decide) (by decide)) rfl dX8_save_59 ?_
      refine zj_l2i C dX8_save_60 ?_
      subst hk1
      subst hA1
      have e : f_X8_save S sl = (((((gMs_at S) 10)).toInt32), (sMs_sv (sMs_sl S ((L_X8_save S sl (183 - 0 + 1) (gMs_sl S) 0).1)) (upd (gMs_sv S) sl.toNatClampNeg (nI 1)))) := by refine (if_neg c_7).trans ?_; rfl
      rw [e] at hret
      exact hret _ _ dX8_save_61
    refine zj_sub (L' := [(0, .ref (m 0)), (1, .int sl), (2, .int (nI 0))]) [1, 2, 0] rfl ?_
    refine zj_eq (ws' := (WM cy m (sMs_sl S (gMs_sl S)))) rfl rfl rfl rfl ?_
    exact loop_15 (183 - 0 + 1) (gMs_sl S) 0 (by omega) (Nat.lt_succ_self _) (K_15 _ _ rfl rfl)
  · have c_7 : (f_X8_in (sl.toInt64) 0 1) = false := (zB_eq (Classical.not_not.mp c))
    refine zj_bipush C (v := (-2)) dX8_save_10 (by decide) ?_
    have e : f_X8_save S sl = ((-2), S) := by refine (if_pos c_7).trans ?_; rfl
    rw [e] at hret
    exact hret _ _ dX8_save_12

noncomputable def L_X8_restore (S : zMs) (sl : Int32) : Nat → (Nat → Int64) → (Nat) → (Nat → Int64) × (Nat)
  | 0, A, k => (A, k)
  | fuel + 1, A, k =>
    if 183 ≤ k then
      (A, k)
    else
      L_X8_restore S sl fuel (vp_updL A k ((gMs_sl (f_X8_keep S)) (183 * sl.toNatClampNeg + k))) (k + 1)
theorem L_X8_restore_s (S : zMs) (sl : Int32) (fuel : Nat) (A : Nat → Int64) (k : Nat) : L_X8_restore S sl (fuel + 1) A k = (
    if 183 ≤ k then
      (A, k)
    else
      L_X8_restore S sl fuel (vp_updL A k ((gMs_sl (f_X8_keep S)) (183 * sl.toNatClampNeg + k))) (k + 1)
  ) := rfl
noncomputable def f_X8_restore (S : zMs) (sl : Int32) : Int32 × zMs :=
  if (f_X8_in (sl.toInt64) 0 1) = false then
    ((-2), S)
  else
    if ((gMs_sv S) sl.toNatClampNeg) = 0 then
      ((-5), S)
    else
      let A1 : Nat → Int64 := ((L_X8_restore S sl (183 - 0 + 1) (gMs_at (f_X8_keep S)) 0).1)
      let k1 : Nat := ((L_X8_restore S sl (183 - 0 + 1) (gMs_at (f_X8_keep S)) 0).2)
      ((((A1 10)).toInt32), (sMs_at (f_X8_keep S) A1))
set_option maxHeartbeats 4000000 in
set_option maxRecDepth 100000 in
theorem c_X8_restore (l : Launch) (D : va_G) (cy : Nat → ClassId) (m : Nat → Nat) (sl : Int32)  (S : zMs) (hf : gMs_pf S < 6) (hm : gMs_pm S ≤ 6) : zC l yX8_restore (zW yX8_restore cX8_restore 3 (Option.some Jvm.ClassFile.FieldType.int)) { frames := 1, cells := 0, slots := 0, locals := 25 } D cy [.ref (m 0), .int sl] (WM cy m S) (some (.int ((f_X8_restore S sl).1))) (WM cy m ((f_X8_restore S sl).2)) := by
  refine zC_of rfl (Nat.le_of_ble_eq_true rfl) (zOk_i _) (fun E C hret => ?_)
  show zJ E 3 0 0 (WM cy m S) 0 [(0, .ref (m 0)), (1, .int sl)] []
  refine zj_iload_n C dX8_restore_0 1 rfl ?_
  refine zj_i2l C dX8_restore_1 ?_
  refine zj_lconst C (v := 0) dX8_restore_2 (by decide) ?_
  refine zj_lconst C (v := 1) dX8_restore_3 (by decide) ?_
  refine zj_callS C (nn := 0) (ws' := (WM cy m S)) (st := []) (st1 := [.int (zB (f_X8_in (sl.toInt64) 0 1))]) [] (c_X8_in l D cy (sl.toInt64) 0 1  ) tg_730 tg_728 tg_729 tg_9 hdZ_X8_in ⟨rfl, rfl⟩ ⟨by decide, by decide⟩ rfl (by decide) ⟨rfl, rfl⟩ rfl rfl (Nat.le_of_ble_eq_true rfl) dX8_restore_4 rfl rfl ?_
  refine zj_if_ne C 13 dX8_restore_7 (by decide) (fun c => ?_) (fun c => ?_)
  · have c_7 : ¬ ((f_X8_in (sl.toInt64) 0 1) = false) := (zB_neq c)
    refine zj_aload_n C dX8_restore_13 0 rfl ?_
    have hsl := (zin_w (N := 2) c_7 (by decide)).2
    refine zj_get C 0 8 5 (v := .ref (m 4)) inZ8 rfl rfl (by decide) tg_682 rfl dX8_restore_14 ?_
    refine zj_iload_n C dX8_restore_17 1 rfl ?_
    refine zj_topi (nI sl.toNatClampNeg) (zin_w (N := 2) c_7 (by decide)).1 ?_
    refine zj_zald C 4 (f := (gMs_sv S)) sl.toNatClampNeg (nI_clamp (by omega)) (vp_in_nI (by omega) (by omega)) rfl dX8_restore_18 ?_
    refine zj_if_ne C 25 dX8_restore_19 (by decide) (fun c => ?_) (fun c => ?_)
    · have c_19 : ¬ (((gMs_sv S) sl.toNatClampNeg) = 0) := c
      refine zj_aload_n C dX8_restore_25 0 rfl ?_
      refine zj_callV C (nn := 10) (ws' := (WM cy m (f_X8_keep S))) (st := []) (st1 := []) 0 8 [0, 1, 2, 3, 4, 5, 6, 7, 8, 9] (c_X8_keep l D cy m  S hf hm) (zg_V tg_734 tg_731 tg_733 tgp_14 tg_9) ⟨rfl, hdZ_X8_keep⟩ ⟨rfl, rfl⟩ ⟨by decide, by decide⟩ rfl rfl rfl (by decide) ⟨rfl, rfl⟩ rfl rfl (Nat.le_of_ble_eq_true rfl) dX8_restore_26 rfl rfl ?_
      refine zj_iconst C (v := (nI 0)) dX8_restore_29 (by decide) ?_
      refine zj_istore_n C (L' := [(2, .int (nI 0)), (0, .ref (m 0)), (1, .int sl)]) dX8_restore_30 rfl (by decide) rfl ?_
      have loop_31 : ∀ (fuel : Nat) (A : Nat → Int64) (k : Nat), (hk : k ≤ 183) → 183 - k < fuel → (zJ E 3 0 0 (WM cy m (sMs_at (f_X8_keep S) ((L_X8_restore S sl fuel A k).1))) 62 [(0, .ref (m 0))] []) → zJ E 3 0 0 (WM cy m (sMs_at (f_X8_keep S) A)) 31 [(0, .ref (m 0)), (1, .int sl), (2, .int (nI k))] [] := by
        intro fuel
        induction fuel with
        | zero => intro A k hk hmu; exact absurd hmu (Nat.not_lt_zero _)
        | succ fuel ih_31 =>
          intro A k hk hmu_31 K_31
          refine zj_iload_n C dX8_restore_31 2 rfl ?_
          refine zj_sipush C (v := (nI 183)) dX8_restore_32 (by decide) ?_
          refine zj_icmp_ge C 62 dX8_restore_35 (by decide) (fun c => ?_) (fun c => ?_)
          · have c_35 : 183 ≤ k := ((nI_leI (by omega) (by omega)).mp c)
            refine zj_sub (L' := [(0, .ref (m 0))]) [0] rfl ?_
            have e_31 : (L_X8_restore S sl (fuel + 1) A k) = (A, k) := by refine (L_X8_restore_s S sl fuel A k).trans ?_; refine (if_pos c_35).trans ?_; rfl
            rw [e_31] at K_31
            exact K_31 
          · have c_35 : ¬ (183 ≤ k) := (fun q => c ((nI_leI (by omega) (by omega)).mpr q))
            refine zj_aload_n C dX8_restore_38 0 rfl ?_
            refine zj_get C 0 8 0 (v := .ref (m 1)) inZ8 rfl rfl (by decide) tg_677 rfl dX8_restore_39 ?_
            refine zj_iload_n C dX8_restore_42 2 rfl ?_
            refine zj_aload_n C dX8_restore_43 0 rfl ?_
            refine zj_get C 0 8 4 (v := .ref (m 3)) inZ8 rfl rfl (by decide) tg_681 rfl dX8_restore_44 ?_
            refine zj_sipush C (v := (nI 183)) dX8_restore_47 (by decide) ?_
            refine zj_iload_n C dX8_restore_50 1 rfl ?_
            refine zj_topi (nI sl.toNatClampNeg) (zin_w (N := 2) c_7 (by decide)).1 ?_
            refine zj_imul C dX8_restore_51 ?_
            refine zj_topi (nI (183 * sl.toNatClampNeg)) (pk_mul _ _) ?_
            refine zj_iload_n C dX8_restore_52 2 rfl ?_
            refine zj_iadd C dX8_restore_53 ?_
            refine zj_topi (nI (183 * sl.toNatClampNeg + k)) (nI_add _ _) ?_
            refine zj_lald C 3 (f := (gMs_sl (f_X8_keep S))) (183 * sl.toNatClampNeg + k) (nI_clamp (by omega)) (vp_in_nI (by omega) (by omega)) rfl dX8_restore_54 ?_
            refine zj_last C 1 (f := A) (ws' := (WM cy m (sMs_at (f_X8_keep S) (vp_updL A k ((gMs_sl (f_X8_keep S)) (183 * sl.toNatClampNeg + k)))))) k (nI_clamp (by omega)) (vp_in_nI (by omega) (by omega)) rfl dX8_restore_55 rfl ?_
            refine zj_iinc C (j := 2) (v := (nI (k + 1))) (L' := [(2, .int (nI (k + 1))), (0, .ref (m 0)), (1, .int sl)]) dX8_restore_56 rfl (nI_1 _) (by decide) rfl ?_
            refine zj_goto C 31 dX8_restore_59 (by decide) ?_
            refine zj_sub (L' := [(0, .ref (m 0)), (1, .int sl), (2, .int (nI (k + 1)))]) [1, 2, 0] rfl ?_
            have hn_hk : (k + 1) ≤ 183 := (by omega)
            have hn_mu : 183 - (k + 1) < fuel := (by omega)
            have e_31 : (L_X8_restore S sl (fuel + 1) A k) = (L_X8_restore S sl fuel (vp_updL A k ((gMs_sl (f_X8_keep S)) (183 * sl.toNatClampNeg + k))) (k + 1)) := by refine (L_X8_restore_s S sl fuel A k).trans ?_; refine (if_neg c_35).trans ?_; rfl
            rw [e_31] at K_31
            exact ih_31 (vp_updL A k ((gMs_sl (f_X8_keep S)) (183 * sl.toNatClampNeg + k))) (k + 1) hn_hk hn_mu K_31
      have K_31 : ∀ (A1 : Nat → Int64) (k1 : Nat), A1 = ((L_X8_restore S sl (183 - 0 + 1) (gMs_at (f_X8_keep S)) 0).1) → k1 = ((L_X8_restore S sl (183 - 0 + 1) (gMs_at (f_X8_keep S)) 0).2) → zJ E 3 0 0 (WM cy m (sMs_at (f_X8_keep S) A1)) 62 [(0, .ref (m 0))] [] := by
        intro A1 k1 hA1 hk1 
        refine zj_aload_n C dX8_restore_62 0 rfl ?_
        refine zj_get C 0 8 0 (v := .ref (m 1)) inZ8 rfl rfl (by decide) tg_677 rfl dX8_restore_63 ?_
        refine zj_bipush C (v := (nI 10)) dX8_restore_66 (by decide) ?_
        refine zj_lald C 1 (f := A1) 10 (by decide) (vp_in_nI (by decide) (by decide)) rfl dX8_restore_68 ?_
        refine zj_l2i C dX8_restore_69 ?_
        subst hk1
        subst hA1
        have e : f_X8_restore S sl = ((((((L_X8_restore S sl (183 - 0 + 1) (gMs_at (f_X8_keep S)) 0).1) 10)).toInt32), (sMs_at (f_X8_keep S) ((L_X8_restore S sl (183 - 0 + 1) (gMs_at (f_X8_keep S)) 0).1))) := by refine (if_neg c_7).trans ?_; refine (if_neg c_19).trans ?_; rfl
        rw [e] at hret
        exact hret _ _ dX8_restore_70
      refine zj_sub (L' := [(0, .ref (m 0)), (1, .int sl), (2, .int (nI 0))]) [1, 2, 0] rfl ?_
      refine zj_eq (ws' := (WM cy m (sMs_at (f_X8_keep S) (gMs_at (f_X8_keep S))))) rfl rfl rfl rfl ?_
      exact loop_31 (183 - 0 + 1) (gMs_at (f_X8_keep S)) 0 (by omega) (Nat.lt_succ_self _) (K_31 _ _ rfl rfl)
    · have c_19 : ((gMs_sv S) sl.toNatClampNeg) = 0 := (Classical.not_not.mp c)
      refine zj_bipush C (v := (-5)) dX8_restore_22 (by decide) ?_
      have e : f_X8_restore S sl = ((-5), S) := by refine (if_neg c_7).trans ?_; refine (if_pos c_19).trans ?_; rfl
      rw [e] at hret
      exact hret _ _ dX8_restore_24
  · have c_7 : (f_X8_in (sl.toInt64) 0 1) = false := (zB_eq (Classical.not_not.mp c))
    refine zj_bipush C (v := (-2)) dX8_restore_10 (by decide) ?_
    have e : f_X8_restore S sl = ((-2), S) := by refine (if_pos c_7).trans ?_; rfl
    rw [e] at hret
    exact hret _ _ dX8_restore_12
