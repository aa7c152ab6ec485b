theorem zk_deal {x : zPd} (hz : zpd x) : zpk x (f_X5_readDeal x).2 := by
  unfold f_X5_readDeal
  rw [zsl_e]
  dsimp only
  have hd : ∀ d : Int32, d = f_X5_digitAt x → f_X7_isHolder d = true → gPd_at x < gPd_n x := fun d e h => xdig_lt (x := x) (by rw [← e]; exact Int32.not_lt.mp (xh_t (h := d) (by rw [h]; decide)).1)
  generalize f_X5_digitAt x = d at hd
  by_cases c : f_X7_isHolder d = false
  · rw [if_pos c]; exact zpk_r hz
  rw [if_neg c]
  have h1 := hd d rfl (zbt c)
  have z1 : zpd (sPd_ho (sPd_at x (gPd_at x + 1)) d) := ⟨hz.1, h1, hz.2.2⟩
  have k1 : zpk x (sPd_ho (sPd_at x (gPd_at x + 1)) d) := ⟨rfl, rfl, Nat.le_succ _, h1⟩
  have k2 := zk_skip (sg := nI 58) (by decide) z1
  have z2 := zpd_of z1 k2
  generalize f_X5_skip (sPd_ho (sPd_at x (gPd_at x + 1)) d) (nI 58) = Y at k2 z2 ⊢
  have k12 := zpk_t k1 k2
  by_cases c2 : Y.1 = false
  · rw [if_pos c2]; exact k12
  rw [if_neg c2]
  have k3 := zk_num (nI 1000000) z2
  have z3 := zpd_of z2 k3
  generalize f_X5_readNumber Y.2 (nI 1000000) = N at k3 z3 ⊢
  have k13 := zpk_t k12 k3
  by_cases c3 : 0 ≤ N.1
  · rw [if_pos c3]
    have k4 := zk_skip (x := sPd_nu N.2 N.1) (sg := nI 64) (by decide) z3
    have z4 := zpd_of (x := sPd_nu N.2 N.1) z3 k4
    generalize f_X5_skip (sPd_nu N.2 N.1) (nI 64) = K at k4 z4 ⊢
    have k14 : zpk x K.2 := zpk_t k13 k4
    have k5 := zk_num (nI 23) z4
    generalize f_X5_readNumber K.2 (nI 23) = Q at k5 ⊢
    by_cases c4 : K.1 = false
    · rw [if_pos c4, if_pos c4]; exact k14
    · rw [if_neg c4, if_neg c4]; exact zpk_t k14 k5
  · rw [if_neg c3]; exact k13

noncomputable def f_X5_readOrder (x : zPd) : Bool × zPd := zsl (
  let R_6 : Int32 := (f_X5_signAt x (gPd_at x))
  if R_6 = nI 98 then
    let V_103 : Nat := (gPd_at x) + 1
    let T_107 : zPd := ((f_X5_readDeal (sPd_kd (sPd_at x V_103) R_6)).2)
    let R_107_1 : Bool := ((f_X5_readDeal (sPd_kd (sPd_at x V_103) R_6)).1)
    (R_107_1, T_107)
  else
    if R_6 = nI 100 then
      let V_151 : Nat := (gPd_at x) + 1
      (true, (sPd_kd (sPd_at x V_151) R_6))
    else
      if R_6 = nI 105 then
        let V_118 : Nat := (gPd_at x) + 1
        let T_125 : zPd := ((f_X5_readNumber (sPd_kd (sPd_at x V_118) R_6) (nI 1000000)).2)
        let R_125_1 : Int32 := ((f_X5_readNumber (sPd_kd (sPd_at x V_118) R_6) (nI 1000000)).1)
        let x135_0 : Bool := (if R_125_1 < 0 then false else true)
        (x135_0, (sPd_nu T_125 R_125_1))
      else
        if R_6 = nI 108 then
          let V_103 : Nat := (gPd_at x) + 1
          let T_107 : zPd := ((f_X5_readDeal (sPd_kd (sPd_at x V_103) R_6)).2)
          let R_107_1 : Bool := ((f_X5_readDeal (sPd_kd (sPd_at x V_103) R_6)).1)
          (R_107_1, T_107)
        else
          if R_6 = nI 112 then
            let V_151 : Nat := (gPd_at x) + 1
            (true, (sPd_kd (sPd_at x V_151) R_6))
          else
            if R_6 = nI 113 then
              let V_118 : Nat := (gPd_at x) + 1
              let T_125 : zPd := ((f_X5_readNumber (sPd_kd (sPd_at x V_118) R_6) (nI 1000000)).2)
              let R_125_1 : Int32 := ((f_X5_readNumber (sPd_kd (sPd_at x V_118) R_6) (nI 1000000)).1)
              let x135_0 : Bool := (if R_125_1 < 0 then false else true)
              (x135_0, (sPd_nu T_125 R_125_1))
            else
              (false, (sPd_kd x R_6))
  )
set_option maxHeartbeats 4000000 in
set_option maxRecDepth 100000 in
theorem c_X5_readOrder (l : Launch) (D : va_G) (cy : Nat → ClassId) (p0 p1 : Nat)  (x : zPd) (hz : zpd x) : zC l yX5_readOrder (zW yX5_readOrder cX5_readOrder 1 (Option.some Jvm.ClassFile.FieldType.boolean)) { frames := 4, cells := 0, slots := 0, locals := 85 } D cy [.ref p0] (WP cy p0 p1 x) (some (.int (zB ((f_X5_readOrder x).1)))) (WP cy p0 p1 ((f_X5_readOrder x).2)) := by
  refine zC_of rfl (Nat.le_of_ble_eq_true rfl) (zOk_z (zB_01 _)) (fun E C hret => ?_)
  have hn := hz.1
  show zJ E 1 0 0 (WP cy p0 p1 x) 0 [(0, .ref p0)] []
  refine zj_aload_n C dX5_readOrder_0 0 rfl ?_
  refine zj_aload_n C dX5_readOrder_1 0 rfl ?_
  refine zj_aload_n C dX5_readOrder_2 0 rfl ?_
  refine zj_get C 0 5 2 (v := .int (nI (gPd_at x))) inZ5 rfl rfl (by decide) tg_232 rfl dX5_readOrder_3 ?_
  have M_6 := c_X5_signAt l D cy p0 p1 (gPd_at x) x (Nat.le_trans hz.2.1 hn) hz
  obtain ⟨R_6, hR_6⟩ : ∃ g : Int32, g = (f_X5_signAt x (gPd_at x)) := ⟨_, rfl⟩
  rw [← hR_6] at M_6
  refine zj_callV C (nn := 2) (ws' := (WP cy p0 p1 x)) (st := [.ref p0]) (st1 := [.int R_6, .ref p0]) 0 5 [0, 1] (M_6) (zg_V tg_614 tg_611 tg_612 tg_613 tg_7) ⟨rfl, hdZ_X5_signAt⟩ ⟨rfl, rfl⟩ ⟨by decide, by decide⟩ rfl rfl rfl (by decide) ⟨rfl, rfl⟩ rfl rfl (Nat.le_of_ble_eq_true rfl) dX5_readOrder_6 rfl rfl ?_
  have q6 : zch R_6 := by { rw [hR_6]; exact zch_sign hz _ }
  refine zj_put C 0 5 6 (v := .int R_6) (ws' := (WP cy p0 p1 (sPd_kd x R_6))) tyX5 tyX5_ok nmX5 inZ5 rfl rfl (by decide) tg_239 rfl (zch_n q6) (zch_f q6) (Nat.le_of_ble_eq_true rfl) dX5_readOrder_9 rfl ?_
  refine zj_aload_n C dX5_readOrder_12 0 rfl ?_
  refine zj_get C 0 5 6 (v := .int R_6) inZ5 rfl rfl (by decide) tg_239 rfl dX5_readOrder_13 ?_
  by_cases c_16_98 : R_6 = nI 98
  · refine zj_topi (nI 98) c_16_98 ?_
    refine zj_tin C (off := 80) 96 dX5_readOrder_16 (by decide) (by decide) rfl (by decide) ?_
    refine zj_aload_n C dX5_readOrder_96 0 rfl ?_
    refine zj_dup C dX5_readOrder_97 rfl ?_
    refine zj_get C 0 5 2 (v := .int (nI (gPd_at x))) inZ5 rfl rfl (by decide) tg_232 rfl dX5_readOrder_98 ?_
    refine zj_iconst C (v := (nI 1)) dX5_readOrder_101 (by decide) ?_
    refine zj_iadd C dX5_readOrder_102 ?_
    refine zj_topi (nI ((gPd_at x) + 1)) (nI_add _ _) ?_
    obtain ⟨V_103, hV_103⟩ : ∃ g : Nat, g = (gPd_at x) + 1 := ⟨_, rfl⟩
    refine zj_topi (nI V_103) (congrArg nI hV_103.symm) ?_
    refine zj_put C 0 5 2 (v := .int (nI V_103)) (ws' := (WP cy p0 p1 (sPd_kd (sPd_at x V_103) R_6))) tyX5 tyX5_ok nmX5 inZ5 rfl rfl (by decide) tg_232 rfl rfl rfl (Nat.le_of_ble_eq_true rfl) dX5_readOrder_103 rfl ?_
    have z103 : zpd (sPd_at (sPd_kd x R_6) V_103) := ⟨hz.1, (by show V_103 ≤ gPd_n x; have r := xsign_lt (x := x) (i := gPd_at x) (by rw [← hR_6]; first | (rw [c_16_98]; decide) | (rw [c_16_108]; decide)); omega), hz.2.2⟩
    refine zj_aload_n C dX5_readOrder_106 0 rfl ?_
    have M_107 := c_X5_readDeal l D cy p0 p1  (sPd_kd (sPd_at x V_103) R_6) z103
    obtain ⟨T_107, hT_107⟩ : ∃ g : zPd, g = ((f_X5_readDeal (sPd_kd (sPd_at x V_103) R_6)).2) := ⟨_, rfl⟩
    rw [← hT_107] at M_107
    obtain ⟨R_107_1, hR_107_1⟩ : ∃ g : Bool, g = ((f_X5_readDeal (sPd_kd (sPd_at x V_103) R_6)).1) := ⟨_, rfl⟩
    rw [← hR_107_1] at M_107
    refine zj_callV C (nn := 2) (ws' := (WP cy p0 p1 T_107)) (st := []) (st1 := [.int (zB R_107_1)]) 0 5 [0, 1] (M_107) (zg_V tg_618 tg_615 tg_617 tgp_9 tg_7) ⟨rfl, hdZ_X5_readDeal⟩ ⟨rfl, rfl⟩ ⟨by decide, by decide⟩ rfl rfl rfl (by decide) ⟨rfl, rfl⟩ rfl rfl (Nat.le_of_ble_eq_true rfl) dX5_readOrder_107 rfl rfl ?_
    subst hR_107_1
    subst hT_107
    subst hV_103
    subst hR_6
    have e : f_X5_readOrder x = (((f_X5_readDeal (sPd_kd (sPd_at x ((gPd_at x) + 1)) (f_X5_signAt x (gPd_at x)))).1), ((f_X5_readDeal (sPd_kd (sPd_at x ((gPd_at x) + 1)) (f_X5_signAt x (gPd_at x)))).2)) := by refine (zsl_e _).trans ?_; refine (if_pos c_16_98).trans ?_; rfl
    rw [e] at hret
    exact hret _ _ dX5_readOrder_110
  · skip
    by_cases c_16_100 : R_6 = nI 100
    · refine zj_topi (nI 100) c_16_100 ?_
      refine zj_tin C (off := 128) 144 dX5_readOrder_16 (by decide) (by decide) rfl (by decide) ?_
      refine zj_aload_n C dX5_readOrder_144 0 rfl ?_
      refine zj_dup C dX5_readOrder_145 rfl ?_
      refine zj_get C 0 5 2 (v := .int (nI (gPd_at x))) inZ5 rfl rfl (by decide) tg_232 rfl dX5_readOrder_146 ?_
      refine zj_iconst C (v := (nI 1)) dX5_readOrder_149 (by decide) ?_
      refine zj_iadd C dX5_readOrder_150 ?_
      refine zj_topi (nI ((gPd_at x) + 1)) (nI_add _ _) ?_
      obtain ⟨V_151, hV_151⟩ : ∃ g : Nat, g = (gPd_at x) + 1 := ⟨_, rfl⟩
      refine zj_topi (nI V_151) (congrArg nI hV_151.symm) ?_
      refine zj_put C 0 5 2 (v := .int (nI V_151)) (ws' := (WP cy p0 p1 (sPd_kd (sPd_at x V_151) R_6))) tyX5 tyX5_ok nmX5 inZ5 rfl rfl (by decide) tg_232 rfl rfl rfl (Nat.le_of_ble_eq_true rfl) dX5_readOrder_151 rfl ?_
      refine zj_iconst C (v := (nI 1)) dX5_readOrder_154 (by decide) ?_
      subst hV_151
      subst hR_6
      have e : f_X5_readOrder x = (true, (sPd_kd (sPd_at x ((gPd_at x) + 1)) (f_X5_signAt x (gPd_at x)))) := by refine (zsl_e _).trans ?_; refine (if_neg c_16_98).trans ?_; refine (if_pos c_16_100).trans ?_; rfl
      rw [e] at hret
      exact hret _ _ dX5_readOrder_155
    · skip
      by_cases c_16_105 : R_6 = nI 105
      · refine zj_topi (nI 105) c_16_105 ?_
        refine zj_tin C (off := 95) 111 dX5_readOrder_16 (by decide) (by decide) rfl (by decide) ?_
        refine zj_aload_n C dX5_readOrder_111 0 rfl ?_
        refine zj_dup C dX5_readOrder_112 rfl ?_
        refine zj_get C 0 5 2 (v := .int (nI (gPd_at x))) inZ5 rfl rfl (by decide) tg_232 rfl dX5_readOrder_113 ?_
        refine zj_iconst C (v := (nI 1)) dX5_readOrder_116 (by decide) ?_
        refine zj_iadd C dX5_readOrder_117 ?_
        refine zj_topi (nI ((gPd_at x) + 1)) (nI_add _ _) ?_
        obtain ⟨V_118, hV_118⟩ : ∃ g : Nat, g = (gPd_at x) + 1 := ⟨_, rfl⟩
        refine zj_topi (nI V_118) (congrArg nI hV_118.symm) ?_
        refine zj_put C 0 5 2 (v := .int (nI V_118)) (ws' := (WP cy p0 p1 (sPd_kd (sPd_at x V_118) R_6))) tyX5 tyX5_ok nmX5 inZ5 rfl rfl (by decide) tg_232 rfl rfl rfl (Nat.le_of_ble_eq_true rfl) dX5_readOrder_118 rfl ?_
        have z118 : zpd (sPd_at (sPd_kd x R_6) V_118) := ⟨hz.1, (by show V_118 ≤ gPd_n x; have r := xsign_lt (x := x) (i := gPd_at x) (by rw [← hR_6]; first | (rw [c_16_113]; decide) | (rw [c_16_105]; decide)); omega), hz.2.2⟩
        refine zj_aload_n C dX5_readOrder_121 0 rfl ?_
        refine zj_aload_n C dX5_readOrder_122 0 rfl ?_
        refine zj_ldc C dX5_readOrder_123 tg_628 ?_
        refine zj_topi (nI 1000000) (by decide) ?_
        have M_125 := c_X5_readNumber l D cy p0 p1 (nI 1000000) (sPd_kd (sPd_at x V_118) R_6) z118
        obtain ⟨T_125, hT_125⟩ : ∃ g : zPd, g = ((f_X5_readNumber (sPd_kd (sPd_at x V_118) R_6) (nI 1000000)).2) := ⟨_, rfl⟩
        rw [← hT_125] at M_125
        obtain ⟨R_125_1, hR_125_1⟩ : ∃ g : Int32, g = ((f_X5_readNumber (sPd_kd (sPd_at x V_118) R_6) (nI 1000000)).1) := ⟨_, rfl⟩
        rw [← hR_125_1] at M_125
        refine zj_callV C (nn := 2) (ws' := (WP cy p0 p1 T_125)) (st := [.ref p0]) (st1 := [.int R_125_1, .ref p0]) 0 5 [0, 1] (M_125) (zg_V tg_632 tg_629 tg_631 tgp_11 tg_7) ⟨rfl, hdZ_X5_readNumber⟩ ⟨rfl, rfl⟩ ⟨by decide, by decide⟩ rfl rfl rfl (by decide) ⟨rfl, rfl⟩ rfl rfl (Nat.le_of_ble_eq_true rfl) dX5_readOrder_125 rfl rfl ?_
        refine zj_put C 0 5 4 (v := .int R_125_1) (ws' := (WP cy p0 p1 (sPd_nu T_125 R_125_1))) tyX5 tyX5_ok nmX5 inZ5 rfl rfl (by decide) tg_235 rfl rfl rfl (Nat.le_of_ble_eq_true rfl) dX5_readOrder_128 rfl ?_
        refine zj_aload_n C dX5_readOrder_131 0 rfl ?_
        refine zj_get C 0 5 4 (v := .int R_125_1) inZ5 rfl rfl (by decide) tg_235 rfl dX5_readOrder_132 ?_
        have J_135 : ∀ (x135_0 : Bool), x135_0 = (if R_125_1 < 0 then false else true) → zJ E 1 0 0 (WP cy p0 p1 (sPd_nu T_125 R_125_1)) 143 [(0, .ref p0)] [.int (zB x135_0)] := by
          intro x135_0 hx135_0
          subst hx135_0
          subst hR_125_1
          subst hT_125
          subst hV_118
          subst hR_6
          have e : f_X5_readOrder x = ((if ((f_X5_readNumber (sPd_kd (sPd_at x ((gPd_at x) + 1)) (f_X5_signAt x (gPd_at x))) (nI 1000000)).1) < 0 then false else true), (sPd_nu ((f_X5_readNumber (sPd_kd (sPd_at x ((gPd_at x) + 1)) (f_X5_signAt x (gPd_at x))) (nI 1000000)).2) ((f_X5_readNumber (sPd_kd (sPd_at x ((gPd_at x) + 1)) (f_X5_signAt x (gPd_at x))) (nI 1000000)).1))) := by refine (zsl_e _).trans ?_; refine (if_neg c_16_98).trans ?_; refine (if_neg c_16_100).trans ?_; refine (if_pos c_16_105).trans ?_; rfl
          rw [e] at hret
          exact hret _ _ dX5_readOrder_143
        refine zj_if_lt C 142 dX5_readOrder_135 (by decide) (fun c => ?_) (fun c => ?_)
        · have c_135 : R_125_1 < 0 := c
          refine zj_iconst C (v := (nI 0)) dX5_readOrder_142 (by decide) ?_
          exact J_135 false (by simp only [if_neg c_16_98, if_neg c_16_100, if_pos c_16_105, if_pos c_135]; first | done | assumption)
        · have c_135 : ¬ (R_125_1 < 0) := c
          refine zj_iconst C (v := (nI 1)) dX5_readOrder_138 (by decide) ?_
          refine zj_goto C 143 dX5_readOrder_139 (by decide) ?_
          exact J_135 true (by simp only [if_neg c_16_98, if_neg c_16_100, if_pos c_16_105, if_neg c_135]; first | done | assumption)
      · skip
        by_cases c_16_108 : R_6 = nI 108
        · refine zj_topi (nI 108) c_16_108 ?_
          refine zj_tin C (off := 80) 96 dX5_readOrder_16 (by decide) (by decide) rfl (by decide) ?_
          refine zj_aload_n C dX5_readOrder_96 0 rfl ?_
          refine zj_dup C dX5_readOrder_97 rfl ?_
          refine zj_get C 0 5 2 (v := .int (nI (gPd_at x))) inZ5 rfl rfl (by decide) tg_232 rfl dX5_readOrder_98 ?_
          refine zj_iconst C (v := (nI 1)) dX5_readOrder_101 (by decide) ?_
          refine zj_iadd C dX5_readOrder_102 ?_
          refine zj_topi (nI ((gPd_at x) + 1)) (nI_add _ _) ?_
          obtain ⟨V_103, hV_103⟩ : ∃ g : Nat, g = (gPd_at x) + 1 := ⟨_, rfl⟩
          refine zj_topi (nI V_103) (congrArg nI hV_103.symm) ?_
          refine zj_put C 0 5 2 (v := .int (nI V_103)) (ws' := (WP cy p0 p1 (sPd_kd (sPd_at x V_103) R_6))) tyX5 tyX5_ok nmX5 inZ5 rfl rfl (by decide) tg_232 rfl rfl rfl (Nat.le_of_ble_eq_true rfl) dX5_readOrder_103 rfl ?_
          have z103 : zpd (sPd_at (sPd_kd x R_6) V_103) := ⟨hz.1, (by show V_103 ≤ gPd_n x; have r := xsign_lt (x := x) (i := gPd_at x) (by rw [← hR_6]; first | (rw [c_16_98]; decide) | (rw [c_16_108]; decide)); omega), hz.2.2⟩
          refine zj_aload_n C dX5_readOrder_106 0 rfl ?_
          have M_107 := c_X5_readDeal l D cy p0 p1  (sPd_kd (sPd_at x V_103) R_6) z103
          obtain ⟨T_107, hT_107⟩ : ∃ g : zPd, g = ((f_X5_readDeal (sPd_kd (sPd_at x V_103) R_6)).2) := ⟨_, rfl⟩
          rw [← hT_107] at M_107
          obtain ⟨R_107_1, hR_107_1⟩ : ∃ g : Bool, g = ((f_X5_readDeal (sPd_kd (sPd_at x V_103) R_6)).1) := ⟨_, rfl⟩
          rw [← hR_107_1] at M_107
          refine zj_callV C (nn := 2) (ws' := (WP cy p0 p1 T_107)) (st := []) (st1 := [.int (zB R_107_1)]) 0 5 [0, 1] (M_107) (zg_V tg_618 tg_615 tg_617 tgp_9 tg_7) ⟨rfl, hdZ_X5_readDeal⟩ ⟨rfl, rfl⟩ ⟨by decide, by decide⟩ rfl rfl rfl (by decide) ⟨rfl, rfl⟩ rfl rfl (Nat.le_of_ble_eq_true rfl) dX5_readOrder_107 rfl rfl ?_
          subst hR_107_1
          subst hT_107
          subst hV_103
          subst hR_6
          have e : f_X5_readOrder x = (((f_X5_readDeal (sPd_kd (sPd_at x ((gPd_at x) + 1)) (f_X5_signAt x (gPd_at x)))).1), ((f_X5_readDeal (sPd_kd (sPd_at x ((gPd_at x) + 1)) (f_X5_signAt x (gPd_at x)))).2)) := by refine (zsl_e _).trans ?_; refine (if_neg c_16_98).trans ?_; refine (if_neg c_16_100).trans ?_; refine (if_neg c_16_105).trans ?_; refine (if_pos c_16_108).trans ?_; rfl
          rw [e] at hret
          exact hret _ _ dX5_readOrder_110
        · skip
          by_cases c_16_112 : R_6 = nI 112
          · refine zj_topi (nI 112) c_16_112 ?_
            refine zj_tin C (off := 128) 144 dX5_readOrder_16 (by decide) (by decide) rfl (by decide) ?_
            refine zj_aload_n C dX5_readOrder_144 0 rfl ?_
            refine zj_dup C dX5_readOrder_145 rfl ?_
            refine zj_get C 0 5 2 (v := .int (nI (gPd_at x))) inZ5 rfl rfl (by decide) tg_232 rfl dX5_readOrder_146 ?_
            refine zj_iconst C (v := (nI 1)) dX5_readOrder_149 (by decide) ?_
            refine zj_iadd C dX5_readOrder_150 ?_
            refine zj_topi (nI ((gPd_at x) + 1)) (nI_add _ _) ?_
            obtain ⟨V_151, hV_151⟩ : ∃ g : Nat, g = (gPd_at x) + 1 := ⟨_, rfl⟩
            refine zj_topi (nI V_151) (congrArg nI hV_151.symm) ?_
            refine zj_put C 0 5 2 (v := .int (nI V_151)) (ws' := (WP cy p0 p1 (sPd_kd (sPd_at x V_151) R_6))) tyX5 tyX5_ok nmX5 inZ5 rfl rfl (by decide) tg_232 rfl rfl rfl (Nat.le_of_ble_eq_true rfl) dX5_readOrder_151 rfl ?_
            refine zj_iconst C (v := (nI 1)) dX5_readOrder_154 (by decide) ?_
            subst hV_151
            subst hR_6
            have e : f_X5_readOrder x = (true, (sPd_kd (sPd_at x ((gPd_at x) + 1)) (f_X5_signAt x (gPd_at x)))) := by refine (zsl_e _).trans ?_; refine (if_neg c_16_98).trans ?_; refine (if_neg c_16_100).trans ?_; refine (if_neg c_16_105).trans ?_; refine (if_neg c_16_108).trans ?_; refine (if_pos c_16_112).trans ?_; rfl
            rw [e] at hret
            exact hret _ _ dX5_readOrder_155
          · skip
            by_cases c_16_113 : R_6 = nI 113
            · refine zj_topi (nI 113) c_16_113 ?_
              refine zj_tin C (off := 95) 111 dX5_readOrder_16 (by decide) (by decide) rfl (by decide) ?_
              refine zj_aload_n C dX5_readOrder_111 0 rfl ?_
              refine zj_dup C dX5_readOrder_112 rfl ?_
              refine zj_get C 0 5 2 (v := .int (nI (gPd_at x))) inZ5 rfl rfl (by decide) tg_232 rfl dX5_readOrder_113 ?_
              refine zj_iconst C (v := (nI 1)) dX5_readOrder_116 (by decide) ?_
              refine zj_iadd C dX5_readOrder_117 ?_
              refine zj_topi (nI ((gPd_at x) + 1)) (nI_add _ _) ?_
              obtain ⟨V_118, hV_118⟩ : ∃ g : Nat, g = (gPd_at x) + 1 := ⟨_, rfl⟩
              refine zj_topi (nI V_118) (congrArg nI hV_118.symm) ?_
              refine zj_put C 0 5 2 (v := .int (nI V_118)) (ws' := (WP cy p0 p1 (sPd_kd (sPd_at x V_118) R_6))) tyX5 tyX5_ok nmX5 inZ5 rfl rfl (by decide) tg_232 rfl rfl rfl (Nat.le_of_ble_eq_true rfl) dX5_readOrder_118 rfl ?_
              have z118 : zpd (sPd_at (sPd_kd x R_6) V_118) := ⟨hz.1, (by show V_118 ≤ gPd_n x; have r := xsign_lt (x := x) (i := gPd_at x) (by rw [← hR_6]; first | (rw [c_16_113]; decide) | (rw [c_16_105]; decide)); omega), hz.2.2⟩
              refine zj_aload_n C dX5_readOrder_121 0 rfl ?_
              refine zj_aload_n C dX5_readOrder_122 0 rfl ?_
              refine zj_ldc C dX5_readOrder_123 tg_628 ?_
              refine zj_topi (nI 1000000) (by decide) ?_
              have M_125 := c_X5_readNumber l D cy p0 p1 (nI 1000000) (sPd_kd (sPd_at x V_118) R_6) z118
              obtain ⟨T_125, hT_125⟩ : ∃ g : zPd, g = ((f_X5_readNumber (sPd_kd (sPd_at x V_118) R_6) (nI 1000000)).2) := ⟨_, rfl⟩
              rw [← hT_125] at M_125
              obtain ⟨R_125_1, hR_125_1⟩ : ∃ g : Int32, g = ((f_X5_readNumber (sPd_kd (sPd_at x V_118) R_6) (nI 1000000)).1) := ⟨_, rfl⟩
              rw [← hR_125_1] at M_125
              refine zj_callV C (nn := 2) (ws' := (WP cy p0 p1 T_125)) (st := [.ref p0]) (st1 := [.int R_125_1, .ref p0]) 0 5 [0, 1] (M_125) (zg_V tg_632 tg_629 tg_631 tgp_11 tg_7) ⟨rfl, hdZ_X5_readNumber⟩ ⟨rfl, rfl⟩ ⟨by decide, by decide⟩ rfl rfl rfl (by decide) ⟨rfl, rfl⟩ rfl rfl (Nat.le_of_ble_eq_true rfl) dX5_readOrder_125 rfl rfl ?_
              refine zj_put C 0 5 4 (v := .int R_125_1) (ws' := (WP cy p0 p1 (sPd_nu T_125 R_125_1))) tyX5 tyX5_ok nmX5 inZ5 rfl rfl (by decide) tg_235 rfl rfl rfl (Nat.le_of_ble_eq_true rfl) dX5_readOrder_128 rfl ?_
              refine zj_aload_n C dX5_readOrder_131 0 rfl ?_
              refine zj_get C 0 5 4 (v := .int R_125_1) inZ5 rfl rfl (by decide) tg_235 rfl dX5_readOrder_132 ?_
              have J_135 : ∀ (x135_0 : Bool), x135_0 = (if R_125_1 < 0 then false else true) → zJ E 1 0 0 (WP cy p0 p1 (sPd_nu T_125 R_125_1)) 143 [(0, .ref p0)] [.int (zB x135_0)] := by
                intro x135_0 hx135_0
                subst hx135_0
                subst hR_125_1
                subst hT_125
                subst hV_118
                subst hR_6
                have e : f_X5_readOrder x = ((if ((f_X5_readNumber (sPd_kd (sPd_at x ((gPd_at x) + 1)) (f_X5_signAt x (gPd_at x))) (nI 1000000)).1) < 0 then false else true), (sPd_nu ((f_X5_readNumber (sPd_kd (sPd_at x ((gPd_at x) + 1)) (f_X5_signAt x (gPd_at x))) (nI 1000000)).2) ((f_X5_readNumber (sPd_kd (sPd_at x ((gPd_at x) + 1)) (f_X5_signAt x (gPd_at x))) (nI 1000000)).1))) := by refine (zsl_e _).trans ?_; refine (if_neg c_16_98).trans ?_; refine (if_neg c_16_100).trans ?_; refine (if_neg c_16_105).trans ?_; refine (if_neg c_16_108).trans ?_; refine (if_neg c_16_112).trans ?_; refine (if_pos c_16_113).trans ?_; rfl
                rw [e] at hret
                exact hret _ _ dX5_readOrder_143
              refine zj_if_lt C 142 dX5_readOrder_135 (by decide) (fun c => ?_) (fun c => ?_)
              · have c_135 : R_125_1 < 0 := c
                refine zj_iconst C (v := (nI 0)) dX5_readOrder_142 (by decide) ?_
                exact J_135 false (by simp only [if_neg c_16_98, if_neg c_16_100, if_neg c_16_105, if_neg c_16_108, if_neg c_16_112, if_pos c_16_113, if_pos c_135]; first | done | assumption)
              · have c_135 : ¬ (R_125_1 < 0) := c
                refine zj_iconst C (v := (nI 1)) dX5_readOrder_138 (by decide) ?_
                refine zj_goto C 143 dX5_readOrder_139 (by decide) ?_
                exact J_135 true (by simp only [if_neg c_16_98, if_neg c_16_100, if_neg c_16_105, if_neg c_16_108, if_neg c_16_112, if_pos c_16_113, if_neg c_135]; first | done | assumption)
            · skip
              refine zj_tdef C 156 dX5_readOrder_16 (xsw98 c_16_98 c_16_100 c_16_105 c_16_108 c_16_112 c_16_113) (by decide) ?_
              refine zj_iconst C (v := (nI 0)) dX5_readOrder_156 (by decide) ?_
              subst hR_6
              have e : f_X5_readOrder x = (false, (sPd_kd x (f_X5_signAt x (gPd_at x)))) := by refine (zsl_e _).trans ?_; refine (if_neg c_16_98).trans ?_; refine (if_neg c_16_100).trans ?_; refine (if_neg c_16_105).trans ?_; refine (if_neg c_16_108).trans ?_; refine (if_neg c_16_112).trans ?_; refine (if_neg c_16_113).trans ?_; rfl
              rw [e] at hret
              exact hret _ _ dX5_readOrder_157

theorem zk_order {x : zPd} (hz : zpd x) : zpk x (f_X5_readOrder x).2 := by
  unfold f_X5_readOrder
  rw [zsl_e]
  dsimp only
  have hs : ∀ s : Int32, s = f_X5_signAt x (gPd_at x) → ¬ s = 0 → gPd_at x < gPd_n x := fun s e h => xsign_lt (x := x) (by rw [← e]; exact h)
  generalize f_X5_signAt x (gPd_at x) = s at hs
  have hs2 : ∀ j : Nat, 0 < j → j < 2 ^ 31 → s = nI j → zpd (sPd_at (sPd_kd x s) (gPd_at x + 1)) := fun j h1 h2 e => ⟨hz.1, hs s rfl (fun q => by rw [q] at e; have := (nI_eq (a := 0) (by decide) h2).mp e; omega), hz.2.2⟩
  have hk : ∀ y, zpd (sPd_at (sPd_kd x s) (gPd_at x + 1)) → zpk (sPd_at (sPd_kd x s) (gPd_at x + 1)) y → zpk x y := fun y z k => zpk_t (y := sPd_at (sPd_kd x s) (gPd_at x + 1)) ⟨rfl, rfl, Nat.le_succ _, z.2.1⟩ k
  by_cases c1 : s = nI 98
  · rw [if_pos c1]; have z := hs2 98 (by decide) (by decide) c1; exact hk _ z (zk_deal z)
  rw [if_neg c1]
  by_cases c2 : s = nI 100
  · rw [if_pos c2]; have z := hs2 100 (by decide) (by decide) c2; exact hk _ z (zpk_r z)
  rw [if_neg c2]
  by_cases c3 : s = nI 105
  · rw [if_pos c3]; have z := hs2 105 (by decide) (by decide) c3
    have r := hk _ z (zk_num (nI 1000000) z)
    first | exact r | (split <;> exact r)
  rw [if_neg c3]
  by_cases c4 : s = nI 108
  · rw [if_pos c4]; have z := hs2 108 (by decide) (by decide) c4; exact hk _ z (zk_deal z)
  rw [if_neg c4]
  by_cases c5 : s = nI 112
  · rw [if_pos c5]; have z := hs2 112 (by decide) (by decide) c5; exact hk _ z (zpk_r z)
  rw [if_neg c5]
  by_cases c6 : s = nI 113
  · rw [if_pos c6]; have z := hs2 113 (by decide) (by decide) c6
    have r := hk _ z (zk_num (nI 1000000) z)
    first | exact r | (split <;> exact r)
  rw [if_neg c6]
  exact zpk_r hz
