noncomputable def f_X6_tradeLots (t : zTr) (bought : Int32) : Int32 × zTr :=
  if bought = 0 then
    ((-2), t)
  else
    if bought < (-1000) then
      ((-2), t)
    else
      if bought ≤ (nI 1000) then
        if ((gTr_lots t) + bought) ≤ (nI 1000) then
          let x37_0 : Int64 := (if bought ≤ 0 then ((bought.toInt64) * ((((gTr_quote t)).toInt64) - (f_X6_fee t))) else ((bought.toInt64) * ((((gTr_quote t)).toInt64) + (f_X6_fee t))))
          if ((gTr_lots t) + bought) < 0 then
            ((-5), t)
          else
            if bought ≤ 0 then
              let V_107 : Int32 := ((gTr_lots t) + bought)
              let V_117 : Int64 := ((gTr_cash t) - x37_0)
              (V_107, (sTr_lots (sTr_cash t V_117) V_107))
            else
              if x37_0 ≤ ((gTr_cash t) - (gTr_pool t)) then
                let V_107 : Int32 := ((gTr_lots t) + bought)
                let V_117 : Int64 := ((gTr_cash t) - x37_0)
                (V_107, (sTr_lots (sTr_cash t V_117) V_107))
              else
                ((-5), t)
        else
          ((-4), t)
      else
        ((-2), t)
set_option maxHeartbeats 4000000 in
set_option maxRecDepth 100000 in
theorem c_X6_tradeLots (l : Launch) (D : va_G) (cy : Nat → ClassId) (a : Nat → Nat) (bought : Int32) (t : zTr)  : zC l yX6_tradeLots (zW yX6_tradeLots cX6_tradeLots 4 (Option.some Jvm.ClassFile.FieldType.int)) { frames := 1, cells := 0, slots := 0, locals := 20 } D cy [.ref (a 0), .int bought] (WT cy a t) (some (.int ((f_X6_tradeLots t bought).1))) (WT cy a ((f_X6_tradeLots t bought).2)) := by
  refine zC_of rfl (Nat.le_of_ble_eq_true rfl) (zOk_i _) (fun E C hret => ?_)
  show zJ E 4 0 0 (WT cy a t) 0 [(0, .ref (a 0)), (1, .int bought)] []
  refine zj_iload_n C dX6_tradeLots_0 1 rfl ?_
  refine zj_if_eq C 18 dX6_tradeLots_1 (by decide) (fun c => ?_) (fun c => ?_)
  · have c_1 : bought = 0 := c
    refine zj_bipush C (v := (-2)) dX6_tradeLots_18 (by decide) ?_
    have e : f_X6_tradeLots t bought = ((-2), t) := by refine (if_pos c_1).trans ?_; rfl
    rw [e] at hret
    exact hret _ _ dX6_tradeLots_20
  · have c_1 : ¬ (bought = 0) := c
    refine zj_iload_n C dX6_tradeLots_4 1 rfl ?_
    refine zj_sipush C (v := (-1000)) dX6_tradeLots_5 (by decide) ?_
    refine zj_icmp_lt C 18 dX6_tradeLots_8 (by decide) (fun c => ?_) (fun c => ?_)
    · have c_8 : bought < (-1000) := c
      refine zj_bipush C (v := (-2)) dX6_tradeLots_18 (by decide) ?_
      have e : f_X6_tradeLots t bought = ((-2), t) := by refine (if_neg c_1).trans ?_; refine (if_pos c_8).trans ?_; rfl
      rw [e] at hret
      exact hret _ _ dX6_tradeLots_20
    · have c_8 : ¬ (bought < (-1000)) := c
      refine zj_iload_n C dX6_tradeLots_11 1 rfl ?_
      refine zj_sipush C (v := (nI 1000)) dX6_tradeLots_12 (by decide) ?_
      refine zj_icmp_le C 21 dX6_tradeLots_15 (by decide) (fun c => ?_) (fun c => ?_)
      · have c_15 : bought ≤ (nI 1000) := c
        refine zj_aload_n C dX6_tradeLots_21 0 rfl ?_
        refine zj_get C 0 6 3 (v := .int (gTr_lots t)) inZ6 rfl rfl (by decide) tg_146 rfl dX6_tradeLots_22 ?_
        refine zj_iload_n C dX6_tradeLots_25 1 rfl ?_
        refine zj_iadd C dX6_tradeLots_26 ?_
        refine zj_sipush C (v := (nI 1000)) dX6_tradeLots_27 (by decide) ?_
        refine zj_icmp_le C 36 dX6_tradeLots_30 (by decide) (fun c => ?_) (fun c => ?_)
        · have c_30 : ((gTr_lots t) + bought) ≤ (nI 1000) := c
          refine zj_iload_n C dX6_tradeLots_36 1 rfl ?_
          have J_37 : ∀ (x37_0 : Int64), x37_0 = (if bought ≤ 0 then ((bought.toInt64) * ((((gTr_quote t)).toInt64) - (f_X6_fee t))) else ((bought.toInt64) * ((((gTr_quote t)).toInt64) + (f_X6_fee t)))) → zJ E 4 0 0 (WT cy a t) 69 [(0, .ref (a 0)), (1, .int bought)] [.long x37_0] := by
            intro x37_0 hx37_0
            refine zj_lstore_n C (L' := [(2, .long x37_0), (0, .ref (a 0)), (1, .int bought)]) dX6_tradeLots_69 rfl (by decide) rfl ?_
            refine zj_aload_n C dX6_tradeLots_70 1 rfl ?_
            refine zj_get C 0 6 3 (v := .int (gTr_lots t)) inZ6 rfl rfl (by decide) tg_146 rfl dX6_tradeLots_71 ?_
            refine zj_iload_n C dX6_tradeLots_74 2 rfl ?_
            refine zj_iadd C dX6_tradeLots_75 ?_
            refine zj_if_lt C 97 dX6_tradeLots_76 (by decide) (fun c => ?_) (fun c => ?_)
            · have c_76 : ((gTr_lots t) + bought) < 0 := c
              refine zj_bipush C (v := (-5)) dX6_tradeLots_97 (by decide) ?_
              subst hx37_0
              have e : f_X6_tradeLots t bought = ((-5), t) := by refine (if_neg c_1).trans ?_; refine (if_neg c_8).trans ?_; refine (if_pos c_15).trans ?_; refine (if_pos c_30).trans ?_; refine (if_pos c_76).trans ?_; rfl
              rw [e] at hret
              exact hret _ _ dX6_tradeLots_99
            · have c_76 : ¬ (((gTr_lots t) + bought) < 0) := c
              refine zj_iload_n C dX6_tradeLots_79 2 rfl ?_
              refine zj_if_le C 100 dX6_tradeLots_80 (by decide) (fun c => ?_) (fun c => ?_)
              · have c_80 : bought ≤ 0 := c
                refine zj_aload_n C dX6_tradeLots_100 1 rfl ?_
                refine zj_dup C dX6_tradeLots_101 rfl ?_
                refine zj_get C 0 6 3 (v := .int (gTr_lots t)) inZ6 rfl rfl (by decide) tg_146 rfl dX6_tradeLots_102 ?_
                refine zj_iload_n C dX6_tradeLots_105 2 rfl ?_
                refine zj_iadd C dX6_tradeLots_106 ?_
                refine zj_topig (fun V_107 hV_107 => ?_)
                refine zj_put C 0 6 3 (v := .int V_107) (ws' := (WT cy a (sTr_lots t V_107))) tyX6 tyX6_ok nmX6 inZ6 rfl rfl (by decide) tg_146 rfl rfl rfl (Nat.le_of_ble_eq_true rfl) dX6_tradeLots_107 rfl ?_
                refine zj_aload_n C dX6_tradeLots_110 1 rfl ?_
                refine zj_dup C dX6_tradeLots_111 rfl ?_
                refine zj_get C 0 6 0 (v := .long (gTr_cash t)) inZ6 rfl rfl (by decide) tg_139 rfl dX6_tradeLots_112 ?_
                refine zj_lload_n C dX6_tradeLots_115 0 rfl ?_
                refine zj_lsub C dX6_tradeLots_116 ?_
                refine zj_toplg (fun V_117 hV_117 => ?_)
                refine zj_put C 0 6 0 (v := .long V_117) (ws' := (WT cy a (sTr_lots (sTr_cash t V_117) V_107))) tyX6 tyX6_ok nmX6 inZ6 rfl rfl (by decide) tg_139 rfl rfl rfl (Nat.le_of_ble_eq_true rfl) dX6_tradeLots_117 rfl ?_
                refine zj_aload_n C dX6_tradeLots_120 1 rfl ?_
                refine zj_get C 0 6 3 (v := .int V_107) inZ6 rfl rfl (by decide) tg_146 rfl dX6_tradeLots_121 ?_
                subst hV_117
                subst hV_107
                subst hx37_0
                have e : f_X6_tradeLots t bought = (((gTr_lots t) + bought), (sTr_lots (sTr_cash t ((gTr_cash t) - (if bought ≤ 0 then ((bought.toInt64) * ((((gTr_quote t)).toInt64) - (f_X6_fee t))) else ((bought.toInt64) * ((((gTr_quote t)).toInt64) + (f_X6_fee t)))))) ((gTr_lots t) + bought))) := by refine (if_neg c_1).trans ?_; refine (if_neg c_8).trans ?_; refine (if_pos c_15).trans ?_; refine (if_pos c_30).trans ?_; refine (if_neg c_76).trans ?_; refine (if_pos c_80).trans ?_; rfl
                rw [e] at hret
                exact hret _ _ dX6_tradeLots_124
              · have c_80 : ¬ (bought ≤ 0) := c
                refine zj_lload_n C dX6_tradeLots_83 0 rfl ?_
                refine zj_aload_n C dX6_tradeLots_84 1 rfl ?_
                refine zj_get C 0 6 0 (v := .long (gTr_cash t)) inZ6 rfl rfl (by decide) tg_139 rfl dX6_tradeLots_85 ?_
                refine zj_aload_n C dX6_tradeLots_88 1 rfl ?_
                refine zj_get C 0 6 1 (v := .long (gTr_pool t)) inZ6 rfl rfl (by decide) tg_142 rfl dX6_tradeLots_89 ?_
                refine zj_lsub C dX6_tradeLots_92 ?_
                refine zj_lcmp_le C 100 dX6_tradeLots_93 dX6_tradeLots_94 (by decide) (fun c => ?_) (fun c => ?_)
                · have c_93 : x37_0 ≤ ((gTr_cash t) - (gTr_pool t)) := c
                  refine zj_aload_n C dX6_tradeLots_100 1 rfl ?_
                  refine zj_dup C dX6_tradeLots_101 rfl ?_
                  refine zj_get C 0 6 3 (v := .int (gTr_lots t)) inZ6 rfl rfl (by decide) tg_146 rfl dX6_tradeLots_102 ?_
                  refine zj_iload_n C dX6_tradeLots_105 2 rfl ?_
                  refine zj_iadd C dX6_tradeLots_106 ?_
                  refine zj_topig (fun V_107 hV_107 => ?_)
                  refine zj_put C 0 6 3 (v := .int V_107) (ws' := (WT cy a (sTr_lots t V_107))) tyX6 tyX6_ok nmX6 inZ6 rfl rfl (by decide) tg_146 rfl rfl rfl (Nat.le_of_ble_eq_true rfl) dX6_tradeLots_107 rfl ?_
                  refine zj_aload_n C dX6_tradeLots_110 1 rfl ?_
                  refine zj_dup C dX6_tradeLots_111 rfl ?_
                  refine zj_get C 0 6 0 (v := .long (gTr_cash t)) inZ6 rfl rfl (by decide) tg_139 rfl dX6_tradeLots_112 ?_
                  refine zj_lload_n C dX6_tradeLots_115 0 rfl ?_
                  refine zj_lsub C dX6_tradeLots_116 ?_
                  refine zj_toplg (fun V_117 hV_117 => ?_)
                  refine zj_put C 0 6 0 (v := .long V_117) (ws' := (WT cy a (sTr_lots (sTr_cash t V_117) V_107))) tyX6 tyX6_ok nmX6 inZ6 rfl rfl (by decide) tg_139 rfl rfl rfl (Nat.le_of_ble_eq_true rfl) dX6_tradeLots_117 rfl ?_
                  refine zj_aload_n C dX6_tradeLots_120 1 rfl ?_
                  refine zj_get C 0 6 3 (v := .int V_107) inZ6 rfl rfl (by decide) tg_146 rfl dX6_tradeLots_121 ?_
                  subst hV_117
                  subst hV_107
                  subst hx37_0
                  have e : f_X6_tradeLots t bought = (((gTr_lots t) + bought), (sTr_lots (sTr_cash t ((gTr_cash t) - (if bought ≤ 0 then ((bought.toInt64) * ((((gTr_quote t)).toInt64) - (f_X6_fee t))) else ((bought.toInt64) * ((((gTr_quote t)).toInt64) + (f_X6_fee t)))))) ((gTr_lots t) + bought))) := by refine (if_neg c_1).trans ?_; refine (if_neg c_8).trans ?_; refine (if_pos c_15).trans ?_; refine (if_pos c_30).trans ?_; refine (if_neg c_76).trans ?_; refine (if_neg c_80).trans ?_; refine (if_pos c_93).trans ?_; rfl
                  rw [e] at hret
                  exact hret _ _ dX6_tradeLots_124
                · have c_93 : ¬ (x37_0 ≤ ((gTr_cash t) - (gTr_pool t))) := c
                  refine zj_bipush C (v := (-5)) dX6_tradeLots_97 (by decide) ?_
                  subst hx37_0
                  have e : f_X6_tradeLots t bought = ((-5), t) := by refine (if_neg c_1).trans ?_; refine (if_neg c_8).trans ?_; refine (if_pos c_15).trans ?_; refine (if_pos c_30).trans ?_; refine (if_neg c_76).trans ?_; refine (if_neg c_80).trans ?_; refine (if_neg c_93).trans ?_; rfl
                  rw [e] at hret
                  exact hret _ _ dX6_tradeLots_99
          refine zj_if_le C 56 dX6_tradeLots_37 (by decide) (fun c => ?_) (fun c => ?_)
          · have c_37 : bought ≤ 0 := c
            refine zj_iload_n C dX6_tradeLots_56 1 rfl ?_
            refine zj_i2l C dX6_tradeLots_57 ?_
            refine zj_aload_n C dX6_tradeLots_58 0 rfl ?_
            refine zj_get C 0 6 4 (v := .int (gTr_quote t)) inZ6 rfl rfl (by decide) tg_148 rfl dX6_tradeLots_59 ?_
            refine zj_i2l C dX6_tradeLots_62 ?_
            refine zj_aload_n C dX6_tradeLots_63 0 rfl ?_
            have M_64 := c_X6_fee l D cy a  t 
            obtain ⟨R_64, hR_64⟩ : ∃ g : Int64, g = (f_X6_fee t) := ⟨_, rfl⟩
            rw [← hR_64] at M_64
            refine zj_callVB C (nn := 18) (ws' := (WT cy a t)) (st := [.long (((gTr_quote t)).toInt64), .long (bought.toInt64)]) (st1 := [.long R_64, .long (((gTr_quote t)).toInt64), .long (bought.toInt64)]) ([] : va_W) ([] : va_W) 0 6 (M_64) (zg_V tg_481 tg_478 tg_479 tg_480 tg_2) ⟨rfl, hdZ_X6_fee⟩ ⟨rfl, rfl⟩ ⟨by decide, by decide⟩ rfl rfl (List.append_nil _).symm ⟨rfl, rfl⟩ rfl rfl (Nat.le_of_ble_eq_true rfl) dX6_tradeLots_64 (List.append_nil _) rfl ?_
            refine zj_lsub C dX6_tradeLots_67 ?_
            refine zj_lmul C dX6_tradeLots_68 ?_
            subst hR_64
            exact J_37 ((bought.toInt64) * ((((gTr_quote t)).toInt64) - (f_X6_fee t))) (by simp only [if_neg c_1, if_neg c_8, if_pos c_15, if_pos c_30, if_pos c_37]; first | done | assumption)
          · have c_37 : ¬ (bought ≤ 0) := c
            refine zj_iload_n C dX6_tradeLots_40 1 rfl ?_
            refine zj_i2l C dX6_tradeLots_41 ?_
            refine zj_aload_n C dX6_tradeLots_42 0 rfl ?_
            refine zj_get C 0 6 4 (v := .int (gTr_quote t)) inZ6 rfl rfl (by decide) tg_148 rfl dX6_tradeLots_43 ?_
            refine zj_i2l C dX6_tradeLots_46 ?_
            refine zj_aload_n C dX6_tradeLots_47 0 rfl ?_
            have M_48 := c_X6_fee l D cy a  t 
            obtain ⟨R_48, hR_48⟩ : ∃ g : Int64, g = (f_X6_fee t) := ⟨_, rfl⟩
            rw [← hR_48] at M_48
            refine zj_callVB C (nn := 18) (ws' := (WT cy a t)) (st := [.long (((gTr_quote t)).toInt64), .long (bought.toInt64)]) (st1 := [.long R_48, .long (((gTr_quote t)).toInt64), .long (bought.toInt64)]) ([] : va_W) ([] : va_W) 0 6 (M_48) (zg_V tg_481 tg_478 tg_479 tg_480 tg_2) ⟨rfl, hdZ_X6_fee⟩ ⟨rfl, rfl⟩ ⟨by decide, by decide⟩ rfl rfl (List.append_nil _).symm ⟨rfl, rfl⟩ rfl rfl (Nat.le_of_ble_eq_true rfl) dX6_tradeLots_48 (List.append_nil _) rfl ?_
            refine zj_ladd C dX6_tradeLots_51 ?_
            refine zj_lmul C dX6_tradeLots_52 ?_
            refine zj_goto C 69 dX6_tradeLots_53 (by decide) ?_
            subst hR_48
            exact J_37 ((bought.toInt64) * ((((gTr_quote t)).toInt64) + (f_X6_fee t))) (by simp only [if_neg c_1, if_neg c_8, if_pos c_15, if_pos c_30, if_neg c_37]; first | done | assumption)
        · have c_30 : ¬ (((gTr_lots t) + bought) ≤ (nI 1000)) := c
          refine zj_bipush C (v := (-4)) dX6_tradeLots_33 (by decide) ?_
          have e : f_X6_tradeLots t bought = ((-4), t) := by refine (if_neg c_1).trans ?_; refine (if_neg c_8).trans ?_; refine (if_pos c_15).trans ?_; refine (if_neg c_30).trans ?_; rfl
          rw [e] at hret
          exact hret _ _ dX6_tradeLots_35
      · have c_15 : ¬ (bought ≤ (nI 1000)) := c
        refine zj_bipush C (v := (-2)) dX6_tradeLots_18 (by decide) ?_
        have e : f_X6_tradeLots t bought = ((-2), t) := by refine (if_neg c_1).trans ?_; refine (if_neg c_8).trans ?_; refine (if_neg c_15).trans ?_; rfl
        rw [e] at hret
        exact hret _ _ dX6_tradeLots_20

noncomputable def f_X6_takeIncome (t : zTr) (am : Int32) : Int32 × zTr :=
  if am < (nI 1) then
    ((-2), t)
  else
    if am ≤ (nI 1000000) then
      let R_15 : Int64 := (f_X6_units t)
      if R_15 = 0 then
        ((-5), t)
      else
        let V_34 : Int64 := ((gTr_cash t) + (am.toInt64))
        let V_45 : Int64 := ((gTr_pool t) + (am.toInt64))
        (((V_45).toInt32), (sTr_pool (sTr_cash t V_34) V_45))
    else
      ((-2), t)
set_option maxHeartbeats 4000000 in
set_option maxRecDepth 100000 in
theorem c_X6_takeIncome (l : Launch) (D : va_G) (cy : Nat → ClassId) (a : Nat → Nat) (am : Int32) (t : zTr)  : zC l yX6_takeIncome (zW yX6_takeIncome cX6_takeIncome 2 (Option.some Jvm.ClassFile.FieldType.int)) { frames := 2, cells := 0, slots := 0, locals := 43 } D cy [.ref (a 0), .int am] (WT cy a t) (some (.int ((f_X6_takeIncome t am).1))) (WT cy a ((f_X6_takeIncome t am).2)) := by
  refine zC_of rfl (Nat.le_of_ble_eq_true rfl) (zOk_i _) (fun E C hret => ?_)
  show zJ E 2 0 0 (WT cy a t) 0 [(0, .ref (a 0)), (1, .int am)] []
  refine zj_iload_n C dX6_takeIncome_0 1 rfl ?_
  refine zj_iconst C (v := (nI 1)) dX6_takeIncome_1 (by decide) ?_
  refine zj_icmp_lt C 11 dX6_takeIncome_2 (by decide) (fun c => ?_) (fun c => ?_)
  · have c_2 : am < (nI 1) := c
    refine zj_bipush C (v := (-2)) dX6_takeIncome_11 (by decide) ?_
    have e : f_X6_takeIncome t am = ((-2), t) := by refine (if_pos c_2).trans ?_; rfl
    rw [e] at hret
    exact hret _ _ dX6_takeIncome_13
  · have c_2 : ¬ (am < (nI 1)) := c
    refine zj_iload_n C dX6_takeIncome_5 1 rfl ?_
    refine zj_ldc C dX6_takeIncome_6 tg_349 ?_
    refine zj_topi (nI 1000000) (by decide) ?_
    refine zj_icmp_le C 14 dX6_takeIncome_8 (by decide) (fun c => ?_) (fun c => ?_)
    · have c_8 : am ≤ (nI 1000000) := c
      refine zj_aload_n C dX6_takeIncome_14 0 rfl ?_
      have M_15 := c_X6_units l D cy a  t 
      obtain ⟨R_15, hR_15⟩ : ∃ g : Int64, g = (f_X6_units t) := ⟨_, rfl⟩
      rw [← hR_15] at M_15
      refine zj_callVB C (nn := 18) (ws' := (WT cy a t)) (st := []) (st1 := [.long R_15]) ([] : va_W) ([] : va_W) 0 6 (M_15) (zg_V tg_397 tg_394 tg_395 tg_396 tg_2) ⟨rfl, hdZ_X6_units⟩ ⟨rfl, rfl⟩ ⟨by decide, by decide⟩ rfl rfl (List.append_nil _).symm ⟨rfl, rfl⟩ rfl rfl (Nat.le_of_ble_eq_true rfl) dX6_takeIncome_15 (List.append_nil _) rfl ?_
      refine zj_lconst C (v := 0) dX6_takeIncome_18 (by decide) ?_
      refine zj_lcmp_ne C 26 dX6_takeIncome_19 dX6_takeIncome_20 (by decide) (fun c => ?_) (fun c => ?_)
      · have c_19 : ¬ (R_15 = 0) := c
        refine zj_aload_n C dX6_takeIncome_26 0 rfl ?_
        refine zj_dup C dX6_takeIncome_27 rfl ?_
        refine zj_get C 0 6 0 (v := .long (gTr_cash t)) inZ6 rfl rfl (by decide) tg_139 rfl dX6_takeIncome_28 ?_
        refine zj_iload_n C dX6_takeIncome_31 1 rfl ?_
        refine zj_i2l C dX6_takeIncome_32 ?_
        refine zj_ladd C dX6_takeIncome_33 ?_
        refine zj_toplg (fun V_34 hV_34 => ?_)
        refine zj_put C 0 6 0 (v := .long V_34) (ws' := (WT cy a (sTr_cash t V_34))) tyX6 tyX6_ok nmX6 inZ6 rfl rfl (by decide) tg_139 rfl rfl rfl (Nat.le_of_ble_eq_true rfl) dX6_takeIncome_34 rfl ?_
        refine zj_aload_n C dX6_takeIncome_37 0 rfl ?_
        refine zj_dup C dX6_takeIncome_38 rfl ?_
        refine zj_get C 0 6 1 (v := .long (gTr_pool t)) inZ6 rfl rfl (by decide) tg_142 rfl dX6_takeIncome_39 ?_
        refine zj_iload_n C dX6_takeIncome_42 1 rfl ?_
        refine zj_i2l C dX6_takeIncome_43 ?_
        refine zj_ladd C dX6_takeIncome_44 ?_
        refine zj_toplg (fun V_45 hV_45 => ?_)
        refine zj_put C 0 6 1 (v := .long V_45) (ws' := (WT cy a (sTr_pool (sTr_cash t V_34) V_45))) tyX6 tyX6_ok nmX6 inZ6 rfl rfl (by decide) tg_142 rfl rfl rfl (Nat.le_of_ble_eq_true rfl) dX6_takeIncome_45 rfl ?_
        refine zj_aload_n C dX6_takeIncome_48 0 rfl ?_
        refine zj_get C 0 6 1 (v := .long V_45) inZ6 rfl rfl (by decide) tg_142 rfl dX6_takeIncome_49 ?_
        refine zj_l2i C dX6_takeIncome_52 ?_
        subst hV_45
        subst hV_34
        subst hR_15
        have e : f_X6_takeIncome t am = (((((gTr_pool t) + (am.toInt64))).toInt32), (sTr_pool (sTr_cash t ((gTr_cash t) + (am.toInt64))) ((gTr_pool t) + (am.toInt64)))) := by refine (if_neg c_2).trans ?_; refine (if_pos c_8).trans ?_; refine (if_neg c_19).trans ?_; rfl
        rw [e] at hret
        exact hret _ _ dX6_takeIncome_53
      · have c_19 : R_15 = 0 := (Classical.not_not.mp c)
        refine zj_bipush C (v := (-5)) dX6_takeIncome_23 (by decide) ?_
        subst hR_15
        have e : f_X6_takeIncome t am = ((-5), t) := by refine (if_neg c_2).trans ?_; refine (if_pos c_8).trans ?_; refine (if_pos c_19).trans ?_; rfl
        rw [e] at hret
        exact hret _ _ dX6_takeIncome_25
    · have c_8 : ¬ (am ≤ (nI 1000000)) := c
      refine zj_bipush C (v := (-2)) dX6_takeIncome_11 (by decide) ?_
      have e : f_X6_takeIncome t am = ((-2), t) := by refine (if_neg c_2).trans ?_; refine (if_neg c_8).trans ?_; rfl
      rw [e] at hret
      exact hret _ _ dX6_takeIncome_13
