noncomputable def f_X6_sellFor (t : zTr) (am : Int64) : Int32 × zTr :=
  if (gTr_cash t) < am then
    let R_17 : Int64 := (f_X6_fee t)
    let x24_0 : Int64 := (if ((((gTr_quote t)).toInt64) - R_17) ≤ 0 then (((gTr_lots t)).toInt64) else (if (((gTr_lots t)).toInt64) < ((((am - (gTr_cash t)) + ((((gTr_quote t)).toInt64) - R_17)) - 1) / ((((gTr_quote t)).toInt64) - R_17)) then (((gTr_lots t)).toInt64) else ((((am - (gTr_cash t)) + ((((gTr_quote t)).toInt64) - R_17)) - 1) / ((((gTr_quote t)).toInt64) - R_17))))
    let V_67 : Int32 := ((gTr_lots t) - ((x24_0).toInt32))
    let V_80 : Int64 := ((gTr_cash t) + (x24_0 * ((((gTr_quote t)).toInt64) - R_17)))
    (((x24_0).toInt32), (sTr_lots (sTr_cash t V_80) V_67))
  else
    ((nI 0), t)
set_option maxHeartbeats 4000000 in
set_option maxRecDepth 100000 in
theorem c_X6_sellFor (l : Launch) (D : va_G) (cy : Nat → ClassId) (a : Nat → Nat) (am : Int64) (t : zTr)  : zC l yX6_sellFor (zW yX6_sellFor cX6_sellFor 7 (Option.some Jvm.ClassFile.FieldType.int)) { frames := 1, cells := 0, slots := 0, locals := 20 } D cy [.ref (a 0), .long am] (WT cy a t) (some (.int ((f_X6_sellFor t am).1))) (WT cy a ((f_X6_sellFor t am).2)) := by
  refine zC_of rfl (Nat.le_of_ble_eq_true rfl) (zOk_i _) (fun E C hret => ?_)
  show zJ E 7 0 0 (WT cy a t) 0 [(0, .ref (a 0)), (1, .long am)] []
  refine zj_aload_n C dX6_sellFor_0 0 rfl ?_
  refine zj_get C 0 6 0 (v := .long (gTr_cash t)) inZ6 rfl rfl (by decide) tg_139 rfl dX6_sellFor_1 ?_
  refine zj_lload_n C dX6_sellFor_4 1 rfl ?_
  refine zj_lcmp_lt C 11 dX6_sellFor_5 dX6_sellFor_6 (by decide) (fun c => ?_) (fun c => ?_)
  · have c_5 : (gTr_cash t) < am := c
    refine zj_aload_n C dX6_sellFor_11 0 rfl ?_
    refine zj_get C 0 6 4 (v := .int (gTr_quote t)) inZ6 rfl rfl (by decide) tg_148 rfl dX6_sellFor_12 ?_
    refine zj_i2l C dX6_sellFor_15 ?_
    refine zj_aload_n C dX6_sellFor_16 0 rfl ?_
    have M_17 := c_X6_fee l D cy a  t 
    obtain ⟨R_17, hR_17⟩ : ∃ g : Int64, g = (f_X6_fee t) := ⟨_, rfl⟩
    rw [← hR_17] at M_17
    refine zj_callVB C (nn := 18) (ws' := (WT cy a t)) (st := [.long (((gTr_quote t)).toInt64)]) (st1 := [.long R_17, .long (((gTr_quote t)).toInt64)]) ([] : va_W) ([] : va_W) 0 6 (M_17) (zg_V tg_481 tg_478 tg_479 tg_480 tg_2) ⟨rfl, hdZ_X6_fee⟩ ⟨rfl, rfl⟩ ⟨by decide, by decide⟩ rfl rfl (List.append_nil _).symm ⟨rfl, rfl⟩ rfl rfl (Nat.le_of_ble_eq_true rfl) dX6_sellFor_17 (List.append_nil _) rfl ?_
    refine zj_lsub C dX6_sellFor_20 ?_
    refine zj_lstore_n C (L' := [(3, .long ((((gTr_quote t)).toInt64) - R_17)), (0, .ref (a 0)), (1, .long am)]) dX6_sellFor_21 rfl (by decide) rfl ?_
    refine zj_lload_n C dX6_sellFor_22 0 rfl ?_
    refine zj_lconst C (v := 0) dX6_sellFor_23 (by decide) ?_
    have J_24 : ∀ (x24_0 : Int64), x24_0 = (if ((((gTr_quote t)).toInt64) - R_17) ≤ 0 then (((gTr_lots t)).toInt64) else (if (((gTr_lots t)).toInt64) < ((((am - (gTr_cash t)) + ((((gTr_quote t)).toInt64) - R_17)) - 1) / ((((gTr_quote t)).toInt64) - R_17)) then (((gTr_lots t)).toInt64) else ((((am - (gTr_cash t)) + ((((gTr_quote t)).toInt64) - R_17)) - 1) / ((((gTr_quote t)).toInt64) - R_17)))) → zJ E 7 0 0 (WT cy a t) 56 [(3, .long ((((gTr_quote t)).toInt64) - R_17)), (0, .ref (a 0)), (1, .long am)] [.long x24_0] := by
      intro x24_0 hx24_0
      refine zj_lstore C (L' := [(5, .long x24_0), (3, .long ((((gTr_quote t)).toInt64) - R_17)), (0, .ref (a 0)), (1, .long am)]) dX6_sellFor_56 (by decide) rfl ?_
      refine zj_aload_n C dX6_sellFor_58 2 rfl ?_
      refine zj_dup C dX6_sellFor_59 rfl ?_
      refine zj_get C 0 6 3 (v := .int (gTr_lots t)) inZ6 rfl rfl (by decide) tg_146 rfl dX6_sellFor_60 ?_
      refine zj_lload C dX6_sellFor_63 0 rfl ?_
      refine zj_l2i C dX6_sellFor_65 ?_
      refine zj_isub C dX6_sellFor_66 ?_
      refine zj_topig (fun V_67 hV_67 => ?_)
      refine zj_put C 0 6 3 (v := .int V_67) (ws' := (WT cy a (sTr_lots t V_67))) tyX6 tyX6_ok nmX6 inZ6 rfl rfl (by decide) tg_146 rfl rfl rfl (Nat.le_of_ble_eq_true rfl) dX6_sellFor_67 rfl ?_
      refine zj_aload_n C dX6_sellFor_70 2 rfl ?_
      refine zj_dup C dX6_sellFor_71 rfl ?_
      refine zj_get C 0 6 0 (v := .long (gTr_cash t)) inZ6 rfl rfl (by decide) tg_139 rfl dX6_sellFor_72 ?_
      refine zj_lload C dX6_sellFor_75 0 rfl ?_
      refine zj_lload_n C dX6_sellFor_77 1 rfl ?_
      refine zj_lmul C dX6_sellFor_78 ?_
      refine zj_ladd C dX6_sellFor_79 ?_
      refine zj_toplg (fun V_80 hV_80 => ?_)
      refine zj_put C 0 6 0 (v := .long V_80) (ws' := (WT cy a (sTr_lots (sTr_cash t V_80) V_67))) tyX6 tyX6_ok nmX6 inZ6 rfl rfl (by decide) tg_139 rfl rfl rfl (Nat.le_of_ble_eq_true rfl) dX6_sellFor_80 rfl ?_
      refine zj_lload C dX6_sellFor_83 0 rfl ?_
      refine zj_l2i C dX6_sellFor_85 ?_
      subst hV_80
      subst hV_67
      subst hx24_0
      subst hR_17
      have e : f_X6_sellFor t am = ((((if ((((gTr_quote t)).toInt64) - (f_X6_fee t)) ≤ 0 then (((gTr_lots t)).toInt64) else (if (((gTr_lots t)).toInt64) < ((((am - (gTr_cash t)) + ((((gTr_quote t)).toInt64) - (f_X6_fee t))) - 1) / ((((gTr_quote t)).toInt64) - (f_X6_fee t))) then (((gTr_lots t)).toInt64) else ((((am - (gTr_cash t)) + ((((gTr_quote t)).toInt64) - (f_X6_fee t))) - 1) / ((((gTr_quote t)).toInt64) - (f_X6_fee t)))))).toInt32), (sTr_lots (sTr_cash t ((gTr_cash t) + ((if ((((gTr_quote t)).toInt64) - (f_X6_fee t)) ≤ 0 then (((gTr_lots t)).toInt64) else (if (((gTr_lots t)).toInt64) < ((((am - (gTr_cash t)) + ((((gTr_quote t)).toInt64) - (f_X6_fee t))) - 1) / ((((gTr_quote t)).toInt64) - (f_X6_fee t))) then (((gTr_lots t)).toInt64) else ((((am - (gTr_cash t)) + ((((gTr_quote t)).toInt64) - (f_X6_fee t))) - 1) / ((((gTr_quote t)).toInt64) - (f_X6_fee t))))) * ((((gTr_quote t)).toInt64) - (f_X6_fee t))))) ((gTr_lots t) - (((if ((((gTr_quote t)).toInt64) - (f_X6_fee t)) ≤ 0 then (((gTr_lots t)).toInt64) else (if (((gTr_lots t)).toInt64) < ((((am - (gTr_cash t)) + ((((gTr_quote t)).toInt64) - (f_X6_fee t))) - 1) / ((((gTr_quote t)).toInt64) - (f_X6_fee t))) then (((gTr_lots t)).toInt64) else ((((am - (gTr_cash t)) + ((((gTr_quote t)).toInt64) - (f_X6_fee t))) - 1) / ((((gTr_quote t)).toInt64) - (f_X6_fee t)))))).toInt32)))) := by refine (if_pos c_5).trans ?_; rfl
      rw [e] at hret
      exact hret _ _ dX6_sellFor_86
    refine zj_lcmp_le C 51 dX6_sellFor_24 dX6_sellFor_25 (by decide) (fun c => ?_) (fun c => ?_)
    · have c_24 : ((((gTr_quote t)).toInt64) - R_17) ≤ 0 := c
      refine zj_aload_n C dX6_sellFor_51 1 rfl ?_
      refine zj_get C 0 6 3 (v := .int (gTr_lots t)) inZ6 rfl rfl (by decide) tg_146 rfl dX6_sellFor_52 ?_
      refine zj_i2l C dX6_sellFor_55 ?_
      exact J_24 (((gTr_lots t)).toInt64) (by simp only [if_pos c_5, if_pos c_24]; first | done | assumption)
    · have c_24 : ¬ (((((gTr_quote t)).toInt64) - R_17) ≤ 0) := c
      refine zj_lload_n C dX6_sellFor_28 2 rfl ?_
      refine zj_aload_n C dX6_sellFor_29 1 rfl ?_
      refine zj_get C 0 6 0 (v := .long (gTr_cash t)) inZ6 rfl rfl (by decide) tg_139 rfl dX6_sellFor_30 ?_
      refine zj_lsub C dX6_sellFor_33 ?_
      refine zj_lload_n C dX6_sellFor_34 0 rfl ?_
      refine zj_ladd C dX6_sellFor_35 ?_
      refine zj_lconst C (v := 1) dX6_sellFor_36 (by decide) ?_
      refine zj_lsub C dX6_sellFor_37 ?_
      refine zj_lload_n C dX6_sellFor_38 0 rfl ?_
      refine zj_ldiv C dX6_sellFor_39 (zne_le c_24) ?_
      refine zj_aload_n C dX6_sellFor_40 1 rfl ?_
      refine zj_get C 0 6 3 (v := .int (gTr_lots t)) inZ6 rfl rfl (by decide) tg_146 rfl dX6_sellFor_41 ?_
      refine zj_i2l C dX6_sellFor_44 ?_
      refine zj_mmin C (x := ((((am - (gTr_cash t)) + ((((gTr_quote t)).toInt64) - R_17)) - 1) / ((((gTr_quote t)).toInt64) - R_17))) (y := (((gTr_lots t)).toInt64)) tg_411 ⟨by decide, Nat.le_of_ble_eq_true rfl⟩ dX6_sellFor_45 ?_
      refine zj_goto C 56 dX6_sellFor_48 (by decide) ?_
      exact J_24 (if (((gTr_lots t)).toInt64) < ((((am - (gTr_cash t)) + ((((gTr_quote t)).toInt64) - R_17)) - 1) / ((((gTr_quote t)).toInt64) - R_17)) then (((gTr_lots t)).toInt64) else ((((am - (gTr_cash t)) + ((((gTr_quote t)).toInt64) - R_17)) - 1) / ((((gTr_quote t)).toInt64) - R_17))) (by simp only [if_pos c_5, if_neg c_24]; first | done | assumption)
  · have c_5 : ¬ ((gTr_cash t) < am) := c
    refine zj_iconst C (v := (nI 0)) dX6_sellFor_9 (by decide) ?_
    have e : f_X6_sellFor t am = ((nI 0), t) := by refine (if_neg c_5).trans ?_; rfl
    rw [e] at hret
    exact hret _ _ dX6_sellFor_10
