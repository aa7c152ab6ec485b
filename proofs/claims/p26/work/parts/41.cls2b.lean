noncomputable def f_X6_middle (t : zTr) : Int64 :=
  let R_1 : Int64 := (f_X6_units t)
  let x7_0 : Int64 := (if R_1 ≤ 0 then 100000 else ((1000 * (f_X6_value t)) / R_1))
  x7_0
set_option maxHeartbeats 4000000 in
set_option maxRecDepth 100000 in
theorem c_X6_middle (l : Launch) (D : va_G) (cy : Nat → ClassId) (a : Nat → Nat)  (t : zTr)  : zC l yX6_middle (zW yX6_middle cX6_middle 3 (Option.some Jvm.ClassFile.FieldType.long)) { frames := 2, cells := 0, slots := 0, locals := 43 } D cy [.ref (a 0)] (WT cy a t) (some (.long (f_X6_middle t))) (WT cy a t) := by
  refine zC_of rfl (Nat.le_of_ble_eq_true rfl) (zOk_l _) (fun E C hret => ?_)
  show zJ E 3 0 0 (WT cy a t) 0 [(0, .ref (a 0))] []
  refine zj_aload_n C dX6_middle_0 0 rfl ?_
  have M_1 := c_X6_units l D cy a  t 
  obtain ⟨R_1, hR_1⟩ : ∃ g : Int64, g = (f_X6_units t) := ⟨_, rfl⟩
  rw [← hR_1] at M_1
  refine zj_callVB C (nn := 18) (ws' := (WT cy a t)) (st := []) (st1 := [.long R_1]) ([] : va_W) ([] : va_W) 0 6 (M_1) (zg_V tg_397 tg_394 tg_395 tg_396 tg_2) ⟨rfl, hdZ_X6_units⟩ ⟨rfl, rfl⟩ ⟨by decide, by decide⟩ rfl rfl (List.append_nil _).symm ⟨rfl, rfl⟩ rfl rfl (Nat.le_of_ble_eq_true rfl) dX6_middle_1 (List.append_nil _) rfl ?_
  refine zj_lstore_n C (L' := [(1, .long R_1), (0, .ref (a 0))]) dX6_middle_4 rfl (by decide) rfl ?_
  refine zj_lload_n C dX6_middle_5 0 rfl ?_
  refine zj_lconst C (v := 0) dX6_middle_6 (by decide) ?_
  have J_7 : ∀ (x7_0 : Int64), x7_0 = (if R_1 ≤ 0 then 100000 else ((1000 * (f_X6_value t)) / R_1)) → zJ E 3 0 0 (WT cy a t) 27 [(1, .long R_1), (0, .ref (a 0))] [.long x7_0] := by
    intro x7_0 hx7_0
    subst hx7_0
    subst hR_1
    have e : f_X6_middle t = (if (f_X6_units t) ≤ 0 then 100000 else ((1000 * (f_X6_value t)) / (f_X6_units t))) := by rfl
    rw [e] at hret
    exact hret _ _ dX6_middle_27
  refine zj_lcmp_le C 24 dX6_middle_7 dX6_middle_8 (by decide) (fun c => ?_) (fun c => ?_)
  · have c_7 : R_1 ≤ 0 := c
    refine zj_ldc2 C dX6_middle_24 tg_437 ?_
    exact J_7 100000 (by simp only [if_pos c_7]; first | done | assumption)
  · have c_7 : ¬ (R_1 ≤ 0) := c
    refine zj_ldc2 C dX6_middle_11 tg_402 ?_
    refine zj_aload_n C dX6_middle_14 1 rfl ?_
    have M_15 := c_X6_value l D cy a  t 
    obtain ⟨R_15, hR_15⟩ : ∃ g : Int64, g = (f_X6_value t) := ⟨_, rfl⟩
    rw [← hR_15] at M_15
    refine zj_callVB C (nn := 18) (ws' := (WT cy a t)) (st := [.long 1000]) (st1 := [.long R_15, .long 1000]) ([] : va_W) ([] : va_W) 0 6 (M_15) (zg_V tg_436 tg_433 tg_434 tg_435 tg_2) ⟨rfl, hdZ_X6_value⟩ ⟨rfl, rfl⟩ ⟨by decide, by decide⟩ rfl rfl (List.append_nil _).symm ⟨rfl, rfl⟩ rfl rfl (Nat.le_of_ble_eq_true rfl) dX6_middle_15 (List.append_nil _) rfl ?_
    refine zj_lmul C dX6_middle_18 ?_
    refine zj_lload_n C dX6_middle_19 0 rfl ?_
    refine zj_ldiv C dX6_middle_20 (zne_le c_7) ?_
    refine zj_goto C 27 dX6_middle_21 (by decide) ?_
    subst hR_15
    exact J_7 ((1000 * (f_X6_value t)) / R_1) (by simp only [if_neg c_7]; first | done | assumption)

noncomputable def f_X6_unitIncome (t : zTr) : Int64 :=
  let R_1 : Int64 := (f_X6_units t)
  let x7_0 : Int64 := (if R_1 ≤ 0 then 0 else ((1000 * (gTr_pool t)) / R_1))
  x7_0
set_option maxHeartbeats 4000000 in
set_option maxRecDepth 100000 in
theorem c_X6_unitIncome (l : Launch) (D : va_G) (cy : Nat → ClassId) (a : Nat → Nat)  (t : zTr)  : zC l yX6_unitIncome (zW yX6_unitIncome cX6_unitIncome 3 (Option.some Jvm.ClassFile.FieldType.long)) { frames := 2, cells := 0, slots := 0, locals := 43 } D cy [.ref (a 0)] (WT cy a t) (some (.long (f_X6_unitIncome t))) (WT cy a t) := by
  refine zC_of rfl (Nat.le_of_ble_eq_true rfl) (zOk_l _) (fun E C hret => ?_)
  show zJ E 3 0 0 (WT cy a t) 0 [(0, .ref (a 0))] []
  refine zj_aload_n C dX6_unitIncome_0 0 rfl ?_
  have M_1 := c_X6_units l D cy a  t 
  obtain ⟨R_1, hR_1⟩ : ∃ g : Int64, g = (f_X6_units t) := ⟨_, rfl⟩
  rw [← hR_1] at M_1
  refine zj_callVB C (nn := 18) (ws' := (WT cy a t)) (st := []) (st1 := [.long R_1]) ([] : va_W) ([] : va_W) 0 6 (M_1) (zg_V tg_397 tg_394 tg_395 tg_396 tg_2) ⟨rfl, hdZ_X6_units⟩ ⟨rfl, rfl⟩ ⟨by decide, by decide⟩ rfl rfl (List.append_nil _).symm ⟨rfl, rfl⟩ rfl rfl (Nat.le_of_ble_eq_true rfl) dX6_unitIncome_1 (List.append_nil _) rfl ?_
  refine zj_lstore_n C (L' := [(1, .long R_1), (0, .ref (a 0))]) dX6_unitIncome_4 rfl (by decide) rfl ?_
  refine zj_lload_n C dX6_unitIncome_5 0 rfl ?_
  refine zj_lconst C (v := 0) dX6_unitIncome_6 (by decide) ?_
  have J_7 : ∀ (x7_0 : Int64), x7_0 = (if R_1 ≤ 0 then 0 else ((1000 * (gTr_pool t)) / R_1)) → zJ E 3 0 0 (WT cy a t) 25 [(1, .long R_1), (0, .ref (a 0))] [.long x7_0] := by
    intro x7_0 hx7_0
    subst hx7_0
    subst hR_1
    have e : f_X6_unitIncome t = (if (f_X6_units t) ≤ 0 then 0 else ((1000 * (gTr_pool t)) / (f_X6_units t))) := by rfl
    rw [e] at hret
    exact hret _ _ dX6_unitIncome_25
  refine zj_lcmp_le C 24 dX6_unitIncome_7 dX6_unitIncome_8 (by decide) (fun c => ?_) (fun c => ?_)
  · have c_7 : R_1 ≤ 0 := c
    refine zj_lconst C (v := 0) dX6_unitIncome_24 (by decide) ?_
    exact J_7 0 (by simp only [if_pos c_7]; first | done | assumption)
  · have c_7 : ¬ (R_1 ≤ 0) := c
    refine zj_ldc2 C dX6_unitIncome_11 tg_402 ?_
    refine zj_aload_n C dX6_unitIncome_14 1 rfl ?_
    refine zj_get C 0 6 1 (v := .long (gTr_pool t)) inZ6 rfl rfl (by decide) tg_142 rfl dX6_unitIncome_15 ?_
    refine zj_lmul C dX6_unitIncome_18 ?_
    refine zj_lload_n C dX6_unitIncome_19 0 rfl ?_
    refine zj_ldiv C dX6_unitIncome_20 (zne_le c_7) ?_
    refine zj_goto C 25 dX6_unitIncome_21 (by decide) ?_
    exact J_7 ((1000 * (gTr_pool t)) / R_1) (by simp only [if_neg c_7]; first | done | assumption)

noncomputable def f_X6_fee (t : zTr) : Int64 :=
  ((((((gTr_quote t)).toInt64) * ((((gTr_st t) 4)).toInt64)) + 999) / 1000)
set_option maxHeartbeats 4000000 in
set_option maxRecDepth 100000 in
theorem c_X6_fee (l : Launch) (D : va_G) (cy : Nat → ClassId) (a : Nat → Nat)  (t : zTr)  : zC l yX6_fee (zW yX6_fee cX6_fee 1 (Option.some Jvm.ClassFile.FieldType.long)) { frames := 0, cells := 0, slots := 0, locals := 0 } D cy [.ref (a 0)] (WT cy a t) (some (.long (f_X6_fee t))) (WT cy a t) := by
  refine zC_of rfl (Nat.le_of_ble_eq_true rfl) (zOk_l _) (fun E C hret => ?_)
  show zJ E 1 0 0 (WT cy a t) 0 [(0, .ref (a 0))] []
  refine zj_aload_n C dX6_fee_0 0 rfl ?_
  refine zj_get C 0 6 4 (v := .int (gTr_quote t)) inZ6 rfl rfl (by decide) tg_148 rfl dX6_fee_1 ?_
  refine zj_i2l C dX6_fee_4 ?_
  refine zj_aload_n C dX6_fee_5 0 rfl ?_
  refine zj_get C 0 6 6 (v := .ref (a 1)) inZ6 rfl rfl (by decide) tg_153 rfl dX6_fee_6 ?_
  refine zj_iconst C (v := (nI 4)) dX6_fee_9 (by decide) ?_
  refine zj_iald C 1 (f := (gTr_st t)) 4 (by decide) (vp_in_nI (by decide) (by decide)) rfl dX6_fee_10 ?_
  refine zj_i2l C dX6_fee_11 ?_
  refine zj_lmul C dX6_fee_12 ?_
  refine zj_ldc2 C dX6_fee_13 tg_482 ?_
  refine zj_ladd C dX6_fee_16 ?_
  refine zj_ldc2 C dX6_fee_17 tg_402 ?_
  refine zj_ldiv C dX6_fee_20 (by decide) ?_
  have e : f_X6_fee t = ((((((gTr_quote t)).toInt64) * ((((gTr_st t) 4)).toInt64)) + 999) / 1000) := by rfl
  rw [e] at hret
  exact hret _ _ dX6_fee_21

noncomputable def f_X6_isHour (h : Int32) : Bool :=
  let x1_0 : Bool := (if h < 0 then false else (if (nI 23) < h then false else true))
  x1_0
set_option maxHeartbeats 4000000 in
set_option maxRecDepth 100000 in
theorem c_X6_isHour (l : Launch) (D : va_G) (cy : Nat → ClassId)  (h : Int32)   : zC l yX6_isHour (zW yX6_isHour cX6_isHour 1 (Option.some Jvm.ClassFile.FieldType.boolean)) { frames := 0, cells := 0, slots := 0, locals := 0 } D cy [.int h] ([] : va_W) (some (.int (zB (f_X6_isHour h)))) ([] : va_W) := by
  refine zC_of rfl (Nat.le_of_ble_eq_true rfl) (zOk_z (zB_01 _)) (fun E C hret => ?_)
  show zJ E 1 0 0 ([] : va_W) 0 [(0, .int h)] []
  refine zj_iload_n C dX6_isHour_0 0 rfl ?_
  have J_1 : ∀ (x1_0 : Bool), x1_0 = (if h < 0 then false else (if (nI 23) < h then false else true)) → zJ E 1 0 0 ([] : va_W) 15 [(0, .int h)] [.int (zB x1_0)] := by
    intro x1_0 hx1_0
    subst hx1_0
    have e : f_X6_isHour h = (if h < 0 then false else (if (nI 23) < h then false else true)) := by rfl
    rw [e] at hret
    exact hret _ _ dX6_isHour_15
  refine zj_if_lt C 14 dX6_isHour_1 (by decide) (fun c => ?_) (fun c => ?_)
  · have c_1 : h < 0 := c
    refine zj_iconst C (v := (nI 0)) dX6_isHour_14 (by decide) ?_
    exact J_1 false (by simp only [if_pos c_1]; first | done | assumption)
  · have c_1 : ¬ (h < 0) := c
    refine zj_iload_n C dX6_isHour_4 0 rfl ?_
    refine zj_bipush C (v := (nI 23)) dX6_isHour_5 (by decide) ?_
    have J_7 : ∀ (x7_0 : Bool), x7_0 = (if (nI 23) < h then false else true) → zJ E 1 0 0 ([] : va_W) 15 [(0, .int h)] [.int (zB x7_0)] := by
      intro x7_0 hx7_0
      subst hx7_0
      exact J_1 (if (nI 23) < h then false else true) (by simp only [if_neg c_1]; first | done | assumption)
    refine zj_icmp_gt C 14 dX6_isHour_7 (by decide) (fun c => ?_) (fun c => ?_)
    · have c_7 : (nI 23) < h := c
      refine zj_iconst C (v := (nI 0)) dX6_isHour_14 (by decide) ?_
      exact J_7 false (by simp only [if_neg c_1, if_pos c_7]; first | done | assumption)
    · have c_7 : ¬ ((nI 23) < h) := c
      refine zj_iconst C (v := (nI 1)) dX6_isHour_10 (by decide) ?_
      refine zj_goto C 15 dX6_isHour_11 (by decide) ?_
      exact J_7 true (by simp only [if_neg c_1, if_neg c_7]; first | done | assumption)

noncomputable def f_X6_dayOf (t : zTr) (hour : Int32) : Int32 :=
  let x7_0 : Int32 := (if ((gTr_st t) 0) ≤ hour then ((gTr_day t) + (nI 1)) else (gTr_day t))
  x7_0
set_option maxHeartbeats 4000000 in
set_option maxRecDepth 100000 in
theorem c_X6_dayOf (l : Launch) (D : va_G) (cy : Nat → ClassId) (a : Nat → Nat) (hour : Int32) (t : zTr)  : zC l yX6_dayOf (zW yX6_dayOf cX6_dayOf 2 (Option.some Jvm.ClassFile.FieldType.int)) { frames := 0, cells := 0, slots := 0, locals := 0 } D cy [.ref (a 0), .int hour] (WT cy a t) (some (.int (f_X6_dayOf t hour))) (WT cy a t) := by
  refine zC_of rfl (Nat.le_of_ble_eq_true rfl) (zOk_i _) (fun E C hret => ?_)
  show zJ E 2 0 0 (WT cy a t) 0 [(0, .ref (a 0)), (1, .int hour)] []
  refine zj_iload_n C dX6_dayOf_0 1 rfl ?_
  refine zj_aload_n C dX6_dayOf_1 0 rfl ?_
  refine zj_get C 0 6 6 (v := .ref (a 1)) inZ6 rfl rfl (by decide) tg_153 rfl dX6_dayOf_2 ?_
  refine zj_iconst C (v := (nI 0)) dX6_dayOf_5 (by decide) ?_
  refine zj_iald C 1 (f := (gTr_st t)) 0 (by decide) (vp_in_nI (by decide) (by decide)) rfl dX6_dayOf_6 ?_
  have J_7 : ∀ (x7_0 : Int32), x7_0 = (if ((gTr_st t) 0) ≤ hour then ((gTr_day t) + (nI 1)) else (gTr_day t)) → zJ E 2 0 0 (WT cy a t) 23 [(0, .ref (a 0)), (1, .int hour)] [.int x7_0] := by
    intro x7_0 hx7_0
    subst hx7_0
    have e : f_X6_dayOf t hour = (if ((gTr_st t) 0) ≤ hour then ((gTr_day t) + (nI 1)) else (gTr_day t)) := by rfl
    rw [e] at hret
    exact hret _ _ dX6_dayOf_23
  refine zj_icmp_ge C 17 dX6_dayOf_7 (by decide) (fun c => ?_) (fun c => ?_)
  · have c_7 : ((gTr_st t) 0) ≤ hour := c
    refine zj_aload_n C dX6_dayOf_17 0 rfl ?_
    refine zj_get C 0 6 5 (v := .int (gTr_day t)) inZ6 rfl rfl (by decide) tg_150 rfl dX6_dayOf_18 ?_
    refine zj_iconst C (v := (nI 1)) dX6_dayOf_21 (by decide) ?_
    refine zj_iadd C dX6_dayOf_22 ?_
    exact J_7 ((gTr_day t) + (nI 1)) (by simp only [if_pos c_7]; first | done | assumption)
  · have c_7 : ¬ (((gTr_st t) 0) ≤ hour) := c
    refine zj_aload_n C dX6_dayOf_10 0 rfl ?_
    refine zj_get C 0 6 5 (v := .int (gTr_day t)) inZ6 rfl rfl (by decide) tg_150 rfl dX6_dayOf_11 ?_
    refine zj_goto C 23 dX6_dayOf_14 (by decide) ?_
    exact J_7 (gTr_day t) (by simp only [if_neg c_7]; first | done | assumption)

noncomputable def f_X6_freeUnits (t : zTr) (h : Nat) : Int64 :=
  let R_6 : Int64 := (f_X2_units (gTr_hd t h))
  let R_14 : Int64 := (f_X4_sumOf (gTr_le t) (nI h))
  (R_6 - R_14)
set_option maxHeartbeats 4000000 in
set_option maxRecDepth 100000 in
theorem c_X6_freeUnits (l : Launch) (D : va_G) (cy : Nat → ClassId) (a : Nat → Nat) (h : Nat) (t : zTr) (hh : h < 6) (hl : gOd_n (gTr_le t) ≤ 20) : zC l yX6_freeUnits (zW yX6_freeUnits cX6_freeUnits 2 (Option.some Jvm.ClassFile.FieldType.long)) { frames := 1, cells := 0, slots := 0, locals := 24 } D cy [.ref (a 0), .int (nI h)] (WT cy a t) (some (.long (f_X6_freeUnits t h))) (WT cy a t) := by
  refine zC_of rfl (Nat.le_of_ble_eq_true rfl) (zOk_l _) (fun E C hret => ?_)
  show zJ E 2 0 0 (WT cy a t) 0 [(0, .ref (a 0)), (1, .int (nI h))] []
  refine zj_aload_n C dX6_freeUnits_0 0 rfl ?_
  refine zj_get C 0 6 7 (v := .ref (a 2)) inZ6 rfl rfl (by decide) tg_156 rfl dX6_freeUnits_1 ?_
  refine zj_iload_n C dX6_freeUnits_4 1 rfl ?_
  refine zj_aald C 2 4 (f := (fun k => some (a (12 + k)))) (b := (a (12 + h))) h (nI_clamp (by omega)) (vp_in_nI (by omega) (by omega)) rfl rfl rfl dX6_freeUnits_5 ?_
  have M_6 := c_X2_units l D cy (a (12 + h))  (gTr_hd t h) 
  obtain ⟨R_6, hR_6⟩ : ∃ g : Int64, g = (f_X2_units (gTr_hd t h)) := ⟨_, rfl⟩
  rw [← hR_6] at M_6
  refine zj_callV C (nn := 1) (ws' := (WT cy a t)) (st := []) (st1 := [.long R_6]) (12 + h) 2 [(12 + h)] (M_6) (zg_V tg_381 tg_378 tg_379 tg_380 tg_3) ⟨rfl, hdZ_X2_units⟩ ⟨rfl, rfl⟩ ⟨by decide, by decide⟩ (WT_h (by omega)) rfl (WT_hC (by omega)) rfl ⟨rfl, rfl⟩ rfl rfl (Nat.le_of_ble_eq_true rfl) dX6_freeUnits_6 (WT_same (by omega)) rfl ?_
  refine zj_aload_n C dX6_freeUnits_9 0 rfl ?_
  refine zj_get C 0 6 9 (v := .ref (a 7)) inZ6 rfl rfl (by decide) tg_162 rfl dX6_freeUnits_10 ?_
  refine zj_iload_n C dX6_freeUnits_13 1 rfl ?_
  have M_14 := c_X4_sumOf l D cy (a 7) (a 8) (a 9) (a 10) (nI h) (gTr_le t) hl
  obtain ⟨R_14, hR_14⟩ : ∃ g : Int64, g = (f_X4_sumOf (gTr_le t) (nI h)) := ⟨_, rfl⟩
  rw [← hR_14] at M_14
  refine zj_callV C (nn := 4) (ws' := (WT cy a t)) (st := [.long R_6]) (st1 := [.long R_14, .long R_6]) 7 4 [7, 8, 9, 10] (M_14) (zg_V tg_385 tg_382 tg_383 tg_384 tg_4) ⟨rfl, hdZ_X4_sumOf⟩ ⟨rfl, rfl⟩ ⟨by decide, by decide⟩ rfl rfl rfl (by decide) ⟨rfl, rfl⟩ rfl rfl (Nat.le_of_ble_eq_true rfl) dX6_freeUnits_14 rfl rfl ?_
  refine zj_lsub C dX6_freeUnits_17 ?_
  subst hR_14
  subst hR_6
  have e : f_X6_freeUnits t h = ((f_X2_units (gTr_hd t h)) - (f_X4_sumOf (gTr_le t) (nI h))) := by rfl
  rw [e] at hret
  exact hret _ _ dX6_freeUnits_18

noncomputable def f_X6_changeQuote (t : zTr) (q : Int32) : Int32 × zTr :=
  if q < (nI 1) then
    ((-2), t)
  else
    if q ≤ (nI 10000) then
      ((gTr_quote t), (sTr_quote t q))
    else
      ((-2), t)
set_option maxHeartbeats 4000000 in
set_option maxRecDepth 100000 in
theorem c_X6_changeQuote (l : Launch) (D : va_G) (cy : Nat → ClassId) (a : Nat → Nat) (q : Int32) (t : zTr)  : zC l yX6_changeQuote (zW yX6_changeQuote cX6_changeQuote 3 (Option.some Jvm.ClassFile.FieldType.int)) { frames := 0, cells := 0, slots := 0, locals := 0 } D cy [.ref (a 0), .int q] (WT cy a t) (some (.int ((f_X6_changeQuote t q).1))) (WT cy a ((f_X6_changeQuote t q).2)) := by
  refine zC_of rfl (Nat.le_of_ble_eq_true rfl) (zOk_i _) (fun E C hret => ?_)
  show zJ E 3 0 0 (WT cy a t) 0 [(0, .ref (a 0)), (1, .int q)] []
  refine zj_iload_n C dX6_changeQuote_0 1 rfl ?_
  refine zj_iconst C (v := (nI 1)) dX6_changeQuote_1 (by decide) ?_
  refine zj_icmp_lt C 12 dX6_changeQuote_2 (by decide) (fun c => ?_) (fun c => ?_)
  · have c_2 : q < (nI 1) := c
    refine zj_bipush C (v := (-2)) dX6_changeQuote_12 (by decide) ?_
    have e : f_X6_changeQuote t q = ((-2), t) := by refine (if_pos c_2).trans ?_; rfl
    rw [e] at hret
    exact hret _ _ dX6_changeQuote_14
  · have c_2 : ¬ (q < (nI 1)) := c
    refine zj_iload_n C dX6_changeQuote_5 1 rfl ?_
    refine zj_sipush C (v := (nI 10000)) dX6_changeQuote_6 (by decide) ?_
    refine zj_icmp_le C 15 dX6_changeQuote_9 (by decide) (fun c => ?_) (fun c => ?_)
    · have c_9 : q ≤ (nI 10000) := c
      refine zj_aload_n C dX6_changeQuote_15 0 rfl ?_
      refine zj_get C 0 6 4 (v := .int (gTr_quote t)) inZ6 rfl rfl (by decide) tg_148 rfl dX6_changeQuote_16 ?_
      refine zj_istore_n C (L' := [(2, .int (gTr_quote t)), (0, .ref (a 0)), (1, .int q)]) dX6_changeQuote_19 rfl (by decide) rfl ?_
      refine zj_aload_n C dX6_changeQuote_20 1 rfl ?_
      refine zj_iload_n C dX6_changeQuote_21 2 rfl ?_
      refine zj_put C 0 6 4 (v := .int q) (ws' := (WT cy a (sTr_quote t q))) tyX6 tyX6_ok nmX6 inZ6 rfl rfl (by decide) tg_148 rfl rfl rfl (Nat.le_of_ble_eq_true rfl) dX6_changeQuote_22 rfl ?_
      refine zj_iload_n C dX6_changeQuote_25 0 rfl ?_
      have e : f_X6_changeQuote t q = ((gTr_quote t), (sTr_quote t q)) := by refine (if_neg c_2).trans ?_; refine (if_pos c_9).trans ?_; rfl
      rw [e] at hret
      exact hret _ _ dX6_changeQuote_26
    · have c_9 : ¬ (q ≤ (nI 10000)) := c
      refine zj_bipush C (v := (-2)) dX6_changeQuote_12 (by decide) ?_
      have e : f_X6_changeQuote t q = ((-2), t) := by refine (if_neg c_2).trans ?_; refine (if_neg c_9).trans ?_; rfl
      rw [e] at hret
      exact hret _ _ dX6_changeQuote_14
