/-- a value whose making the unifier does not look into -/
noncomputable def zsl {α : Type} (x : α) : α := Classical.choose (⟨x, rfl⟩ : ∃ y : α, y = x)
theorem zsl_e {α : Type} (x : α) : zsl x = x := Classical.choose_spec (⟨x, rfl⟩ : ∃ y : α, y = x)

noncomputable def f_X8_in (v : Int64) (low : Int64) (high : Int64) : Bool :=
  let x2_0 : Bool := (if v < low then false else (if high < v then false else true))
  x2_0
set_option maxHeartbeats 4000000 in
set_option maxRecDepth 100000 in
theorem c_X8_in (l : Launch) (D : va_G) (cy : Nat → ClassId) (v : Int64) (low : Int64) (high : Int64)    : zC l yX8_in (zW yX8_in cX8_in 6 (Option.some Jvm.ClassFile.FieldType.boolean)) { frames := 0, cells := 0, slots := 0, locals := 0 } D cy [.long v, .long low, .long high] ([] : va_W) (some (.int (zB (f_X8_in v low high)))) ([] : va_W) := by
  refine zC_of rfl (Nat.le_of_ble_eq_true rfl) (zOk_z (zB_01 _)) (fun E C hret => ?_)
  show zJ E 6 0 0 ([] : va_W) 0 [(0, .long v), (2, .long low), (4, .long high)] []
  refine zj_lload_n C dX8_in_0 0 rfl ?_
  refine zj_lload_n C dX8_in_1 1 rfl ?_
  have J_2 : ∀ (x2_0 : Bool), x2_0 = (if v < low then false else (if high < v then false else true)) → zJ E 6 0 0 ([] : va_W) 18 [(0, .long v), (2, .long low), (4, .long high)] [.int (zB x2_0)] := by
    intro x2_0 hx2_0
    subst hx2_0
    have e : f_X8_in v low high = (if v < low then false else (if high < v then false else true)) := by rfl
    rw [e] at hret
    exact hret _ _ dX8_in_18
  refine zj_lcmp_lt C 17 dX8_in_2 dX8_in_3 (by decide) (fun c => ?_) (fun c => ?_)
  · have c_2 : v < low := c
    refine zj_iconst C (v := (nI 0)) dX8_in_17 (by decide) ?_
    exact J_2 false (by simp only [if_pos c_2]; first | done | assumption)
  · have c_2 : ¬ (v < low) := c
    refine zj_lload_n C dX8_in_6 0 rfl ?_
    refine zj_lload C dX8_in_7 2 rfl ?_
    have J_9 : ∀ (x9_0 : Bool), x9_0 = (if high < v then false else true) → zJ E 6 0 0 ([] : va_W) 18 [(0, .long v), (2, .long low), (4, .long high)] [.int (zB x9_0)] := by
      intro x9_0 hx9_0
      exact J_2 x9_0 (by simp only [if_neg c_2]; first | done | assumption)
    refine zj_lcmp_gt C 17 dX8_in_9 dX8_in_10 (by decide) (fun c => ?_) (fun c => ?_)
    · have c_9 : high < v := c
      refine zj_iconst C (v := (nI 0)) dX8_in_17 (by decide) ?_
      exact J_9 false (by simp only [if_neg c_2, if_pos c_9]; first | done | assumption)
    · have c_9 : ¬ (high < v) := c
      refine zj_iconst C (v := (nI 1)) dX8_in_13 (by decide) ?_
      refine zj_goto C 18 dX8_in_14 (by decide) ?_
      exact J_9 true (by simp only [if_neg c_2, if_neg c_9]; first | done | assumption)

noncomputable def f_X8_isHolder (h : Int32) : Bool :=
  (f_X8_in (h.toInt64) 0 5)
set_option maxHeartbeats 4000000 in
set_option maxRecDepth 100000 in
theorem c_X8_isHolder (l : Launch) (D : va_G) (cy : Nat → ClassId) (h : Int32)    : zC l yX8_isHolder (zW yX8_isHolder cX8_isHolder 1 (Option.some Jvm.ClassFile.FieldType.boolean)) { frames := 1, cells := 0, slots := 0, locals := 25 } D cy [.int h] ([] : va_W) (some (.int (zB (f_X8_isHolder h)))) ([] : va_W) := by
  refine zC_of rfl (Nat.le_of_ble_eq_true rfl) (zOk_z (zB_01 _)) (fun E C hret => ?_)
  show zJ E 1 0 0 ([] : va_W) 0 [(0, .int h)] []
  refine zj_iload_n C dX8_isHolder_0 0 rfl ?_
  refine zj_i2l C dX8_isHolder_1 ?_
  refine zj_lconst C (v := 0) dX8_isHolder_2 (by decide) ?_
  refine zj_ldc2 C dX8_isHolder_3 tg_674 ?_
  refine zj_callS C (nn := 0) (ws' := ([] : va_W)) (st := []) (st1 := [.int (zB (f_X8_in (h.toInt64) 0 5))]) [] (c_X8_in l D cy (h.toInt64) 0 5  ) tg_730 tg_728 tg_729 tg_9 hdZ_X8_in ⟨rfl, rfl⟩ ⟨by decide, by decide⟩ rfl (by decide) ⟨rfl, rfl⟩ rfl rfl (Nat.le_of_ble_eq_true rfl) dX8_isHolder_6 rfl rfl ?_
  have e : f_X8_isHolder h = (f_X8_in (h.toInt64) 0 5) := by rfl
  rw [e] at hret
  exact hret _ _ dX8_isHolder_9

noncomputable def f_X8_of (S : zMs) (h : Nat) (w : Nat) : Int64 :=
  ((gMs_at S) (19 + (7 * h) + w))
set_option maxHeartbeats 4000000 in
set_option maxRecDepth 100000 in
theorem c_X8_of (l : Launch) (D : va_G) (cy : Nat → ClassId) (m : Nat → Nat) (h : Nat) (w : Nat)  (S : zMs) (hh : h < 6) (hw : w < 7) : zC l yX8_of (zW yX8_of cX8_of 3 (Option.some Jvm.ClassFile.FieldType.long)) { frames := 0, cells := 0, slots := 0, locals := 0 } D cy [.ref (m 0), .int (nI h), .int (nI w)] (WM cy m S) (some (.long (f_X8_of S h w))) (WM cy m S) := by
  refine zC_of rfl (Nat.le_of_ble_eq_true rfl) (zOk_l _) (fun E C hret => ?_)
  show zJ E 3 0 0 (WM cy m S) 0 [(0, .ref (m 0)), (1, .int (nI h)), (2, .int (nI w))] []
  refine zj_aload_n C dX8_of_0 0 rfl ?_
  refine zj_get C 0 8 0 (v := .ref (m 1)) inZ8 rfl rfl (by decide) tg_677 rfl dX8_of_1 ?_
  refine zj_bipush C (v := (nI 19)) dX8_of_4 (by decide) ?_
  refine zj_bipush C (v := (nI 7)) dX8_of_6 (by decide) ?_
  refine zj_iload_n C dX8_of_8 1 rfl ?_
  refine zj_imul C dX8_of_9 ?_
  refine zj_topi (nI (7 * h)) (pk_mul _ _) ?_
  refine zj_iadd C dX8_of_10 ?_
  refine zj_topi (nI (19 + (7 * h))) (nI_add _ _) ?_
  refine zj_iload_n C dX8_of_11 2 rfl ?_
  refine zj_iadd C dX8_of_12 ?_
  refine zj_topi (nI (19 + (7 * h) + w)) (nI_add _ _) ?_
  refine zj_lald C 1 (f := (gMs_at S)) (19 + (7 * h) + w) (nI_clamp (by omega)) (vp_in_nI (by omega) (by omega)) rfl dX8_of_13 ?_
  have e : f_X8_of S h w = ((gMs_at S) (19 + (7 * h) + w)) := by rfl
  rw [e] at hret
  exact hret _ _ dX8_of_14

noncomputable def f_X8_add (S : zMs) (h : Nat) (w : Nat) (by0 : Int64) : zMs :=
  (sMs_at S (vp_updL (gMs_at S) (19 + (7 * h) + w) (((gMs_at S) (19 + (7 * h) + w)) + by0)))
set_option maxHeartbeats 4000000 in
set_option maxRecDepth 100000 in
theorem c_X8_add (l : Launch) (D : va_G) (cy : Nat → ClassId) (m : Nat → Nat) (h : Nat) (w : Nat) (by0 : Int64)  (S : zMs) (hh : h < 6) (hw : w < 7) : zC l yX8_add (zW yX8_add cX8_add 5 (Option.none : Option Jvm.ClassFile.FieldType)) { frames := 0, cells := 0, slots := 0, locals := 0 } D cy [.ref (m 0), .int (nI h), .int (nI w), .long by0] (WM cy m S) none (WM cy m (f_X8_add S h w by0)) := by
  refine zC_of rfl (Nat.le_of_ble_eq_true rfl) zOk_v (fun E C hret => ?_)
  show zJ E 5 0 0 (WM cy m S) 0 [(0, .ref (m 0)), (1, .int (nI h)), (2, .int (nI w)), (3, .long by0)] []
  refine zj_aload_n C dX8_add_0 0 rfl ?_
  refine zj_get C 0 8 0 (v := .ref (m 1)) inZ8 rfl rfl (by decide) tg_677 rfl dX8_add_1 ?_
  refine zj_bipush C (v := (nI 19)) dX8_add_4 (by decide) ?_
  refine zj_bipush C (v := (nI 7)) dX8_add_6 (by decide) ?_
  refine zj_iload_n C dX8_add_8 1 rfl ?_
  refine zj_imul C dX8_add_9 ?_
  refine zj_topi (nI (7 * h)) (pk_mul _ _) ?_
  refine zj_iadd C dX8_add_10 ?_
  refine zj_topi (nI (19 + (7 * h))) (nI_add _ _) ?_
  refine zj_iload_n C dX8_add_11 2 rfl ?_
  refine zj_iadd C dX8_add_12 ?_
  refine zj_topi (nI (19 + (7 * h) + w)) (nI_add _ _) ?_
  refine zj_dup2 C dX8_add_13 rfl rfl ?_
  refine zj_lald C 1 (f := (gMs_at S)) (19 + (7 * h) + w) (nI_clamp (by omega)) (vp_in_nI (by omega) (by omega)) rfl dX8_add_14 ?_
  refine zj_lload_n C dX8_add_15 3 rfl ?_
  refine zj_ladd C dX8_add_16 ?_
  refine zj_last C 1 (f := (gMs_at S)) (ws' := (WM cy m (sMs_at S (vp_updL (gMs_at S) (19 + (7 * h) + w) (((gMs_at S) (19 + (7 * h) + w)) + by0))))) (19 + (7 * h) + w) (nI_clamp (by omega)) (vp_in_nI (by omega) (by omega)) rfl dX8_add_17 rfl ?_
  have e : f_X8_add S h w by0 = (sMs_at S (vp_updL (gMs_at S) (19 + (7 * h) + w) (((gMs_at S) (19 + (7 * h) + w)) + by0))) := by rfl
  rw [e] at hret
  exact hret _ _ dX8_add_18

noncomputable def f_X8_units (S : zMs) (h : Nat) : Int64 :=
  ((f_X8_of S h 0) + (f_X8_of S h 1))
set_option maxHeartbeats 4000000 in
set_option maxRecDepth 100000 in
theorem c_X8_units (l : Launch) (D : va_G) (cy : Nat → ClassId) (m : Nat → Nat) (h : Nat)  (S : zMs) (hh : h < 6) : zC l yX8_units (zW yX8_units cX8_units 2 (Option.some Jvm.ClassFile.FieldType.long)) { frames := 1, cells := 0, slots := 0, locals := 22 } D cy [.ref (m 0), .int (nI h)] (WM cy m S) (some (.long (f_X8_units S h))) (WM cy m S) := by
  refine zC_of rfl (Nat.le_of_ble_eq_true rfl) (zOk_l _) (fun E C hret => ?_)
  show zJ E 2 0 0 (WM cy m S) 0 [(0, .ref (m 0)), (1, .int (nI h))] []
  refine zj_aload_n C dX8_units_0 0 rfl ?_
  refine zj_iload_n C dX8_units_1 1 rfl ?_
  refine zj_iconst C (v := (nI 0)) dX8_units_2 (by decide) ?_
  refine zj_callV C (nn := 10) (ws' := (WM cy m S)) (st := []) (st1 := [.long (f_X8_of S h 0)]) 0 8 [0, 1, 2, 3, 4, 5, 6, 7, 8, 9] (c_X8_of l D cy m h 0 S (by omega) (by omega)) (zg_V tg_776 tg_773 tg_775 tgp_21 tg_9) ⟨rfl, hdZ_X8_of⟩ ⟨rfl, rfl⟩ ⟨by decide, by decide⟩ rfl rfl rfl (by decide) ⟨rfl, rfl⟩ rfl rfl (Nat.le_of_ble_eq_true rfl) dX8_units_3 rfl rfl ?_
  refine zj_aload_n C dX8_units_6 0 rfl ?_
  refine zj_iload_n C dX8_units_7 1 rfl ?_
  refine zj_iconst C (v := (nI 1)) dX8_units_8 (by decide) ?_
  refine zj_callV C (nn := 10) (ws' := (WM cy m S)) (st := [.long (f_X8_of S h 0)]) (st1 := [.long (f_X8_of S h 1), .long (f_X8_of S h 0)]) 0 8 [0, 1, 2, 3, 4, 5, 6, 7, 8, 9] (c_X8_of l D cy m h 1 S (by omega) (by omega)) (zg_V tg_776 tg_773 tg_775 tgp_21 tg_9) ⟨rfl, hdZ_X8_of⟩ ⟨rfl, rfl⟩ ⟨by decide, by decide⟩ rfl rfl rfl (by decide) ⟨rfl, rfl⟩ rfl rfl (Nat.le_of_ble_eq_true rfl) dX8_units_9 rfl rfl ?_
  refine zj_ladd C dX8_units_12 ?_
  have e : f_X8_units S h = ((f_X8_of S h 0) + (f_X8_of S h 1)) := by rfl
  rw [e] at hret
  exact hret _ _ dX8_units_13

noncomputable def f_X8_value (S : zMs) : Int64 :=
  (((gMs_at S) 5) + (((gMs_at S) 6) * ((gMs_at S) 7)))
set_option maxHeartbeats 4000000 in
set_option maxRecDepth 100000 in
theorem c_X8_value (l : Launch) (D : va_G) (cy : Nat → ClassId) (m : Nat → Nat)   (S : zMs)  : zC l yX8_value (zW yX8_value cX8_value 1 (Option.some Jvm.ClassFile.FieldType.long)) { frames := 0, cells := 0, slots := 0, locals := 0 } D cy [.ref (m 0)] (WM cy m S) (some (.long (f_X8_value S))) (WM cy m S) := by
  refine zC_of rfl (Nat.le_of_ble_eq_true rfl) (zOk_l _) (fun E C hret => ?_)
  show zJ E 1 0 0 (WM cy m S) 0 [(0, .ref (m 0))] []
  refine zj_aload_n C dX8_value_0 0 rfl ?_
  refine zj_get C 0 8 0 (v := .ref (m 1)) inZ8 rfl rfl (by decide) tg_677 rfl dX8_value_1 ?_
  refine zj_iconst C (v := (nI 5)) dX8_value_4 (by decide) ?_
  refine zj_lald C 1 (f := (gMs_at S)) 5 (by decide) (vp_in_nI (by decide) (by decide)) rfl dX8_value_5 ?_
  refine zj_aload_n C dX8_value_6 0 rfl ?_
  refine zj_get C 0 8 0 (v := .ref (m 1)) inZ8 rfl rfl (by decide) tg_677 rfl dX8_value_7 ?_
  refine zj_bipush C (v := (nI 6)) dX8_value_10 (by decide) ?_
  refine zj_lald C 1 (f := (gMs_at S)) 6 (by decide) (vp_in_nI (by decide) (by decide)) rfl dX8_value_12 ?_
  refine zj_aload_n C dX8_value_13 0 rfl ?_
  refine zj_get C 0 8 0 (v := .ref (m 1)) inZ8 rfl rfl (by decide) tg_677 rfl dX8_value_14 ?_
  refine zj_bipush C (v := (nI 7)) dX8_value_17 (by decide) ?_
  refine zj_lald C 1 (f := (gMs_at S)) 7 (by decide) (vp_in_nI (by decide) (by decide)) rfl dX8_value_19 ?_
  refine zj_lmul C dX8_value_20 ?_
  refine zj_ladd C dX8_value_21 ?_
  have e : f_X8_value S = (((gMs_at S) 5) + (((gMs_at S) 6) * ((gMs_at S) 7))) := by rfl
  rw [e] at hret
  exact hret _ _ dX8_value_22

noncomputable def f_X8_cost (S : zMs) : Int64 :=
  (((((gMs_at S) 7) * ((gMs_at S) 4)) + 999) / 1000)
set_option maxHeartbeats 4000000 in
set_option maxRecDepth 100000 in
theorem c_X8_cost (l : Launch) (D : va_G) (cy : Nat → ClassId) (m : Nat → Nat)   (S : zMs)  : zC l yX8_cost (zW yX8_cost cX8_cost 1 (Option.some Jvm.ClassFile.FieldType.long)) { frames := 0, cells := 0, slots := 0, locals := 0 } D cy [.ref (m 0)] (WM cy m S) (some (.long (f_X8_cost S))) (WM cy m S) := by
  refine zC_of rfl (Nat.le_of_ble_eq_true rfl) (zOk_l _) (fun E C hret => ?_)
  show zJ E 1 0 0 (WM cy m S) 0 [(0, .ref (m 0))] []
  refine zj_aload_n C dX8_cost_0 0 rfl ?_
  refine zj_get C 0 8 0 (v := .ref (m 1)) inZ8 rfl rfl (by decide) tg_677 rfl dX8_cost_1 ?_
  refine zj_bipush C (v := (nI 7)) dX8_cost_4 (by decide) ?_
  refine zj_lald C 1 (f := (gMs_at S)) 7 (by decide) (vp_in_nI (by decide) (by decide)) rfl dX8_cost_6 ?_
  refine zj_aload_n C dX8_cost_7 0 rfl ?_
  refine zj_get C 0 8 0 (v := .ref (m 1)) inZ8 rfl rfl (by decide) tg_677 rfl dX8_cost_8 ?_
  refine zj_iconst C (v := (nI 4)) dX8_cost_11 (by decide) ?_
  refine zj_lald C 1 (f := (gMs_at S)) 4 (by decide) (vp_in_nI (by decide) (by decide)) rfl dX8_cost_12 ?_
  refine zj_lmul C dX8_cost_13 ?_
  refine zj_ldc2 C dX8_cost_14 tg_866 ?_
  refine zj_ladd C dX8_cost_17 ?_
  refine zj_ldc2 C dX8_cost_18 tg_675 ?_
  refine zj_ldiv C dX8_cost_21 (by decide) ?_
  have e : f_X8_cost S = (((((gMs_at S) 7) * ((gMs_at S) 4)) + 999) / 1000) := by rfl
  rw [e] at hret
  exact hret _ _ dX8_cost_22

noncomputable def f_X8_ofOrder (S : zMs) (kd : Nat) (o : Nat) (w : Nat) : Int64 :=
  ((gMs_at S) (kd + 1 + (3 * o) + w))
set_option maxHeartbeats 4000000 in
set_option maxRecDepth 100000 in
theorem c_X8_ofOrder (l : Launch) (D : va_G) (cy : Nat → ClassId) (m : Nat → Nat) (kd : Nat) (o : Nat) (w : Nat)  (S : zMs) (hk : kd + 1 + 3 * o + w < 183) : zC l yX8_ofOrder (zW yX8_ofOrder cX8_ofOrder 4 (Option.some Jvm.ClassFile.FieldType.long)) { frames := 0, cells := 0, slots := 0, locals := 0 } D cy [.ref (m 0), .int (nI kd), .int (nI o), .int (nI w)] (WM cy m S) (some (.long (f_X8_ofOrder S kd o w))) (WM cy m S) := by
  refine zC_of rfl (Nat.le_of_ble_eq_true rfl) (zOk_l _) (fun E C hret => ?_)
  show zJ E 4 0 0 (WM cy m S) 0 [(0, .ref (m 0)), (1, .int (nI kd)), (2, .int (nI o)), (3, .int (nI w))] []
  refine zj_aload_n C dX8_ofOrder_0 0 rfl ?_
  refine zj_get C 0 8 0 (v := .ref (m 1)) inZ8 rfl rfl (by decide) tg_677 rfl dX8_ofOrder_1 ?_
  refine zj_iload_n C dX8_ofOrder_4 1 rfl ?_
  refine zj_iconst C (v := (nI 1)) dX8_ofOrder_5 (by decide) ?_
  refine zj_iadd C dX8_ofOrder_6 ?_
  refine zj_topi (nI (kd + 1)) (nI_add _ _) ?_
  refine zj_iconst C (v := (nI 3)) dX8_ofOrder_7 (by decide) ?_
  refine zj_iload_n C dX8_ofOrder_8 2 rfl ?_
  refine zj_imul C dX8_ofOrder_9 ?_
  refine zj_topi (nI (3 * o)) (pk_mul _ _) ?_
  refine zj_iadd C dX8_ofOrder_10 ?_
  refine zj_topi (nI (kd + 1 + (3 * o))) (nI_add _ _) ?_
  refine zj_iload_n C dX8_ofOrder_11 3 rfl ?_
  refine zj_iadd C dX8_ofOrder_12 ?_
  refine zj_topi (nI (kd + 1 + (3 * o) + w)) (nI_add _ _) ?_
  refine zj_lald C 1 (f := (gMs_at S)) (kd + 1 + (3 * o) + w) (nI_clamp (by omega)) (vp_in_nI (by omega) (by omega)) rfl dX8_ofOrder_13 ?_
  have e : f_X8_ofOrder S kd o w = ((gMs_at S) (kd + 1 + (3 * o) + w)) := by rfl
  rw [e] at hret
  exact hret _ _ dX8_ofOrder_14

noncomputable def f_X8_holdPool (S : zMs) : zMs :=
  let x19_0 : Int64 := (if ((gMs_at S) 8) ≤ ((gMs_at S) 5) then ((gMs_at S) 8) else ((gMs_at S) 5))
  (sMs_at S (vp_updL (gMs_at S) 8 x19_0))
set_option maxHeartbeats 4000000 in
set_option maxRecDepth 100000 in
theorem c_X8_holdPool (l : Launch) (D : va_G) (cy : Nat → ClassId) (m : Nat → Nat)   (S : zMs)  : zC l yX8_holdPool (zW yX8_holdPool cX8_holdPool 1 (Option.none : Option Jvm.ClassFile.FieldType)) { frames := 0, cells := 0, slots := 0, locals := 0 } D cy [.ref (m 0)] (WM cy m S) none (WM cy m (f_X8_holdPool S)) := by
  refine zC_of rfl (Nat.le_of_ble_eq_true rfl) zOk_v (fun E C hret => ?_)
  show zJ E 1 0 0 (WM cy m S) 0 [(0, .ref (m 0))] []
  refine zj_aload_n C dX8_holdPool_0 0 rfl ?_
  refine zj_get C 0 8 0 (v := .ref (m 1)) inZ8 rfl rfl (by decide) tg_677 rfl dX8_holdPool_1 ?_
  refine zj_bipush C (v := (nI 8)) dX8_holdPool_4 (by decide) ?_
  refine zj_aload_n C dX8_holdPool_6 0 rfl ?_
  refine zj_get C 0 8 0 (v := .ref (m 1)) inZ8 rfl rfl (by decide) tg_677 rfl dX8_holdPool_7 ?_
  refine zj_bipush C (v := (nI 8)) dX8_holdPool_10 (by decide) ?_
  refine zj_lald C 1 (f := (gMs_at S)) 8 (by decide) (vp_in_nI (by decide) (by decide)) rfl dX8_holdPool_12 ?_
  refine zj_aload_n C dX8_holdPool_13 0 rfl ?_
  refine zj_get C 0 8 0 (v := .ref (m 1)) inZ8 rfl rfl (by decide) tg_677 rfl dX8_holdPool_14 ?_
  refine zj_iconst C (v := (nI 5)) dX8_holdPool_17 (by decide) ?_
  refine zj_lald C 1 (f := (gMs_at S)) 5 (by decide) (vp_in_nI (by decide) (by decide)) rfl dX8_holdPool_18 ?_
  have J_19 : ∀ (x19_0 : Int64), x19_0 = (if ((gMs_at S) 8) ≤ ((gMs_at S) 5) then ((gMs_at S) 8) else ((gMs_at S) 5)) → zJ E 1 0 0 (WM cy m S) 39 [(0, .ref (m 0))] [.long x19_0, .int (nI 8), .ref (m 1)] := by
    intro x19_0 hx19_0
    refine zj_last C 1 (f := (gMs_at S)) (ws' := (WM cy m (sMs_at S (vp_updL (gMs_at S) 8 x19_0)))) 8 (by decide) (vp_in_nI (by decide) (by decide)) rfl dX8_holdPool_39 rfl ?_
    subst hx19_0
    have e : f_X8_holdPool S = (sMs_at S (vp_updL (gMs_at S) 8 (if ((gMs_at S) 8) ≤ ((gMs_at S) 5) then ((gMs_at S) 8) else ((gMs_at S) 5)))) := by rfl
    rw [e] at hret
    exact hret _ _ dX8_holdPool_40
  refine zj_lcmp_le C 32 dX8_holdPool_19 dX8_holdPool_20 (by decide) (fun c => ?_) (fun c => ?_)
  · have c_19 : ((gMs_at S) 8) ≤ ((gMs_at S) 5) := c
    refine zj_aload_n C dX8_holdPool_32 0 rfl ?_
    refine zj_get C 0 8 0 (v := .ref (m 1)) inZ8 rfl rfl (by decide) tg_677 rfl dX8_holdPool_33 ?_
    refine zj_bipush C (v := (nI 8)) dX8_holdPool_36 (by decide) ?_
    refine zj_lald C 1 (f := (gMs_at S)) 8 (by decide) (vp_in_nI (by decide) (by decide)) rfl dX8_holdPool_38 ?_
    exact J_19 ((gMs_at S) 8) (by simp only [if_pos c_19]; first | done | assumption)
  · have c_19 : ¬ (((gMs_at S) 8) ≤ ((gMs_at S) 5)) := c
    refine zj_aload_n C dX8_holdPool_23 0 rfl ?_
    refine zj_get C 0 8 0 (v := .ref (m 1)) inZ8 rfl rfl (by decide) tg_677 rfl dX8_holdPool_24 ?_
    refine zj_iconst C (v := (nI 5)) dX8_holdPool_27 (by decide) ?_
    refine zj_lald C 1 (f := (gMs_at S)) 5 (by decide) (vp_in_nI (by decide) (by decide)) rfl dX8_holdPool_28 ?_
    refine zj_goto C 39 dX8_holdPool_29 (by decide) ?_
    exact J_19 ((gMs_at S) 5) (by simp only [if_neg c_19]; first | done | assumption)

noncomputable def f_X8_next (S : zMs) : Int32 :=
  let x8_0 : Int32 := (if (gMs_pdm S) ≤ (gMs_sp S) then (nI 0) else ((gMs_pd S) (gMs_sp S)))
  x8_0
set_option maxHeartbeats 4000000 in
set_option maxRecDepth 100000 in
theorem c_X8_next (l : Launch) (D : va_G) (cy : Nat → ClassId) (m : Nat → Nat)   (S : zMs) (hp : gMs_pdm S ≤ 80) (hs : gMs_sp S ≤ 80) : zC l yX8_next (zW yX8_next cX8_next 1 (Option.some Jvm.ClassFile.FieldType.int)) { frames := 0, cells := 0, slots := 0, locals := 0 } D cy [.ref (m 0)] (WM cy m S) (some (.int (f_X8_next S))) (WM cy m S) := by
  refine zC_of rfl (Nat.le_of_ble_eq_true rfl) (zOk_i _) (fun E C hret => ?_)
  show zJ E 1 0 0 (WM cy m S) 0 [(0, .ref (m 0))] []
  refine zj_aload_n C dX8_next_0 0 rfl ?_
  refine zj_get C 0 8 10 (v := .int (nI (gMs_sp S))) inZ8 rfl rfl (by decide) tg_687 rfl dX8_next_1 ?_
  refine zj_aload_n C dX8_next_4 0 rfl ?_
  refine zj_get C 0 8 9 (v := .int (nI (gMs_pdm S))) inZ8 rfl rfl (by decide) tg_686 rfl dX8_next_5 ?_
  have J_8 : ∀ (x8_0 : Int32), x8_0 = (if (gMs_pdm S) ≤ (gMs_sp S) then (nI 0) else ((gMs_pd S) (gMs_sp S))) → zJ E 1 0 0 (WM cy m S) 24 [(0, .ref (m 0))] [.int x8_0] := by
    intro x8_0 hx8_0
    subst hx8_0
    have e : f_X8_next S = (if (gMs_pdm S) ≤ (gMs_sp S) then (nI 0) else ((gMs_pd S) (gMs_sp S))) := by rfl
    rw [e] at hret
    exact hret _ _ dX8_next_24
  refine zj_icmp_ge C 23 dX8_next_8 (by decide) (fun c => ?_) (fun c => ?_)
  · have c_8 : (gMs_pdm S) ≤ (gMs_sp S) := ((nI_leI (by omega) (by omega)).mp c)
    refine zj_iconst C (v := (nI 0)) dX8_next_23 (by decide) ?_
    exact J_8 (nI 0) (by simp only [if_pos c_8]; first | done | assumption)
  · have c_8 : ¬ ((gMs_pdm S) ≤ (gMs_sp S)) := (fun q => c ((nI_leI (by omega) (by omega)).mpr q))
    refine zj_aload_n C dX8_next_11 0 rfl ?_
    refine zj_get C 0 8 8 (v := .ref (m 7)) inZ8 rfl rfl (by decide) tg_685 rfl dX8_next_12 ?_
    refine zj_aload_n C dX8_next_15 0 rfl ?_
    refine zj_get C 0 8 10 (v := .int (nI (gMs_sp S))) inZ8 rfl rfl (by decide) tg_687 rfl dX8_next_16 ?_
    refine zj_iald C 7 (f := (gMs_pd S)) (gMs_sp S) (nI_clamp (by omega)) (vp_in_nI (by omega) (by omega)) rfl dX8_next_19 ?_
    refine zj_goto C 24 dX8_next_20 (by decide) ?_
    exact J_8 ((gMs_pd S) (gMs_sp S)) (by simp only [if_neg c_8]; first | done | assumption)

noncomputable def f_X8_issue (S : zMs) : Int64 := zsum (fun i => f_X8_units S i) 6

set_option maxHeartbeats 4000000 in
set_option maxRecDepth 100000 in
theorem c_X8_issue (l : Launch) (D : va_G) (cy : Nat → ClassId) (m : Nat → Nat)   (S : zMs)  : zC l yX8_issue (zW yX8_issue cX8_issue 4 (Option.some Jvm.ClassFile.FieldType.long)) { frames := 2, cells := 0, slots := 0, locals := 43 } D cy [.ref (m 0)] (WM cy m S) (some (.long (f_X8_issue S))) (WM cy m S) := by
  refine zC_of rfl (Nat.le_of_ble_eq_true rfl) (zOk_l _) (fun E C hret => ?_)
  show zJ E 4 0 0 (WM cy m S) 0 [(0, .ref (m 0))] []
  refine zj_lconst C (v := 0) dX8_issue_0 (by decide) ?_
  refine zj_lstore_n C (L' := [(1, .long 0), (0, .ref (m 0))]) dX8_issue_1 rfl (by decide) rfl ?_
  refine zj_iconst C (v := (nI 0)) dX8_issue_2 (by decide) ?_
  refine zj_istore_n C (L' := [(3, .int (nI 0)), (1, .long 0), (0, .ref (m 0))]) dX8_issue_3 rfl (by decide) rfl ?_
  have loop_4 : ∀ (fuel : Nat) (j : Nat) (sm : Int64), (hj : j ≤ 6) → (hs : sm = zsum (fun i => f_X8_units S i) j) → 6 - j < fuel → zJ E 4 0 0 (WM cy m S) 4 [(0, .ref (m 0)), (1, .long sm), (3, .int (nI j))] [] := by
    intro fuel
    induction fuel with
    | zero => intro j sm hj hs hmu; exact absurd hmu (Nat.not_lt_zero _)
    | succ fuel ih_4 =>
      intro j sm hj hs hmu_4
      refine zj_iload_n C dX8_issue_4 2 rfl ?_
      refine zj_bipush C (v := (nI 6)) dX8_issue_5 (by decide) ?_
      refine zj_icmp_ge C 24 dX8_issue_7 (by decide) (fun c => ?_) (fun c => ?_)
      · have c_7 : 6 ≤ j := ((nI_leI (by omega) (by omega)).mp c)
        refine zj_lload_n C dX8_issue_24 1 rfl ?_
        obtain rfl : j = 6 := by omega
        subst hs
        exact hret _ _ dX8_issue_25
      · have c_7 : ¬ (6 ≤ j) := (fun q => c ((nI_leI (by omega) (by omega)).mpr q))
        refine zj_lload_n C dX8_issue_10 1 rfl ?_
        refine zj_aload_n C dX8_issue_11 0 rfl ?_
        refine zj_iload_n C dX8_issue_12 2 rfl ?_
        refine zj_callV C (nn := 10) (ws' := (WM cy m S)) (st := [.long sm]) (st1 := [.long (f_X8_units S j), .long sm]) 0 8 [0, 1, 2, 3, 4, 5, 6, 7, 8, 9] (c_X8_units l D cy m j S (by omega)) (zg_V tg_772 tg_769 tg_771 tgp_20 tg_9) ⟨rfl, hdZ_X8_units⟩ ⟨rfl, rfl⟩ ⟨by decide, by decide⟩ rfl rfl rfl (by decide) ⟨rfl, rfl⟩ rfl rfl (Nat.le_of_ble_eq_true rfl) dX8_issue_13 rfl rfl ?_
        refine zj_ladd C dX8_issue_16 ?_
        refine zj_lstore_n C (L' := [(1, .long (sm + (f_X8_units S j))), (0, .ref (m 0)), (3, .int (nI j))]) dX8_issue_17 rfl (by decide) rfl ?_
        refine zj_iinc C (j := 2) (v := (nI (j + 1))) (L' := [(3, .int (nI (j + 1))), (1, .long (sm + (f_X8_units S j))), (0, .ref (m 0))]) dX8_issue_18 rfl (nI_1 _) (by decide) rfl ?_
        refine zj_goto C 4 dX8_issue_21 (by decide) ?_
        refine zj_sub (L' := [(0, .ref (m 0)), (1, .long (sm + (f_X8_units S j))), (3, .int (nI (j + 1)))]) [2, 1, 0] rfl ?_
        exact ih_4 (j + 1) (sm + (f_X8_units S j)) (by omega) (by rw [hs]; rfl) (by omega)
  refine zj_sub (L' := [(0, .ref (m 0)), (1, .long 0), (3, .int (nI 0))]) [2, 1, 0] rfl ?_
  exact loop_4 (6 - 0 + 1) 0 0 (by omega) rfl (Nat.lt_succ_self _)

noncomputable def f_X8_allNew (S : zMs) : Int64 := zsum (fun i => f_X8_of S i 1) 6

set_option maxHeartbeats 4000000 in
set_option maxRecDepth 100000 in
theorem c_X8_allNew (l : Launch) (D : va_G) (cy : Nat → ClassId) (m : Nat → Nat)   (S : zMs)  : zC l yX8_allNew (zW yX8_allNew cX8_allNew 4 (Option.some Jvm.ClassFile.FieldType.long)) { frames := 1, cells := 0, slots := 0, locals := 22 } D cy [.ref (m 0)] (WM cy m S) (some (.long (f_X8_allNew S))) (WM cy m S) := by
  refine zC_of rfl (Nat.le_of_ble_eq_true rfl) (zOk_l _) (fun E C hret => ?_)
  show zJ E 4 0 0 (WM cy m S) 0 [(0, .ref (m 0))] []
  refine zj_lconst C (v := 0) dX8_allNew_0 (by decide) ?_
  refine zj_lstore_n C (L' := [(1, .long 0), (0, .ref (m 0))]) dX8_allNew_1 rfl (by decide) rfl ?_
  refine zj_iconst C (v := (nI 0)) dX8_allNew_2 (by decide) ?_
  refine zj_istore_n C (L' := [(3, .int (nI 0)), (1, .long 0), (0, .ref (m 0))]) dX8_allNew_3 rfl (by decide) rfl ?_
  have loop_4 : ∀ (fuel : Nat) (j : Nat) (sm : Int64), (hj : j ≤ 6) → (hs : sm = zsum (fun i => f_X8_of S i 1) j) → 6 - j < fuel → zJ E 4 0 0 (WM cy m S) 4 [(0, .ref (m 0)), (1, .long sm), (3, .int (nI j))] [] := by
    intro fuel
    induction fuel with
    | zero => intro j sm hj hs hmu; exact absurd hmu (Nat.not_lt_zero _)
    | succ fuel ih_4 =>
      intro j sm hj hs hmu_4
      refine zj_iload_n C dX8_allNew_4 2 rfl ?_
      refine zj_bipush C (v := (nI 6)) dX8_allNew_5 (by decide) ?_
      refine zj_icmp_ge C 25 dX8_allNew_7 (by decide) (fun c => ?_) (fun c => ?_)
      · have c_7 : 6 ≤ j := ((nI_leI (by omega) (by omega)).mp c)
        refine zj_lload_n C dX8_allNew_25 1 rfl ?_
        obtain rfl : j = 6 := by omega
        subst hs
        exact hret _ _ dX8_allNew_26
      · have c_7 : ¬ (6 ≤ j) := (fun q => c ((nI_leI (by omega) (by omega)).mpr q))
        refine zj_lload_n C dX8_allNew_10 1 rfl ?_
        refine zj_aload_n C dX8_allNew_11 0 rfl ?_
        refine zj_iload_n C dX8_allNew_12 2 rfl ?_
        refine zj_iconst C (v := (nI 1)) dX8_allNew_13 (by decide) ?_
        refine zj_callV C (nn := 10) (ws' := (WM cy m S)) (st := [.long sm]) (st1 := [.long (f_X8_of S j 1), .long sm]) 0 8 [0, 1, 2, 3, 4, 5, 6, 7, 8, 9] (c_X8_of l D cy m j 1 S (by omega) (by omega)) (zg_V tg_776 tg_773 tg_775 tgp_21 tg_9) ⟨rfl, hdZ_X8_of⟩ ⟨rfl, rfl⟩ ⟨by decide, by decide⟩ rfl rfl rfl (by decide) ⟨rfl, rfl⟩ rfl rfl (Nat.le_of_ble_eq_true rfl) dX8_allNew_14 rfl rfl ?_
        refine zj_ladd C dX8_allNew_17 ?_
        refine zj_lstore_n C (L' := [(1, .long (sm + (f_X8_of S j 1))), (0, .ref (m 0)), (3, .int (nI j))]) dX8_allNew_18 rfl (by decide) rfl ?_
        refine zj_iinc C (j := 2) (v := (nI (j + 1))) (L' := [(3, .int (nI (j + 1))), (1, .long (sm + (f_X8_of S j 1))), (0, .ref (m 0))]) dX8_allNew_19 rfl (nI_1 _) (by decide) rfl ?_
        refine zj_goto C 4 dX8_allNew_22 (by decide) ?_
        refine zj_sub (L' := [(0, .ref (m 0)), (1, .long (sm + (f_X8_of S j 1))), (3, .int (nI (j + 1)))]) [2, 1, 0] rfl ?_
        exact ih_4 (j + 1) (sm + (f_X8_of S j 1)) (by omega) (by rw [hs]; rfl) (by omega)
  refine zj_sub (L' := [(0, .ref (m 0)), (1, .long 0), (3, .int (nI 0))]) [2, 1, 0] rfl ?_
  exact loop_4 (6 - 0 + 1) 0 0 (by omega) rfl (Nat.lt_succ_self _)

noncomputable def f_X8_middle (S : zMs) : Int64 :=
  let x5_0 : Int64 := (if (f_X8_issue S) = 0 then 100000 else ((1000 * (f_X8_value S)) / (f_X8_issue S)))
  x5_0
set_option maxHeartbeats 4000000 in
set_option maxRecDepth 100000 in
theorem c_X8_middle (l : Launch) (D : va_G) (cy : Nat → ClassId) (m : Nat → Nat)   (S : zMs)  : zC l yX8_middle (zW yX8_middle cX8_middle 1 (Option.some Jvm.ClassFile.FieldType.long)) { frames := 3, cells := 0, slots := 0, locals := 66 } D cy [.ref (m 0)] (WM cy m S) (some (.long (f_X8_middle S))) (WM cy m S) := by
  refine zC_of rfl (Nat.le_of_ble_eq_true rfl) (zOk_l _) (fun E C hret => ?_)
  show zJ E 1 0 0 (WM cy m S) 0 [(0, .ref (m 0))] []
  refine zj_aload_n C dX8_middle_0 0 rfl ?_
  refine zj_callV C (nn := 10) (ws' := (WM cy m S)) (st := []) (st1 := [.long (f_X8_issue S)]) 0 8 [0, 1, 2, 3, 4, 5, 6, 7, 8, 9] (c_X8_issue l D cy m  S ) (zg_V tg_788 tg_785 tg_787 tgp_23 tg_9) ⟨rfl, hdZ_X8_issue⟩ ⟨rfl, rfl⟩ ⟨by decide, by decide⟩ rfl rfl rfl (by decide) ⟨rfl, rfl⟩ rfl rfl (Nat.le_of_ble_eq_true rfl) dX8_middle_1 rfl rfl ?_
  refine zj_lconst C (v := 0) dX8_middle_4 (by decide) ?_
  have J_5 : ∀ (x5_0 : Int64), x5_0 = (if (f_X8_issue S) = 0 then 100000 else ((1000 * (f_X8_value S)) / (f_X8_issue S))) → zJ E 1 0 0 (WM cy m S) 28 [(0, .ref (m 0))] [.long x5_0] := by
    intro x5_0 hx5_0
    subst hx5_0
    have e : f_X8_middle S = (if (f_X8_issue S) = 0 then 100000 else ((1000 * (f_X8_value S)) / (f_X8_issue S))) := by rfl
    rw [e] at hret
    exact hret _ _ dX8_middle_28
  refine zj_lcmp_ne C 15 dX8_middle_5 dX8_middle_6 (by decide) (fun c => ?_) (fun c => ?_)
  · have c_5 : ¬ ((f_X8_issue S) = 0) := c
    refine zj_ldc2 C dX8_middle_15 tg_675 ?_
    refine zj_aload_n C dX8_middle_18 0 rfl ?_
    refine zj_callV C (nn := 10) (ws' := (WM cy m S)) (st := [.long 1000]) (st1 := [.long (f_X8_value S), .long 1000]) 0 8 [0, 1, 2, 3, 4, 5, 6, 7, 8, 9] (c_X8_value l D cy m  S ) (zg_V tg_833 tg_830 tg_832 tgp_33 tg_9) ⟨rfl, hdZ_X8_value⟩ ⟨rfl, rfl⟩ ⟨by decide, by decide⟩ rfl rfl rfl (by decide) ⟨rfl, rfl⟩ rfl rfl (Nat.le_of_ble_eq_true rfl) dX8_middle_19 rfl rfl ?_
    refine zj_lmul C dX8_middle_22 ?_
    refine zj_aload_n C dX8_middle_23 0 rfl ?_
    refine zj_callV C (nn := 10) (ws' := (WM cy m S)) (st := [.long (1000 * (f_X8_value S))]) (st1 := [.long (f_X8_issue S), .long (1000 * (f_X8_value S))]) 0 8 [0, 1, 2, 3, 4, 5, 6, 7, 8, 9] (c_X8_issue l D cy m  S ) (zg_V tg_788 tg_785 tg_787 tgp_23 tg_9) ⟨rfl, hdZ_X8_issue⟩ ⟨rfl, rfl⟩ ⟨by decide, by decide⟩ rfl rfl rfl (by decide) ⟨rfl, rfl⟩ rfl rfl (Nat.le_of_ble_eq_true rfl) dX8_middle_24 rfl rfl ?_
    refine zj_ldiv C dX8_middle_27 c_5 ?_
    exact J_5 ((1000 * (f_X8_value S)) / (f_X8_issue S)) (by simp only [if_neg c_5]; first | done | assumption)
  · have c_5 : (f_X8_issue S) = 0 := (Classical.not_not.mp c)
    refine zj_ldc2 C dX8_middle_9 tg_829 ?_
    refine zj_goto C 28 dX8_middle_12 (by decide) ?_
    exact J_5 100000 (by simp only [if_pos c_5]; first | done | assumption)

noncomputable def f_X8_incomeOfUnit (S : zMs) : Int64 :=
  let x5_0 : Int64 := (if (f_X8_issue S) = 0 then 0 else ((1000 * ((gMs_at S) 8)) / (f_X8_issue S)))
  x5_0
set_option maxHeartbeats 4000000 in
set_option maxRecDepth 100000 in
theorem c_X8_incomeOfUnit (l : Launch) (D : va_G) (cy : Nat → ClassId) (m : Nat → Nat)   (S : zMs)  : zC l yX8_incomeOfUnit (zW yX8_incomeOfUnit cX8_incomeOfUnit 1 (Option.some Jvm.ClassFile.FieldType.long)) { frames := 3, cells := 0, slots := 0, locals := 66 } D cy [.ref (m 0)] (WM cy m S) (some (.long (f_X8_incomeOfUnit S))) (WM cy m S) := by
  refine zC_of rfl (Nat.le_of_ble_eq_true rfl) (zOk_l _) (fun E C hret => ?_)
  show zJ E 1 0 0 (WM cy m S) 0 [(0, .ref (m 0))] []
  refine zj_aload_n C dX8_incomeOfUnit_0 0 rfl ?_
  refine zj_callV C (nn := 10) (ws' := (WM cy m S)) (st := []) (st1 := [.long (f_X8_issue S)]) 0 8 [0, 1, 2, 3, 4, 5, 6, 7, 8, 9] (c_X8_issue l D cy m  S ) (zg_V tg_788 tg_785 tg_787 tgp_23 tg_9) ⟨rfl, hdZ_X8_issue⟩ ⟨rfl, rfl⟩ ⟨by decide, by decide⟩ rfl rfl rfl (by decide) ⟨rfl, rfl⟩ rfl rfl (Nat.le_of_ble_eq_true rfl) dX8_incomeOfUnit_1 rfl rfl ?_
  refine zj_lconst C (v := 0) dX8_incomeOfUnit_4 (by decide) ?_
  have J_5 : ∀ (x5_0 : Int64), x5_0 = (if (f_X8_issue S) = 0 then 0 else ((1000 * ((gMs_at S) 8)) / (f_X8_issue S))) → zJ E 1 0 0 (WM cy m S) 29 [(0, .ref (m 0))] [.long x5_0] := by
    intro x5_0 hx5_0
    subst hx5_0
    have e : f_X8_incomeOfUnit S = (if (f_X8_issue S) = 0 then 0 else ((1000 * ((gMs_at S) 8)) / (f_X8_issue S))) := by rfl
    rw [e] at hret
    exact hret _ _ dX8_incomeOfUnit_29
  refine zj_lcmp_ne C 13 dX8_incomeOfUnit_5 dX8_incomeOfUnit_6 (by decide) (fun c => ?_) (fun c => ?_)
  · have c_5 : ¬ ((f_X8_issue S) = 0) := c
    refine zj_ldc2 C dX8_incomeOfUnit_13 tg_675 ?_
    refine zj_aload_n C dX8_incomeOfUnit_16 0 rfl ?_
    refine zj_get C 0 8 0 (v := .ref (m 1)) inZ8 rfl rfl (by decide) tg_677 rfl dX8_incomeOfUnit_17 ?_
    refine zj_bipush C (v := (nI 8)) dX8_incomeOfUnit_20 (by decide) ?_
    refine zj_lald C 1 (f := (gMs_at S)) 8 (by decide) (vp_in_nI (by decide) (by decide)) rfl dX8_incomeOfUnit_22 ?_
    refine zj_lmul C dX8_incomeOfUnit_23 ?_
    refine zj_aload_n C dX8_incomeOfUnit_24 0 rfl ?_
    refine zj_callV C (nn := 10) (ws' := (WM cy m S)) (st := [.long (1000 * ((gMs_at S) 8))]) (st1 := [.long (f_X8_issue S), .long (1000 * ((gMs_at S) 8))]) 0 8 [0, 1, 2, 3, 4, 5, 6, 7, 8, 9] (c_X8_issue l D cy m  S ) (zg_V tg_788 tg_785 tg_787 tgp_23 tg_9) ⟨rfl, hdZ_X8_issue⟩ ⟨rfl, rfl⟩ ⟨by decide, by decide⟩ rfl rfl rfl (by decide) ⟨rfl, rfl⟩ rfl rfl (Nat.le_of_ble_eq_true rfl) dX8_incomeOfUnit_25 rfl rfl ?_
    refine zj_ldiv C dX8_incomeOfUnit_28 c_5 ?_
    exact J_5 ((1000 * ((gMs_at S) 8)) / (f_X8_issue S)) (by simp only [if_neg c_5]; first | done | assumption)
  · have c_5 : (f_X8_issue S) = 0 := (Classical.not_not.mp c)
    refine zj_lconst C (v := 0) dX8_incomeOfUnit_9 (by decide) ?_
    refine zj_goto C 29 dX8_incomeOfUnit_10 (by decide) ?_
    exact J_5 0 (by simp only [if_pos c_5]; first | done | assumption)

noncomputable def f_X8_keep (S : zMs) : zMs :=
  let a : Nat := (if (gMs_pm S) = 6 then ((gMs_pf S) + 1) % 6 else (gMs_pf S))
  let b : Nat := (if (gMs_pm S) = 6 then (gMs_pm S) - 1 else (gMs_pm S))
  sMs_pm (sMs_pf (sMs_past S (va_cpy (gMs_at S) (gMs_past S) 0 (183 * ((a + b) % 6)) 183)) a) (b + 1)

set_option maxHeartbeats 4000000 in
set_option maxRecDepth 100000 in
theorem c_X8_keep (l : Launch) (D : va_G) (cy : Nat → ClassId) (m : Nat → Nat)   (S : zMs) (hf : gMs_pf S < 6) (hm : gMs_pm S ≤ 6) : zC l yX8_keep (zW yX8_keep cX8_keep 3 (Option.none : Option Jvm.ClassFile.FieldType)) { frames := 0, cells := 0, slots := 0, locals := 0 } D cy [.ref (m 0)] (WM cy m S) none (WM cy m (f_X8_keep S)) := by
  refine zC_of rfl (Nat.le_of_ble_eq_true rfl) zOk_v (fun E C hret => ?_)
  show zJ E 3 0 0 (WM cy m S) 0 [(0, .ref (m 0))] []
  refine zj_aload_n C dX8_keep_0 0 rfl ?_
  refine zj_get C 0 8 3 (v := .int (nI (gMs_pm S))) inZ8 rfl rfl (by decide) tg_680 rfl dX8_keep_1 ?_
  refine zj_bipush C (v := (nI 6)) dX8_keep_4 (by decide) ?_
  have J_6 : ∀ (x6_0 : Nat) (x6_1 : Nat), x6_0 = (if (gMs_pm S) = 6 then ((gMs_pf S) + 1) % 6 else (gMs_pf S)) → x6_1 = (if (gMs_pm S) = 6 then (gMs_pm S) - 1 else (gMs_pm S)) → zJ E 3 0 0 (WM cy m (sMs_pm (sMs_pf S x6_0) x6_1)) 32 [(0, .ref (m 0))] [] := by
    intro x6_0 x6_1 hx6_0 hx6_1
    have hb0 : x6_0 < 6 := by rw [hx6_0]; split <;> omega
    have hb1 : x6_1 ≤ 5 := by rw [hx6_1]; split <;> omega
    have hb2 : (x6_0 + x6_1) % 6 < 6 := by omega
    refine zj_aload_n C dX8_keep_32 0 rfl ?_
    refine zj_get C 0 8 2 (v := .int (nI x6_0)) inZ8 rfl rfl (by decide) tg_679 rfl dX8_keep_33 ?_
    refine zj_aload_n C dX8_keep_36 0 rfl ?_
    refine zj_get C 0 8 3 (v := .int (nI x6_1)) inZ8 rfl rfl (by decide) tg_680 rfl dX8_keep_37 ?_
    refine zj_iadd C dX8_keep_40 ?_
    refine zj_topi (nI (x6_0 + x6_1)) (nI_add _ _) ?_
    refine zj_bipush C (v := (nI 6)) dX8_keep_41 (by decide) ?_
    refine zj_irem C dX8_keep_43 (by decide) ?_
    refine zj_topi (nI ((x6_0 + x6_1) % 6)) (pk_rem (by omega) (by omega) (by omega)) ?_
    refine zj_istore_n C (L' := [(1, .int (nI ((x6_0 + x6_1) % 6))), (0, .ref (m 0))]) dX8_keep_44 rfl (by decide) rfl ?_
    refine zj_iconst C (v := (nI 0)) dX8_keep_45 (by decide) ?_
    refine zj_istore_n C (L' := [(2, .int (nI 0)), (1, .int (nI ((x6_0 + x6_1) % 6))), (0, .ref (m 0))]) dX8_keep_46 rfl (by decide) rfl ?_
    have loop_47 : ∀ (fuel : Nat) (j : Nat), (hj : j ≤ 183) → 183 - j < fuel → zJ E 3 0 0 (WM cy m (sMs_pm (sMs_pf (sMs_past S (va_cpy (gMs_at S) (gMs_past S) 0 (183 * ((x6_0 + x6_1) % 6)) j)) x6_0) x6_1)) 47 [(0, .ref (m 0)), (1, .int (nI ((x6_0 + x6_1) % 6))), (2, .int (nI j))] [] := by
      intro fuel
      induction fuel with
      | zero => intro j hj hmu; exact absurd hmu (Nat.not_lt_zero _)
      | succ fuel ih_47 =>
        intro j hj hmu_47
        refine zj_iload_n C dX8_keep_47 2 rfl ?_
        refine zj_sipush C (v := (nI 183)) dX8_keep_48 (by decide) ?_
        refine zj_icmp_ge C 78 dX8_keep_51 (by decide) (fun c => ?_) (fun c => ?_)
        · have c_51 : 183 ≤ j := ((nI_leI (by omega) (by omega)).mp c)
          refine zj_aload_n C dX8_keep_78 0 rfl ?_
          refine zj_dup C dX8_keep_79 rfl ?_
          refine zj_get C 0 8 3 (v := .int (nI x6_1)) inZ8 rfl rfl (by decide) tg_680 rfl dX8_keep_80 ?_
          refine zj_iconst C (v := (nI 1)) dX8_keep_83 (by decide) ?_
          refine zj_iadd C dX8_keep_84 ?_
          refine zj_topi (nI (x6_1 + 1)) (nI_add _ _) ?_
          refine zj_put C 0 8 3 (v := .int (nI (x6_1 + 1))) (ws' := (WM cy m (sMs_pm (sMs_pf (sMs_past S (va_cpy (gMs_at S) (gMs_past S) 0 (183 * ((x6_0 + x6_1) % 6)) j)) x6_0) (x6_1 + 1)))) tyX8 tyX8_ok nmX8 inZ8 rfl rfl (by decide) tg_680 rfl rfl rfl (Nat.le_of_ble_eq_true rfl) dX8_keep_85 rfl ?_
          obtain rfl : j = 183 := by omega
          subst hx6_0
          subst hx6_1
          exact hret _ _ dX8_keep_88
        · have c_51 : ¬ (183 ≤ j) := (fun q => c ((nI_leI (by omega) (by omega)).mpr q))
          refine zj_aload_n C dX8_keep_54 0 rfl ?_
          refine zj_get C 0 8 1 (v := .ref (m 2)) inZ8 rfl rfl (by decide) tg_678 rfl dX8_keep_55 ?_
          refine zj_sipush C (v := (nI 183)) dX8_keep_58 (by decide) ?_
          refine zj_iload_n C dX8_keep_61 1 rfl ?_
          refine zj_imul C dX8_keep_62 ?_
          refine zj_topi (nI (183 * ((x6_0 + x6_1) % 6))) (pk_mul _ _) ?_
          refine zj_iload_n C dX8_keep_63 2 rfl ?_
          refine zj_iadd C dX8_keep_64 ?_
          refine zj_topi (nI ((183 * ((x6_0 + x6_1) % 6)) + j)) (nI_add _ _) ?_
          refine zj_aload_n C dX8_keep_65 0 rfl ?_
          refine zj_get C 0 8 0 (v := .ref (m 1)) inZ8 rfl rfl (by decide) tg_677 rfl dX8_keep_66 ?_
          refine zj_iload_n C dX8_keep_69 2 rfl ?_
          refine zj_lald C 1 (f := (gMs_at S)) j (nI_clamp (by omega)) (vp_in_nI (by omega) (by omega)) rfl dX8_keep_70 ?_
          refine zj_last C 2 (f := (va_cpy (gMs_at S) (gMs_past S) 0 (183 * ((x6_0 + x6_1) % 6)) j)) (ws' := (WM cy m (sMs_pm (sMs_pf (sMs_past S (vp_updL (va_cpy (gMs_at S) (gMs_past S) 0 (183 * ((x6_0 + x6_1) % 6)) j) ((183 * ((x6_0 + x6_1) % 6)) + j) ((gMs_at S) j))) x6_0) x6_1))) ((183 * ((x6_0 + x6_1) % 6)) + j) (nI_clamp (by omega)) (vp_in_nI (by omega) (by omega)) rfl dX8_keep_71 rfl ?_
          refine zj_iinc C (j := 2) (v := (nI (j + 1))) (L' := [(2, .int (nI (j + 1))), (0, .ref (m 0)), (1, .int (nI ((x6_0 + x6_1) % 6)))]) dX8_keep_72 rfl (nI_1 _) (by decide) rfl ?_
          refine zj_goto C 47 dX8_keep_75 (by decide) ?_
          refine zj_sub (L' := [(0, .ref (m 0)), (1, .int (nI ((x6_0 + x6_1) % 6))), (2, .int (nI (j + 1)))]) [1, 2, 0] rfl ?_
          refine zj_eq (ws' := (WM cy m (sMs_pm (sMs_pf (sMs_past S (va_cpy (gMs_at S) (gMs_past S) 0 (183 * ((x6_0 + x6_1) % 6)) (j + 1))) x6_0) x6_1))) (congrArg (fun z => WM cy m (sMs_pm (sMs_pf (sMs_past S z) x6_0) x6_1)) (zcpy_s _ _ _ _ _ rfl (by rw [Nat.zero_add]))) rfl rfl rfl ?_
          exact ih_47 (j + 1) (by omega) (by omega)
    refine zj_sub (L' := [(0, .ref (m 0)), (1, .int (nI ((x6_0 + x6_1) % 6))), (2, .int (nI 0))]) [2, 1, 0] rfl ?_
    refine zj_eq (ws' := (WM cy m (sMs_pm (sMs_pf (sMs_past S (va_cpy (gMs_at S) (gMs_past S) 0 (183 * ((x6_0 + x6_1) % 6)) 0)) x6_0) x6_1))) (congrArg (fun z => WM cy m (sMs_pm (sMs_pf (sMs_past S z) x6_0) x6_1)) (zcpy_z _ _ _ _).symm) rfl rfl rfl ?_
    exact loop_47 (183 - 0 + 1) 0 (by omega) (Nat.lt_succ_self _)
  refine zj_icmp_ne C 32 dX8_keep_6 (by decide) (fun c => ?_) (fun c => ?_)
  · have c_6 : ¬ ((gMs_pm S) = 6) := (fun q => c ((nI_eq (by omega) (by omega)).mpr q))
    exact J_6 (gMs_pf S) (gMs_pm S) (by simp only [if_neg c_6]; first | done | assumption) (by simp only [if_neg c_6]; first | done | assumption)
  · have c_6 : (gMs_pm S) = 6 := ((nI_eq (by omega) (by omega)).mp (Classical.not_not.mp c))
    refine zj_aload_n C dX8_keep_9 0 rfl ?_
    refine zj_aload_n C dX8_keep_10 0 rfl ?_
    refine zj_get C 0 8 2 (v := .int (nI (gMs_pf S))) inZ8 rfl rfl (by decide) tg_679 rfl dX8_keep_11 ?_
    refine zj_iconst C (v := (nI 1)) dX8_keep_14 (by decide) ?_
    refine zj_iadd C dX8_keep_15 ?_
    refine zj_topi (nI ((gMs_pf S) + 1)) (nI_add _ _) ?_
    refine zj_bipush C (v := (nI 6)) dX8_keep_16 (by decide) ?_
    refine zj_irem C dX8_keep_18 (by decide) ?_
    refine zj_topi (nI (((gMs_pf S) + 1) % 6)) (pk_rem (by omega) (by omega) (by omega)) ?_
    refine zj_put C 0 8 2 (v := .int (nI (((gMs_pf S) + 1) % 6))) (ws' := (WM cy m (sMs_pf S (((gMs_pf S) + 1) % 6)))) tyX8 tyX8_ok nmX8 inZ8 rfl rfl (by decide) tg_679 rfl rfl rfl (Nat.le_of_ble_eq_true rfl) dX8_keep_19 rfl ?_
    refine zj_aload_n C dX8_keep_22 0 rfl ?_
    refine zj_dup C dX8_keep_23 rfl ?_
    refine zj_get C 0 8 3 (v := .int (nI (gMs_pm S))) inZ8 rfl rfl (by decide) tg_680 rfl dX8_keep_24 ?_
    refine zj_iconst C (v := (nI 1)) dX8_keep_27 (by decide) ?_
    refine zj_isub C dX8_keep_28 ?_
    refine zj_topi (nI ((gMs_pm S) - 1)) (pk_sub (by omega)) ?_
    refine zj_put C 0 8 3 (v := .int (nI ((gMs_pm S) - 1))) (ws' := (WM cy m (sMs_pm (sMs_pf S (((gMs_pf S) + 1) % 6)) ((gMs_pm S) - 1)))) tyX8 tyX8_ok nmX8 inZ8 rfl rfl (by decide) tg_680 rfl rfl rfl (Nat.le_of_ble_eq_true rfl) dX8_keep_29 rfl ?_
    exact J_6 (((gMs_pf S) + 1) % 6) ((gMs_pm S) - 1) (by simp only [if_pos c_6]; first | done | assumption) (by simp only [if_pos c_6]; first | done | assumption)

noncomputable def f_X8_keepIf (S : zMs) (b : Bool) : zMs := if b = false then S else f_X8_keep S

set_option maxHeartbeats 4000000 in
set_option maxRecDepth 100000 in
theorem c_X8_keepIf (l : Launch) (D : va_G) (cy : Nat → ClassId) (m : Nat → Nat) (b : Bool)  (S : zMs) (hf : gMs_pf S < 6) (hm : gMs_pm S ≤ 6) : zC l yX8_keepIf (zW yX8_keepIf cX8_keepIf 2 (Option.none : Option Jvm.ClassFile.FieldType)) { frames := 1, cells := 0, slots := 0, locals := 22 } D cy [.ref (m 0), .int (zB b)] (WM cy m S) none (WM cy m (f_X8_keepIf S b)) := by
  refine zC_of rfl (Nat.le_of_ble_eq_true rfl) zOk_v (fun E C hret => ?_)
  show zJ E 2 0 0 (WM cy m S) 0 [(0, .ref (m 0)), (1, .int (zB b))] []
  refine zj_iload_n C dX8_keepIf_0 1 rfl ?_
  refine zj_if_eq C 8 dX8_keepIf_1 (by decide) (fun c => ?_) (fun c => ?_)
  · have c_1 : b = false := (zB_eq c)
    have e : f_X8_keepIf S b = S := by unfold f_X8_keepIf; rw [if_pos c_1]
    rw [e] at hret
    exact hret _ _ dX8_keepIf_8
  · have c_1 : ¬ (b = false) := (zB_neq c)
    refine zj_aload_n C dX8_keepIf_4 0 rfl ?_
    refine zj_callV C (nn := 10) (ws' := (WM cy m (f_X8_keep S))) (st := []) (st1 := []) 0 8 [0, 1, 2, 3, 4, 5, 6, 7, 8, 9] (c_X8_keep l D cy m  S (by omega) (by omega)) (zg_V tg_734 tg_731 tg_733 tgp_14 tg_9) ⟨rfl, hdZ_X8_keep⟩ ⟨rfl, rfl⟩ ⟨by decide, by decide⟩ rfl rfl rfl (by decide) ⟨rfl, rfl⟩ rfl rfl (Nat.le_of_ble_eq_true rfl) dX8_keepIf_5 rfl rfl ?_
    have e : f_X8_keepIf S b = (f_X8_keep S) := by unfold f_X8_keepIf; rw [if_neg c_1]
    rw [e] at hret
    exact hret _ _ dX8_keepIf_8

noncomputable def f_X8_layAside (S : zMs) : zMs := sMs_as S (va_cpy (gMs_at S) (gMs_as S) 0 0 183)
noncomputable def f_X8_layBack (S : zMs) : zMs := sMs_at S (va_cpy (gMs_as S) (gMs_at S) 0 0 183)

set_option maxHeartbeats 4000000 in
set_option maxRecDepth 100000 in
theorem c_X8_layAside (l : Launch) (D : va_G) (cy : Nat → ClassId) (m : Nat → Nat)   (S : zMs)  : zC l yX8_layAside (zW yX8_layAside cX8_layAside 2 (Option.none : Option Jvm.ClassFile.FieldType)) { frames := 0, cells := 0, slots := 0, locals := 0 } D cy [.ref (m 0)] (WM cy m S) none (WM cy m (f_X8_layAside S)) := by
  refine zC_of rfl (Nat.le_of_ble_eq_true rfl) zOk_v (fun E C hret => ?_)
  show zJ E 2 0 0 (WM cy m S) 0 [(0, .ref (m 0))] []
  refine zj_iconst C (v := (nI 0)) dX8_layAside_0 (by decide) ?_
  refine zj_istore_n C (L' := [(1, .int (nI 0)), (0, .ref (m 0))]) dX8_layAside_1 rfl (by decide) rfl ?_
  have loop_2 : ∀ (fuel : Nat) (j : Nat), (hj : j ≤ 183) → 183 - j < fuel → zJ E 2 0 0 (WM cy m (sMs_as S (va_cpy (gMs_at S) (gMs_as S) 0 0 j))) 2 [(0, .ref (m 0)), (1, .int (nI j))] [] := by
    intro fuel
    induction fuel with
    | zero => intro j hj hmu; exact absurd hmu (Nat.not_lt_zero _)
    | succ fuel ih_2 =>
      intro j hj hmu_2
      refine zj_iload_n C dX8_layAside_2 1 rfl ?_
      refine zj_sipush C (v := (nI 183)) dX8_layAside_3 (by decide) ?_
      refine zj_icmp_ge C 27 dX8_layAside_6 (by decide) (fun c => ?_) (fun c => ?_)
      · have c_6 : 183 ≤ j := ((nI_leI (by omega) (by omega)).mp c)
        obtain rfl : j = 183 := by omega
        exact hret _ _ dX8_layAside_27
      · have c_6 : ¬ (183 ≤ j) := (fun q => c ((nI_leI (by omega) (by omega)).mpr q))
        refine zj_aload_n C dX8_layAside_9 0 rfl ?_
        refine zj_get C 0 8 6 (v := .ref (m 5)) inZ8 rfl rfl (by decide) tg_683 rfl dX8_layAside_10 ?_
        refine zj_iload_n C dX8_layAside_13 1 rfl ?_
        refine zj_aload_n C dX8_layAside_14 0 rfl ?_
        refine zj_get C 0 8 0 (v := .ref (m 1)) inZ8 rfl rfl (by decide) tg_677 rfl dX8_layAside_15 ?_
        refine zj_iload_n C dX8_layAside_18 1 rfl ?_
        refine zj_lald C 1 (f := (gMs_at S)) j (nI_clamp (by omega)) (vp_in_nI (by omega) (by omega)) rfl dX8_layAside_19 ?_
        refine zj_last C 5 (f := (va_cpy (gMs_at S) (gMs_as S) 0 0 j)) (ws' := (WM cy m (sMs_as S (vp_updL (va_cpy (gMs_at S) (gMs_as S) 0 0 j) j ((gMs_at S) j))))) j (nI_clamp (by omega)) (vp_in_nI (by omega) (by omega)) rfl dX8_layAside_20 rfl ?_
        refine zj_iinc C (j := 1) (v := (nI (j + 1))) (L' := [(1, .int (nI (j + 1))), (0, .ref (m 0))]) dX8_layAside_21 rfl (nI_1 _) (by decide) rfl ?_
        refine zj_goto C 2 dX8_layAside_24 (by decide) ?_
        refine zj_sub (L' := [(0, .ref (m 0)), (1, .int (nI (j + 1)))]) [1, 0] rfl ?_
        refine zj_eq (ws' := (WM cy m (sMs_as S (va_cpy (gMs_at S) (gMs_as S) 0 0 (j + 1))))) (congrArg (fun z => WM cy m (sMs_as S z)) (zcpy_s _ _ _ _ _ (Nat.zero_add _).symm (by rw [Nat.zero_add]))) rfl rfl rfl ?_
        exact ih_2 (j + 1) (by omega) (by omega)
  refine zj_sub (L' := [(0, .ref (m 0)), (1, .int (nI 0))]) [1, 0] rfl ?_
  refine zj_eq (ws' := (WM cy m (sMs_as S (va_cpy (gMs_at S) (gMs_as S) 0 0 0)))) (congrArg (fun z => WM cy m (sMs_as S z)) (zcpy_z _ _ _ _).symm) rfl rfl rfl ?_
  exact loop_2 (183 - 0 + 1) 0 (by omega) (Nat.lt_succ_self _)

set_option maxHeartbeats 4000000 in
set_option maxRecDepth 100000 in
theorem c_X8_layBack (l : Launch) (D : va_G) (cy : Nat → ClassId) (m : Nat → Nat)   (S : zMs)  : zC l yX8_layBack (zW yX8_layBack cX8_layBack 2 (Option.none : Option Jvm.ClassFile.FieldType)) { frames := 0, cells := 0, slots := 0, locals := 0 } D cy [.ref (m 0)] (WM cy m S) none (WM cy m (f_X8_layBack S)) := by
  refine zC_of rfl (Nat.le_of_ble_eq_true rfl) zOk_v (fun E C hret => ?_)
  show zJ E 2 0 0 (WM cy m S) 0 [(0, .ref (m 0))] []
  refine zj_iconst C (v := (nI 0)) dX8_layBack_0 (by decide) ?_
  refine zj_istore_n C (L' := [(1, .int (nI 0)), (0, .ref (m 0))]) dX8_layBack_1 rfl (by decide) rfl ?_
  have loop_2 : ∀ (fuel : Nat) (j : Nat), (hj : j ≤ 183) → 183 - j < fuel → zJ E 2 0 0 (WM cy m (sMs_at S (va_cpy (gMs_as S) (gMs_at S) 0 0 j))) 2 [(0, .ref (m 0)), (1, .int (nI j))] [] := by
    intro fuel
    induction fuel with
    | zero => intro j hj hmu; exact absurd hmu (Nat.not_lt_zero _)
    | succ fuel ih_2 =>
      intro j hj hmu_2
      refine zj_iload_n C dX8_layBack_2 1 rfl ?_
      refine zj_sipush C (v := (nI 183)) dX8_layBack_3 (by decide) ?_
      refine zj_icmp_ge C 27 dX8_layBack_6 (by decide) (fun c => ?_) (fun c => ?_)
      · have c_6 : 183 ≤ j := ((nI_leI (by omega) (by omega)).mp c)
        obtain rfl : j = 183 := by omega
        exact hret _ _ dX8_layBack_27
      · have c_6 : ¬ (183 ≤ j) := (fun q => c ((nI_leI (by omega) (by omega)).mpr q))
        refine zj_aload_n C dX8_layBack_9 0 rfl ?_
        refine zj_get C 0 8 0 (v := .ref (m 1)) inZ8 rfl rfl (by decide) tg_677 rfl dX8_layBack_10 ?_
        refine zj_iload_n C dX8_layBack_13 1 rfl ?_
        refine zj_aload_n C dX8_layBack_14 0 rfl ?_
        refine zj_get C 0 8 6 (v := .ref (m 5)) inZ8 rfl rfl (by decide) tg_683 rfl dX8_layBack_15 ?_
        refine zj_iload_n C dX8_layBack_18 1 rfl ?_
        refine zj_lald C 5 (f := (gMs_as S)) j (nI_clamp (by omega)) (vp_in_nI (by omega) (by omega)) rfl dX8_layBack_19 ?_
        refine zj_last C 1 (f := (va_cpy (gMs_as S) (gMs_at S) 0 0 j)) (ws' := (WM cy m (sMs_at S (vp_updL (va_cpy (gMs_as S) (gMs_at S) 0 0 j) j ((gMs_as S) j))))) j (nI_clamp (by omega)) (vp_in_nI (by omega) (by omega)) rfl dX8_layBack_20 rfl ?_
        refine zj_iinc C (j := 1) (v := (nI (j + 1))) (L' := [(1, .int (nI (j + 1))), (0, .ref (m 0))]) dX8_layBack_21 rfl (nI_1 _) (by decide) rfl ?_
        refine zj_goto C 2 dX8_layBack_24 (by decide) ?_
        refine zj_sub (L' := [(0, .ref (m 0)), (1, .int (nI (j + 1)))]) [1, 0] rfl ?_
        refine zj_eq (ws' := (WM cy m (sMs_at S (va_cpy (gMs_as S) (gMs_at S) 0 0 (j + 1))))) (congrArg (fun z => WM cy m (sMs_at S z)) (zcpy_s _ _ _ _ _ (Nat.zero_add _).symm (by rw [Nat.zero_add]))) rfl rfl rfl ?_
        exact ih_2 (j + 1) (by omega) (by omega)
  refine zj_sub (L' := [(0, .ref (m 0)), (1, .int (nI 0))]) [1, 0] rfl ?_
  refine zj_eq (ws' := (WM cy m (sMs_at S (va_cpy (gMs_as S) (gMs_at S) 0 0 0)))) (congrArg (fun z => WM cy m (sMs_at S z)) (zcpy_z _ _ _ _).symm) rfl rfl rfl ?_
  exact loop_2 (183 - 0 + 1) 0 (by omega) (Nat.lt_succ_self _)

noncomputable def f_X8_sumOf (S : zMs) (kd : Nat) (day : Int64) : Int64 := zsum (fun i => if day < f_X8_ofOrder S kd i 2 then 0 else f_X8_ofOrder S kd i 1) (zcn S kd)
noncomputable def f_X8_bound (S : zMs) (h : Nat) : Int64 := zsum (fun i => if f_X8_ofOrder S 122 i 0 = lN h then f_X8_ofOrder S 122 i 1 else 0) (zcn S 122)

set_option maxHeartbeats 4000000 in
set_option maxRecDepth 100000 in
theorem c_X8_sumOf (l : Launch) (D : va_G) (cy : Nat → ClassId) (m : Nat → Nat) (kd : Nat) (day : Int64)  (S : zMs) (hk : kd ≤ 122) (hc : zCk S kd) : zC l yX8_sumOf (zW yX8_sumOf cX8_sumOf 7 (Option.some Jvm.ClassFile.FieldType.long)) { frames := 1, cells := 0, slots := 0, locals := 23 } D cy [.ref (m 0), .int (nI kd), .long day] (WM cy m S) (some (.long (f_X8_sumOf S kd day))) (WM cy m S) := by
  refine zC_of rfl (Nat.le_of_ble_eq_true rfl) (zOk_l _) (fun E C hret => ?_)
  have hc2 := hc.2
  show zJ E 7 0 0 (WM cy m S) 0 [(0, .ref (m 0)), (1, .int (nI kd)), (2, .long day)] []
  refine zj_lconst C (v := 0) dX8_sumOf_0 (by decide) ?_
  refine zj_lstore C (L' := [(4, .long 0), (0, .ref (m 0)), (1, .int (nI kd)), (2, .long day)]) dX8_sumOf_1 (by decide) rfl ?_
  refine zj_iconst C (v := (nI 0)) dX8_sumOf_3 (by decide) ?_
  refine zj_istore C (L' := [(6, .int (nI 0)), (4, .long 0), (0, .ref (m 0)), (1, .int (nI kd)), (2, .long day)]) dX8_sumOf_4 (by decide) rfl ?_
  have loop_6 : ∀ (fuel : Nat) (j : Nat) (sm : Int64), (hj : j ≤ (zcn S kd)) → (hs : sm = zsum (fun i => if day < f_X8_ofOrder S kd i 2 then 0 else f_X8_ofOrder S kd i 1) j) → (zcn S kd) - j < fuel → zJ E 7 0 0 (WM cy m S) 6 [(0, .ref (m 0)), (1, .int (nI kd)), (2, .long day), (4, .long sm), (6, .int (nI j))] [] := by
    intro fuel
    induction fuel with
    | zero => intro j sm hj hs hmu; exact absurd hmu (Nat.not_lt_zero _)
    | succ fuel ih_6 =>
      intro j sm hj hs hmu_6
      refine zj_iload C dX8_sumOf_6 4 rfl ?_
      refine zj_i2l C dX8_sumOf_8 ?_
      refine zj_topl (lN j) (nI_l (by omega)) ?_
      refine zj_aload_n C dX8_sumOf_9 0 rfl ?_
      refine zj_get C 0 8 0 (v := .ref (m 1)) inZ8 rfl rfl (by decide) tg_677 rfl dX8_sumOf_10 ?_
      refine zj_iload_n C dX8_sumOf_13 1 rfl ?_
      refine zj_lald C 1 (f := (gMs_at S)) kd (nI_clamp (by omega)) (vp_in_nI (by omega) (by omega)) rfl dX8_sumOf_14 ?_
      refine zj_topl (lN (zcn S kd)) hc.1 ?_
      refine zj_lcmp_ge C 55 dX8_sumOf_15 dX8_sumOf_16 (by decide) (fun c => ?_) (fun c => ?_)
      · have c_15 : (zcn S kd) ≤ j := ((lN_le (by omega) (by omega)).mp c)
        refine zj_lload C dX8_sumOf_55 3 rfl ?_
        obtain rfl : j = zcn S kd := by omega
        subst hs
        exact hret _ _ dX8_sumOf_57
      · have c_15 : ¬ ((zcn S kd) ≤ j) := (fun q => c ((lN_le (by omega) (by omega)).mpr q))
        refine zj_lload C dX8_sumOf_19 3 rfl ?_
        refine zj_aload_n C dX8_sumOf_21 0 rfl ?_
        refine zj_iload_n C dX8_sumOf_22 1 rfl ?_
        refine zj_iload C dX8_sumOf_23 4 rfl ?_
        refine zj_iconst C (v := (nI 2)) dX8_sumOf_25 (by decide) ?_
        refine zj_callV C (nn := 10) (ws' := (WM cy m S)) (st := [.long sm]) (st1 := [.long (f_X8_ofOrder S kd j 2), .long sm]) 0 8 [0, 1, 2, 3, 4, 5, 6, 7, 8, 9] (c_X8_ofOrder l D cy m kd j 2 S (by omega)) (zg_V tg_760 tg_757 tg_759 tgp_18 tg_9) ⟨rfl, hdZ_X8_ofOrder⟩ ⟨rfl, rfl⟩ ⟨by decide, by decide⟩ rfl rfl rfl (by decide) ⟨rfl, rfl⟩ rfl rfl (Nat.le_of_ble_eq_true rfl) dX8_sumOf_26 rfl rfl ?_
        refine zj_lload_n C dX8_sumOf_29 2 rfl ?_
        have J_30 : ∀ (x30_0 : Int64), x30_0 = (if day < (f_X8_ofOrder S kd j 2) then 0 else (f_X8_ofOrder S kd j 1)) → zJ E 7 0 0 (WM cy m S) 46 [(0, .ref (m 0)), (1, .int (nI kd)), (2, .long day), (4, .long sm), (6, .int (nI j))] [.long x30_0, .long sm] := by
          intro x30_0 hx30_0
          refine zj_ladd C dX8_sumOf_46 ?_
          refine zj_lstore C (L' := [(4, .long (sm + x30_0)), (0, .ref (m 0)), (1, .int (nI kd)), (2, .long day), (6, .int (nI j))]) dX8_sumOf_47 (by decide) rfl ?_
          refine zj_iinc C (j := 4) (v := (nI (j + 1))) (L' := [(6, .int (nI (j + 1))), (4, .long (sm + x30_0)), (0, .ref (m 0)), (1, .int (nI kd)), (2, .long day)]) dX8_sumOf_49 rfl (nI_1 _) (by decide) rfl ?_
          refine zj_goto C 6 dX8_sumOf_52 (by decide) ?_
          refine zj_sub (L' := [(0, .ref (m 0)), (1, .int (nI kd)), (2, .long day), (4, .long (sm + x30_0)), (6, .int (nI (j + 1)))]) [2, 3, 4, 1, 0] rfl ?_
          exact ih_6 (j + 1) (sm + x30_0) (by omega) (by rw [hs, hx30_0]; rfl) (by omega)
        refine zj_lcmp_gt C 45 dX8_sumOf_30 dX8_sumOf_31 (by decide) (fun c => ?_) (fun c => ?_)
        · have c_30 : day < (f_X8_ofOrder S kd j 2) := c
          refine zj_lconst C (v := 0) dX8_sumOf_45 (by decide) ?_
          exact J_30 0 (by simp only [if_neg c_15, if_pos c_30]; first | done | assumption)
        · have c_30 : ¬ (day < (f_X8_ofOrder S kd j 2)) := c
          refine zj_aload_n C dX8_sumOf_34 0 rfl ?_
          refine zj_iload_n C dX8_sumOf_35 1 rfl ?_
          refine zj_iload C dX8_sumOf_36 4 rfl ?_
          refine zj_iconst C (v := (nI 1)) dX8_sumOf_38 (by decide) ?_
          refine zj_callV C (nn := 10) (ws' := (WM cy m S)) (st := [.long sm]) (st1 := [.long (f_X8_ofOrder S kd j 1), .long sm]) 0 8 [0, 1, 2, 3, 4, 5, 6, 7, 8, 9] (c_X8_ofOrder l D cy m kd j 1 S (by omega)) (zg_V tg_760 tg_757 tg_759 tgp_18 tg_9) ⟨rfl, hdZ_X8_ofOrder⟩ ⟨rfl, rfl⟩ ⟨by decide, by decide⟩ rfl rfl rfl (by decide) ⟨rfl, rfl⟩ rfl rfl (Nat.le_of_ble_eq_true rfl) dX8_sumOf_39 rfl rfl ?_
          refine zj_goto C 46 dX8_sumOf_42 (by decide) ?_
          exact J_30 (f_X8_ofOrder S kd j 1) (by simp only [if_neg c_15, if_neg c_30]; first | done | assumption)
  refine zj_sub (L' := [(0, .ref (m 0)), (1, .int (nI kd)), (2, .long day), (4, .long 0), (6, .int (nI 0))]) [2, 3, 4, 1, 0] rfl ?_
  exact loop_6 ((zcn S kd) - 0 + 1) 0 0 (by omega) rfl (Nat.lt_succ_self _)

set_option maxHeartbeats 4000000 in
set_option maxRecDepth 100000 in
theorem c_X8_bound (l : Launch) (D : va_G) (cy : Nat → ClassId) (m : Nat → Nat) (h : Nat)  (S : zMs) (hh : h < 6) (hc : zCk S 122) : zC l yX8_bound (zW yX8_bound cX8_bound 5 (Option.some Jvm.ClassFile.FieldType.long)) { frames := 1, cells := 0, slots := 0, locals := 23 } D cy [.ref (m 0), .int (nI h)] (WM cy m S) (some (.long (f_X8_bound S h))) (WM cy m S) := by
  refine zC_of rfl (Nat.le_of_ble_eq_true rfl) (zOk_l _) (fun E C hret => ?_)
  have hc2 := hc.2
  show zJ E 5 0 0 (WM cy m S) 0 [(0, .ref (m 0)), (1, .int (nI h))] []
  refine zj_lconst C (v := 0) dX8_bound_0 (by decide) ?_
  refine zj_lstore_n C (L' := [(2, .long 0), (0, .ref (m 0)), (1, .int (nI h))]) dX8_bound_1 rfl (by decide) rfl ?_
  refine zj_iconst C (v := (nI 0)) dX8_bound_2 (by decide) ?_
  refine zj_istore C (L' := [(4, .int (nI 0)), (2, .long 0), (0, .ref (m 0)), (1, .int (nI h))]) dX8_bound_3 (by decide) rfl ?_
  have loop_5 : ∀ (fuel : Nat) (j : Nat) (sm : Int64), (hj : j ≤ (zcn S 122)) → (hs : sm = zsum (fun i => if f_X8_ofOrder S 122 i 0 = lN h then f_X8_ofOrder S 122 i 1 else 0) j) → (zcn S 122) - j < fuel → zJ E 5 0 0 (WM cy m S) 5 [(0, .ref (m 0)), (1, .int (nI h)), (2, .long sm), (4, .int (nI j))] [] := by
    intro fuel
    induction fuel with
    | zero => intro j sm hj hs hmu; exact absurd hmu (Nat.not_lt_zero _)
    | succ fuel ih_5 =>
      intro j sm hj hs hmu_5
      refine zj_iload C dX8_bound_5 3 rfl ?_
      refine zj_i2l C dX8_bound_7 ?_
      refine zj_topl (lN j) (nI_l (by omega)) ?_
      refine zj_aload_n C dX8_bound_8 0 rfl ?_
      refine zj_get C 0 8 0 (v := .ref (m 1)) inZ8 rfl rfl (by decide) tg_677 rfl dX8_bound_9 ?_
      refine zj_bipush C (v := (nI 122)) dX8_bound_12 (by decide) ?_
      refine zj_lald C 1 (f := (gMs_at S)) 122 (by decide) (vp_in_nI (by decide) (by decide)) rfl dX8_bound_14 ?_
      refine zj_topl (lN (zcn S 122)) hc.1 ?_
      refine zj_lcmp_ge C 56 dX8_bound_15 dX8_bound_16 (by decide) (fun c => ?_) (fun c => ?_)
      · have c_15 : (zcn S 122) ≤ j := ((lN_le (by omega) (by omega)).mp c)
        refine zj_lload_n C dX8_bound_56 2 rfl ?_
        obtain rfl : j = zcn S 122 := by omega
        subst hs
        exact hret _ _ dX8_bound_57
      · have c_15 : ¬ ((zcn S 122) ≤ j) := (fun q => c ((lN_le (by omega) (by omega)).mpr q))
        refine zj_lload_n C dX8_bound_19 2 rfl ?_
        refine zj_aload_n C dX8_bound_20 0 rfl ?_
        refine zj_bipush C (v := (nI 122)) dX8_bound_21 (by decide) ?_
        refine zj_iload C dX8_bound_23 3 rfl ?_
        refine zj_iconst C (v := (nI 0)) dX8_bound_25 (by decide) ?_
        refine zj_callV C (nn := 10) (ws' := (WM cy m S)) (st := [.long sm]) (st1 := [.long (f_X8_ofOrder S 122 j 0), .long sm]) 0 8 [0, 1, 2, 3, 4, 5, 6, 7, 8, 9] (c_X8_ofOrder l D cy m 122 j 0 S (by omega)) (zg_V tg_760 tg_757 tg_759 tgp_18 tg_9) ⟨rfl, hdZ_X8_ofOrder⟩ ⟨rfl, rfl⟩ ⟨by decide, by decide⟩ rfl rfl rfl (by decide) ⟨rfl, rfl⟩ rfl rfl (Nat.le_of_ble_eq_true rfl) dX8_bound_26 rfl rfl ?_
        refine zj_iload_n C dX8_bound_29 1 rfl ?_
        refine zj_i2l C dX8_bound_30 ?_
        refine zj_topl (lN h) (nI_l (by omega)) ?_
        have J_31 : ∀ (x31_0 : Int64), x31_0 = (if (f_X8_ofOrder S 122 j 0) = (lN h) then (f_X8_ofOrder S 122 j 1) else 0) → zJ E 5 0 0 (WM cy m S) 48 [(0, .ref (m 0)), (1, .int (nI h)), (2, .long sm), (4, .int (nI j))] [.long x31_0, .long sm] := by
          intro x31_0 hx31_0
          refine zj_ladd C dX8_bound_48 ?_
          refine zj_lstore_n C (L' := [(2, .long (sm + x31_0)), (0, .ref (m 0)), (1, .int (nI h)), (4, .int (nI j))]) dX8_bound_49 rfl (by decide) rfl ?_
          refine zj_iinc C (j := 3) (v := (nI (j + 1))) (L' := [(4, .int (nI (j + 1))), (2, .long (sm + x31_0)), (0, .ref (m 0)), (1, .int (nI h))]) dX8_bound_50 rfl (nI_1 _) (by decide) rfl ?_
          refine zj_goto C 5 dX8_bound_53 (by decide) ?_
          refine zj_sub (L' := [(0, .ref (m 0)), (1, .int (nI h)), (2, .long (sm + x31_0)), (4, .int (nI (j + 1)))]) [2, 3, 1, 0] rfl ?_
          exact ih_5 (j + 1) (sm + x31_0) (by omega) (by rw [hs, hx31_0]; rfl) (by omega)
        refine zj_lcmp_ne C 47 dX8_bound_31 dX8_bound_32 (by decide) (fun c => ?_) (fun c => ?_)
        · have c_31 : ¬ ((f_X8_ofOrder S 122 j 0) = (lN h)) := c
          refine zj_lconst C (v := 0) dX8_bound_47 (by decide) ?_
          exact J_31 0 (by simp only [if_neg c_15, if_neg c_31]; first | done | assumption)
        · have c_31 : (f_X8_ofOrder S 122 j 0) = (lN h) := (Classical.not_not.mp c)
          refine zj_aload_n C dX8_bound_35 0 rfl ?_
          refine zj_bipush C (v := (nI 122)) dX8_bound_36 (by decide) ?_
          refine zj_iload C dX8_bound_38 3 rfl ?_
          refine zj_iconst C (v := (nI 1)) dX8_bound_40 (by decide) ?_
          refine zj_callV C (nn := 10) (ws' := (WM cy m S)) (st := [.long sm]) (st1 := [.long (f_X8_ofOrder S 122 j 1), .long sm]) 0 8 [0, 1, 2, 3, 4, 5, 6, 7, 8, 9] (c_X8_ofOrder l D cy m 122 j 1 S (by omega)) (zg_V tg_760 tg_757 tg_759 tgp_18 tg_9) ⟨rfl, hdZ_X8_ofOrder⟩ ⟨rfl, rfl⟩ ⟨by decide, by decide⟩ rfl rfl rfl (by decide) ⟨rfl, rfl⟩ rfl rfl (Nat.le_of_ble_eq_true rfl) dX8_bound_41 rfl rfl ?_
          refine zj_goto C 48 dX8_bound_44 (by decide) ?_
          exact J_31 (f_X8_ofOrder S 122 j 1) (by simp only [if_neg c_15, if_pos c_31]; first | done | assumption)
  refine zj_sub (L' := [(0, .ref (m 0)), (1, .int (nI h)), (2, .long 0), (4, .int (nI 0))]) [2, 3, 1, 0] rfl ?_
  exact loop_5 ((zcn S 122) - 0 + 1) 0 0 (by omega) rfl (Nat.lt_succ_self _)

noncomputable def f_X8_makeUnits (S : zMs) (h : Nat) (many : Int64) (inc : Int64) : zMs := zsl (
  (f_X8_holdPool (sMs_at (f_X8_add S h 1 many) (vp_updL (vp_updL (gMs_at (f_X8_add S h 1 many)) 8 (((gMs_at (f_X8_add S h 1 many)) 8) + ((many * inc) / 1000))) 9 (((vp_updL (gMs_at (f_X8_add S h 1 many)) 8 (((gMs_at (f_X8_add S h 1 many)) 8) + ((many * inc) / 1000))) 9) + ((many * inc) / 1000)))))
  )
set_option maxHeartbeats 4000000 in
set_option maxRecDepth 100000 in
theorem c_X8_makeUnits (l : Launch) (D : va_G) (cy : Nat → ClassId) (m : Nat → Nat) (h : Nat) (many : Int64) (inc : Int64)  (S : zMs) (hh : h < 6) : zC l yX8_makeUnits (zW yX8_makeUnits cX8_makeUnits 8 (Option.none : Option Jvm.ClassFile.FieldType)) { frames := 1, cells := 0, slots := 0, locals := 24 } D cy [.ref (m 0), .int (nI h), .long many, .long inc] (WM cy m S) none (WM cy m (f_X8_makeUnits S h many inc)) := by
  refine zC_of rfl (Nat.le_of_ble_eq_true rfl) zOk_v (fun E C hret => ?_)
  show zJ E 8 0 0 (WM cy m S) 0 [(0, .ref (m 0)), (1, .int (nI h)), (2, .long many), (4, .long inc)] []
  refine zj_lload_n C dX8_makeUnits_0 2 rfl ?_
  refine zj_lload C dX8_makeUnits_1 3 rfl ?_
  refine zj_lmul C dX8_makeUnits_3 ?_
  refine zj_ldc2 C dX8_makeUnits_4 tg_675 ?_
  refine zj_ldiv C dX8_makeUnits_7 (by decide) ?_
  refine zj_lstore C (L' := [(6, .long ((many * inc) / 1000)), (0, .ref (m 0)), (1, .int (nI h)), (2, .long many), (4, .long inc)]) dX8_makeUnits_8 (by decide) rfl ?_
  refine zj_aload_n C dX8_makeUnits_10 1 rfl ?_
  refine zj_iload_n C dX8_makeUnits_11 2 rfl ?_
  refine zj_iconst C (v := (nI 1)) dX8_makeUnits_12 (by decide) ?_
  refine zj_lload_n C dX8_makeUnits_13 3 rfl ?_
  refine zj_callV C (nn := 10) (ws' := (WM cy m (f_X8_add S h 1 many))) (st := []) (st1 := []) 0 8 [0, 1, 2, 3, 4, 5, 6, 7, 8, 9] (c_X8_add l D cy m h 1 many S (by omega) (by omega)) (zg_V tg_804 tg_801 tg_803 tgp_27 tg_9) ⟨rfl, hdZ_X8_add⟩ ⟨rfl, rfl⟩ ⟨by decide, by decide⟩ rfl rfl rfl (by decide) ⟨rfl, rfl⟩ rfl rfl (Nat.le_of_ble_eq_true rfl) dX8_makeUnits_14 rfl rfl ?_
  refine zj_aload_n C dX8_makeUnits_17 1 rfl ?_
  refine zj_get C 0 8 0 (v := .ref (m 1)) inZ8 rfl rfl (by decide) tg_677 rfl dX8_makeUnits_18 ?_
  refine zj_bipush C (v := (nI 8)) dX8_makeUnits_21 (by decide) ?_
  refine zj_dup2 C dX8_makeUnits_23 rfl rfl ?_
  refine zj_lald C 1 (f := (gMs_at (f_X8_add S h 1 many))) 8 (by decide) (vp_in_nI (by decide) (by decide)) rfl dX8_makeUnits_24 ?_
  refine zj_lload C dX8_makeUnits_25 0 rfl ?_
  refine zj_ladd C dX8_makeUnits_27 ?_
  refine zj_last C 1 (f := (gMs_at (f_X8_add S h 1 many))) (ws' := (WM cy m (sMs_at (f_X8_add S h 1 many) (vp_updL (gMs_at (f_X8_add S h 1 many)) 8 (((gMs_at (f_X8_add S h 1 many)) 8) + ((many * inc) / 1000)))))) 8 (by decide) (vp_in_nI (by decide) (by decide)) rfl dX8_makeUnits_28 rfl ?_
  refine zj_aload_n C dX8_makeUnits_29 1 rfl ?_
  refine zj_get C 0 8 0 (v := .ref (m 1)) inZ8 rfl rfl (by decide) tg_677 rfl dX8_makeUnits_30 ?_
  refine zj_bipush C (v := (nI 9)) dX8_makeUnits_33 (by decide) ?_
  refine zj_dup2 C dX8_makeUnits_35 rfl rfl ?_
  refine zj_lald C 1 (f := (vp_updL (gMs_at (f_X8_add S h 1 many)) 8 (((gMs_at (f_X8_add S h 1 many)) 8) + ((many * inc) / 1000)))) 9 (by decide) (vp_in_nI (by decide) (by decide)) rfl dX8_makeUnits_36 ?_
  refine zj_lload C dX8_makeUnits_37 0 rfl ?_
  refine zj_ladd C dX8_makeUnits_39 ?_
  refine zj_last C 1 (f := (vp_updL (gMs_at (f_X8_add S h 1 many)) 8 (((gMs_at (f_X8_add S h 1 many)) 8) + ((many * inc) / 1000)))) (ws' := (WM cy m (sMs_at (f_X8_add S h 1 many) (vp_updL (vp_updL (gMs_at (f_X8_add S h 1 many)) 8 (((gMs_at (f_X8_add S h 1 many)) 8) + ((many * inc) / 1000))) 9 (((vp_updL (gMs_at (f_X8_add S h 1 many)) 8 (((gMs_at (f_X8_add S h 1 many)) 8) + ((many * inc) / 1000))) 9) + ((many * inc) / 1000)))))) 9 (by decide) (vp_in_nI (by decide) (by decide)) rfl dX8_makeUnits_40 rfl ?_
  refine zj_aload_n C dX8_makeUnits_41 1 rfl ?_
  refine zj_callV C (nn := 10) (ws' := (WM cy m (f_X8_holdPool (sMs_at (f_X8_add S h 1 many) (vp_updL (vp_updL (gMs_at (f_X8_add S h 1 many)) 8 (((gMs_at (f_X8_add S h 1 many)) 8) + ((many * inc) / 1000))) 9 (((vp_updL (gMs_at (f_X8_add S h 1 many)) 8 (((gMs_at (f_X8_add S h 1 many)) 8) + ((many * inc) / 1000))) 9) + ((many * inc) / 1000))))))) (st := []) (st1 := []) 0 8 [0, 1, 2, 3, 4, 5, 6, 7, 8, 9] (c_X8_holdPool l D cy m  (sMs_at (f_X8_add S h 1 many) (vp_updL (vp_updL (gMs_at (f_X8_add S h 1 many)) 8 (((gMs_at (f_X8_add S h 1 many)) 8) + ((many * inc) / 1000))) 9 (((vp_updL (gMs_at (f_X8_add S h 1 many)) 8 (((gMs_at (f_X8_add S h 1 many)) 8) + ((many * inc) / 1000))) 9) + ((many * inc) / 1000)))) ) (zg_V tg_808 tg_805 tg_807 tgp_28 tg_9) ⟨rfl, hdZ_X8_holdPool⟩ ⟨rfl, rfl⟩ ⟨by decide, by decide⟩ rfl rfl rfl (by decide) ⟨rfl, rfl⟩ rfl rfl (Nat.le_of_ble_eq_true rfl) dX8_makeUnits_42 rfl rfl ?_
  have e : f_X8_makeUnits S h many inc = (f_X8_holdPool (sMs_at (f_X8_add S h 1 many) (vp_updL (vp_updL (gMs_at (f_X8_add S h 1 many)) 8 (((gMs_at (f_X8_add S h 1 many)) 8) + ((many * inc) / 1000))) 9 (((vp_updL (gMs_at (f_X8_add S h 1 many)) 8 (((gMs_at (f_X8_add S h 1 many)) 8) + ((many * inc) / 1000))) 9) + ((many * inc) / 1000))))) := by refine (zsl_e _).trans ?_; rfl
  rw [e] at hret
  exact hret _ _ dX8_makeUnits_45

theorem f_of_lt (S : zMs) {h w k : Nat} {x : Int64} (hk : k < 19) : f_X8_of (sMs_at S (vp_updL (gMs_at S) k x)) h w = f_X8_of S h w := vp_updL_n _ _ (by omega)
theorem f_allNew_lt (S : zMs) {k : Nat} {x : Int64} (hk : k < 19) : f_X8_allNew (sMs_at S (vp_updL (gMs_at S) k x)) = f_X8_allNew S := zsum_congr _ (fun i _ => f_of_lt S hk)

noncomputable def f_X8_goUnits (S : zMs) (h : Nat) (many : Int64) (inc : Int64) : zMs := zsl (
  let x27_0 : Int64 := (if 0 ≤ (((gMs_at S) 8) - ((many * inc) / 1000)) then (((gMs_at S) 8) - ((many * inc) / 1000)) else 0)
  let x45_0 : Int64 := (if many ≤ (f_X8_of (sMs_at S (vp_updL (gMs_at S) 8 x27_0)) h 0) then many else (f_X8_of (sMs_at S (vp_updL (gMs_at S) 8 x27_0)) h 0))
  let x70_0 : Nat → Int64 := (if (many - x45_0) ≤ 0 then (vp_updL (gMs_at S) 8 x27_0) else (vp_updL (vp_updL (gMs_at S) 8 x27_0) 9 (((vp_updL (gMs_at S) 8 x27_0) 9) - (((many - x45_0) * ((vp_updL (gMs_at S) 8 x27_0) 9)) / (f_X8_allNew (sMs_at S (vp_updL (gMs_at S) 8 x27_0)))))))
  (f_X8_holdPool (f_X8_add (f_X8_add (sMs_at S x70_0) h 0 (-x45_0)) h 1 (-(many - x45_0))))
  )
set_option maxHeartbeats 4000000 in
set_option maxRecDepth 100000 in
theorem c_X8_goUnits (l : Launch) (D : va_G) (cy : Nat → ClassId) (m : Nat → Nat) (h : Nat) (many : Int64) (inc : Int64)  (S : zMs) (hh : h < 6) (hz : 0 < many - (if many ≤ f_X8_of S h 0 then many else f_X8_of S h 0) → ¬ f_X8_allNew S = 0) : zC l yX8_goUnits (zW yX8_goUnits cX8_goUnits 12 (Option.none : Option Jvm.ClassFile.FieldType)) { frames := 2, cells := 0, slots := 0, locals := 45 } D cy [.ref (m 0), .int (nI h), .long many, .long inc] (WM cy m S) none (WM cy m (f_X8_goUnits S h many inc)) := by
  refine zC_of rfl (Nat.le_of_ble_eq_true rfl) zOk_v (fun E C hret => ?_)
  show zJ E 12 0 0 (WM cy m S) 0 [(0, .ref (m 0)), (1, .int (nI h)), (2, .long many), (4, .long inc)] []
  refine zj_aload_n C dX8_goUnits_0 0 rfl ?_
  refine zj_get C 0 8 0 (v := .ref (m 1)) inZ8 rfl rfl (by decide) tg_677 rfl dX8_goUnits_1 ?_
  refine zj_bipush C (v := (nI 8)) dX8_goUnits_4 (by decide) ?_
  refine zj_lald C 1 (f := (gMs_at S)) 8 (by decide) (vp_in_nI (by decide) (by decide)) rfl dX8_goUnits_6 ?_
  refine zj_lload_n C dX8_goUnits_7 2 rfl ?_
  refine zj_lload C dX8_goUnits_8 3 rfl ?_
  refine zj_lmul C dX8_goUnits_10 ?_
  refine zj_ldc2 C dX8_goUnits_11 tg_675 ?_
  refine zj_ldiv C dX8_goUnits_14 (by decide) ?_
  refine zj_lsub C dX8_goUnits_15 ?_
  refine zj_lstore C (L' := [(6, .long (((gMs_at S) 8) - ((many * inc) / 1000))), (0, .ref (m 0)), (1, .int (nI h)), (2, .long many), (4, .long inc)]) dX8_goUnits_16 (by decide) rfl ?_
  refine zj_aload_n C dX8_goUnits_18 1 rfl ?_
  refine zj_get C 0 8 0 (v := .ref (m 1)) inZ8 rfl rfl (by decide) tg_677 rfl dX8_goUnits_19 ?_
  refine zj_bipush C (v := (nI 8)) dX8_goUnits_22 (by decide) ?_
  refine zj_lload C dX8_goUnits_24 0 rfl ?_
  refine zj_lconst C (v := 0) dX8_goUnits_26 (by decide) ?_
  have J_27 : ∀ (x27_0 : Int64), x27_0 = (if 0 ≤ (((gMs_at S) 8) - ((many * inc) / 1000)) then (((gMs_at S) 8) - ((many * inc) / 1000)) else 0) → zJ E 12 0 0 (WM cy m S) 37 [(6, .long (((gMs_at S) 8) - ((many * inc) / 1000))), (0, .ref (m 0)), (1, .int (nI h)), (2, .long many), (4, .long inc)] [.long x27_0, .int (nI 8), .ref (m 1)] := by
    intro x27_0 hx27_0
    refine zj_last C 1 (f := (gMs_at S)) (ws' := (WM cy m (sMs_at S (vp_updL (gMs_at S) 8 x27_0)))) 8 (by decide) (vp_in_nI (by decide) (by decide)) rfl dX8_goUnits_37 rfl ?_
    refine zj_aload_n C dX8_goUnits_38 1 rfl ?_
    refine zj_iload_n C dX8_goUnits_39 2 rfl ?_
    refine zj_iconst C (v := (nI 0)) dX8_goUnits_40 (by decide) ?_
    refine zj_callV C (nn := 10) (ws' := (WM cy m (sMs_at S (vp_updL (gMs_at S) 8 x27_0)))) (st := []) (st1 := [.long (f_X8_of (sMs_at S (vp_updL (gMs_at S) 8 x27_0)) h 0)]) 0 8 [0, 1, 2, 3, 4, 5, 6, 7, 8, 9] (c_X8_of l D cy m h 0 (sMs_at S (vp_updL (gMs_at S) 8 x27_0)) (by omega) (by omega)) (zg_V tg_776 tg_773 tg_775 tgp_21 tg_9) ⟨rfl, hdZ_X8_of⟩ ⟨rfl, rfl⟩ ⟨by decide, by decide⟩ rfl rfl rfl (by decide) ⟨rfl, rfl⟩ rfl rfl (Nat.le_of_ble_eq_true rfl) dX8_goUnits_41 rfl rfl ?_
    refine zj_lload_n C dX8_goUnits_44 3 rfl ?_
    have J_45 : ∀ (x45_0 : Int64), x45_0 = (if many ≤ (f_X8_of (sMs_at S (vp_updL (gMs_at S) 8 x27_0)) h 0) then many else (f_X8_of (sMs_at S (vp_updL (gMs_at S) 8 x27_0)) h 0)) → zJ E 12 0 0 (WM cy m (sMs_at S (vp_updL (gMs_at S) 8 x27_0))) 59 [(6, .long (((gMs_at S) 8) - ((many * inc) / 1000))), (0, .ref (m 0)), (1, .int (nI h)), (2, .long many), (4, .long inc)] [.long x45_0] := by
      intro x45_0 hx45_0
      refine zj_lstore C (L' := [(8, .long x45_0), (6, .long (((gMs_at S) 8) - ((many * inc) / 1000))), (0, .ref (m 0)), (1, .int (nI h)), (2, .long many), (4, .long inc)]) dX8_goUnits_59 (by decide) rfl ?_
      refine zj_lload_n C dX8_goUnits_61 4 rfl ?_
      refine zj_lload C dX8_goUnits_62 0 rfl ?_
      refine zj_lsub C dX8_goUnits_64 ?_
      refine zj_lstore C (L' := [(10, .long (many - x45_0)), (8, .long x45_0), (6, .long (((gMs_at S) 8) - ((many * inc) / 1000))), (0, .ref (m 0)), (1, .int (nI h)), (2, .long many), (4, .long inc)]) dX8_goUnits_65 (by decide) rfl ?_
      refine zj_lload C dX8_goUnits_67 0 rfl ?_
      refine zj_lconst C (v := 0) dX8_goUnits_69 (by decide) ?_
      have J_70 : ∀ (x70_0 : Nat → Int64), x70_0 = (if (many - x45_0) ≤ 0 then (vp_updL (gMs_at S) 8 x27_0) else (vp_updL (vp_updL (gMs_at S) 8 x27_0) 9 (((vp_updL (gMs_at S) 8 x27_0) 9) - (((many - x45_0) * ((vp_updL (gMs_at S) 8 x27_0) 9)) / (f_X8_allNew (sMs_at S (vp_updL (gMs_at S) 8 x27_0))))))) → zJ E 12 0 0 (WM cy m (sMs_at S x70_0)) 99 [(10, .long (many - x45_0)), (8, .long x45_0), (6, .long (((gMs_at S) 8) - ((many * inc) / 1000))), (0, .ref (m 0)), (1, .int (nI h)), (2, .long many), (4, .long inc)] [] := by
        intro x70_0 hx70_0
        refine zj_aload_n C dX8_goUnits_99 3 rfl ?_
        refine zj_iload_n C dX8_goUnits_100 4 rfl ?_
        refine zj_iconst C (v := (nI 0)) dX8_goUnits_101 (by decide) ?_
        refine zj_lload C dX8_goUnits_102 1 rfl ?_
        refine zj_lneg C dX8_goUnits_104 ?_
        refine zj_callV C (nn := 10) (ws' := (WM cy m (f_X8_add (sMs_at S x70_0) h 0 (-x45_0)))) (st := []) (st1 := []) 0 8 [0, 1, 2, 3, 4, 5, 6, 7, 8, 9] (c_X8_add l D cy m h 0 (-x45_0) (sMs_at S x70_0) (by omega) (by omega)) (zg_V tg_804 tg_801 tg_803 tgp_27 tg_9) ⟨rfl, hdZ_X8_add⟩ ⟨rfl, rfl⟩ ⟨by decide, by decide⟩ rfl rfl rfl (by decide) ⟨rfl, rfl⟩ rfl rfl (Nat.le_of_ble_eq_true rfl) dX8_goUnits_105 rfl rfl ?_
        refine zj_aload_n C dX8_goUnits_108 3 rfl ?_
        refine zj_iload_n C dX8_goUnits_109 4 rfl ?_
        refine zj_iconst C (v := (nI 1)) dX8_goUnits_110 (by decide) ?_
        refine zj_lload C dX8_goUnits_111 0 rfl ?_
        refine zj_lneg C dX8_goUnits_113 ?_
        refine zj_callV C (nn := 10) (ws' := (WM cy m (f_X8_add (f_X8_add (sMs_at S x70_0) h 0 (-x45_0)) h 1 (-(many - x45_0))))) (st := []) (st1 := []) 0 8 [0, 1, 2, 3, 4, 5, 6, 7, 8, 9] (c_X8_add l D cy m h 1 (-(many - x45_0)) (f_X8_add (sMs_at S x70_0) h 0 (-x45_0)) (by omega) (by omega)) (zg_V tg_804 tg_801 tg_803 tgp_27 tg_9) ⟨rfl, hdZ_X8_add⟩ ⟨rfl, rfl⟩ ⟨by decide, by decide⟩ rfl rfl rfl (by decide) ⟨rfl, rfl⟩ rfl rfl (Nat.le_of_ble_eq_true rfl) dX8_goUnits_114 rfl rfl ?_
        refine zj_aload_n C dX8_goUnits_117 3 rfl ?_
        refine zj_callV C (nn := 10) (ws' := (WM cy m (f_X8_holdPool (f_X8_add (f_X8_add (sMs_at S x70_0) h 0 (-x45_0)) h 1 (-(many - x45_0)))))) (st := []) (st1 := []) 0 8 [0, 1, 2, 3, 4, 5, 6, 7, 8, 9] (c_X8_holdPool l D cy m  (f_X8_add (f_X8_add (sMs_at S x70_0) h 0 (-x45_0)) h 1 (-(many - x45_0))) ) (zg_V tg_808 tg_805 tg_807 tgp_28 tg_9) ⟨rfl, hdZ_X8_holdPool⟩ ⟨rfl, rfl⟩ ⟨by decide, by decide⟩ rfl rfl rfl (by decide) ⟨rfl, rfl⟩ rfl rfl (Nat.le_of_ble_eq_true rfl) dX8_goUnits_118 rfl rfl ?_
        subst hx70_0
        subst hx45_0
        subst hx27_0
        have e : f_X8_goUnits S h many inc = (f_X8_holdPool (f_X8_add (f_X8_add (sMs_at S (if (many - (if many ≤ (f_X8_of (sMs_at S (vp_updL (gMs_at S) 8 (if 0 ≤ (((gMs_at S) 8) - ((many * inc) / 1000)) then (((gMs_at S) 8) - ((many * inc) / 1000)) else 0))) h 0) then many else (f_X8_of (sMs_at S (vp_updL (gMs_at S) 8 (if 0 ≤ (((gMs_at S) 8) - ((many * inc) / 1000)) then (((gMs_at S) 8) - ((many * inc) / 1000)) else 0))) h 0))) ≤ 0 then (vp_updL (gMs_at S) 8 (if 0 ≤ (((gMs_at S) 8) - ((many * inc) / 1000)) then (((gMs_at S) 8) - ((many * inc) / 1000)) else 0)) else (vp_updL (vp_updL (gMs_at S) 8 (if 0 ≤ (((gMs_at S) 8) - ((many * inc) / 1000)) then (((gMs_at S) 8) - ((many * inc) / 1000)) else 0)) 9 (((vp_updL (gMs_at S) 8 (if 0 ≤ (((gMs_at S) 8) - ((many * inc) / 1000)) then (((gMs_at S) 8) - ((many * inc) / 1000)) else 0)) 9) - (((many - (if many ≤ (f_X8_of (sMs_at S (vp_updL (gMs_at S) 8 (if 0 ≤ (((gMs_at S) 8) - ((many * inc) / 1000)) then (((gMs_at S) 8) - ((many * inc) / 1000)) else 0))) h 0) then many else (f_X8_of (sMs_at S (vp_updL (gMs_at S) 8 (if 0 ≤ (((gMs_at S) 8) - ((many * inc) / 1000)) then (((gMs_at S) 8) - ((many * inc) / 1000)) else 0))) h 0))) * ((vp_updL (gMs_at S) 8 (if 0 ≤ (((gMs_at S) 8) - ((many * inc) / 1000)) then (((gMs_at S) 8) - ((many * inc) / 1000)) else 0)) 9)) / (f_X8_allNew (sMs_at S (vp_updL (gMs_at S) 8 (if 0 ≤ (((gMs_at S) 8) - ((many * inc) / 1000)) then (((gMs_at S) 8) - ((many * inc) / 1000)) else 0))))))))) h 0 (-(if many ≤ (f_X8_of (sMs_at S (vp_updL (gMs_at S) 8 (if 0 ≤ (((gMs_at S) 8) - ((many * inc) / 1000)) then (((gMs_at S) 8) - ((many * inc) / 1000)) else 0))) h 0) then many else (f_X8_of (sMs_at S (vp_updL (gMs_at S) 8 (if 0 ≤ (((gMs_at S) 8) - ((many * inc) / 1000)) then (((gMs_at S) 8) - ((many * inc) / 1000)) else 0))) h 0)))) h 1 (-(many - (if many ≤ (f_X8_of (sMs_at S (vp_updL (gMs_at S) 8 (if 0 ≤ (((gMs_at S) 8) - ((many * inc) / 1000)) then (((gMs_at S) 8) - ((many * inc) / 1000)) else 0))) h 0) then many else (f_X8_of (sMs_at S (vp_updL (gMs_at S) 8 (if 0 ≤ (((gMs_at S) 8) - ((many * inc) / 1000)) then (((gMs_at S) 8) - ((many * inc) / 1000)) else 0))) h 0)))))) := by refine (zsl_e _).trans ?_; rfl
        rw [e] at hret
        exact hret _ _ dX8_goUnits_121
      refine zj_lcmp_le C 99 dX8_goUnits_70 dX8_goUnits_71 (by decide) (fun c => ?_) (fun c => ?_)
      · have c_70 : (many - x45_0) ≤ 0 := c
        exact J_70 (vp_updL (gMs_at S) 8 x27_0) (by simp only [if_pos c_70]; first | done | assumption)
      · have c_70 : ¬ ((many - x45_0) ≤ 0) := c
        refine zj_aload_n C dX8_goUnits_74 3 rfl ?_
        refine zj_get C 0 8 0 (v := .ref (m 1)) inZ8 rfl rfl (by decide) tg_677 rfl dX8_goUnits_75 ?_
        refine zj_bipush C (v := (nI 9)) dX8_goUnits_78 (by decide) ?_
        refine zj_dup2 C dX8_goUnits_80 rfl rfl ?_
        refine zj_lald C 1 (f := (vp_updL (gMs_at S) 8 x27_0)) 9 (by decide) (vp_in_nI (by decide) (by decide)) rfl dX8_goUnits_81 ?_
        refine zj_lload C dX8_goUnits_82 0 rfl ?_
        refine zj_aload_n C dX8_goUnits_84 3 rfl ?_
        refine zj_get C 0 8 0 (v := .ref (m 1)) inZ8 rfl rfl (by decide) tg_677 rfl dX8_goUnits_85 ?_
        refine zj_bipush C (v := (nI 9)) dX8_goUnits_88 (by decide) ?_
        refine zj_lald C 1 (f := (vp_updL (gMs_at S) 8 x27_0)) 9 (by decide) (vp_in_nI (by decide) (by decide)) rfl dX8_goUnits_90 ?_
        refine zj_lmul C dX8_goUnits_91 ?_
        refine zj_aload_n C dX8_goUnits_92 3 rfl ?_
        refine zj_callV C (nn := 10) (ws' := (WM cy m (sMs_at S (vp_updL (gMs_at S) 8 x27_0)))) (st := [.long ((many - x45_0) * ((vp_updL (gMs_at S) 8 x27_0) 9)), .long ((vp_updL (gMs_at S) 8 x27_0) 9), .int (nI 9), .ref (m 1)]) (st1 := [.long (f_X8_allNew (sMs_at S (vp_updL (gMs_at S) 8 x27_0))), .long ((many - x45_0) * ((vp_updL (gMs_at S) 8 x27_0) 9)), .long ((vp_updL (gMs_at S) 8 x27_0) 9), .int (nI 9), .ref (m 1)]) 0 8 [0, 1, 2, 3, 4, 5, 6, 7, 8, 9] (c_X8_allNew l D cy m  (sMs_at S (vp_updL (gMs_at S) 8 x27_0)) ) (zg_V tg_800 tg_797 tg_799 tgp_26 tg_9) ⟨rfl, hdZ_X8_allNew⟩ ⟨rfl, rfl⟩ ⟨by decide, by decide⟩ rfl rfl rfl (by decide) ⟨rfl, rfl⟩ rfl rfl (Nat.le_of_ble_eq_true rfl) dX8_goUnits_93 rfl rfl ?_
        refine zj_ldiv C dX8_goUnits_96 (by rw [f_allNew_lt S (by decide)]; refine hz ?_; rw [hx45_0, f_of_lt S (by decide)] at c_70; exact Int64.not_le.mp c_70) ?_
        refine zj_lsub C dX8_goUnits_97 ?_
        refine zj_last C 1 (f := (vp_updL (gMs_at S) 8 x27_0)) (ws' := (WM cy m (sMs_at S (vp_updL (vp_updL (gMs_at S) 8 x27_0) 9 (((vp_updL (gMs_at S) 8 x27_0) 9) - (((many - x45_0) * ((vp_updL (gMs_at S) 8 x27_0) 9)) / (f_X8_allNew (sMs_at S (vp_updL (gMs_at S) 8 x27_0))))))))) 9 (by decide) (vp_in_nI (by decide) (by decide)) rfl dX8_goUnits_98 rfl ?_
        exact J_70 (vp_updL (vp_updL (gMs_at S) 8 x27_0) 9 (((vp_updL (gMs_at S) 8 x27_0) 9) - (((many - x45_0) * ((vp_updL (gMs_at S) 8 x27_0) 9)) / (f_X8_allNew (sMs_at S (vp_updL (gMs_at S) 8 x27_0)))))) (by simp only [if_neg c_70]; first | done | assumption)
    refine zj_lcmp_ge C 58 dX8_goUnits_45 dX8_goUnits_46 (by decide) (fun c => ?_) (fun c => ?_)
    · have c_45 : many ≤ (f_X8_of (sMs_at S (vp_updL (gMs_at S) 8 x27_0)) h 0) := c
      refine zj_lload_n C dX8_goUnits_58 3 rfl ?_
      exact J_45 many (by simp only [if_pos c_45]; first | done | assumption)
    · have c_45 : ¬ (many ≤ (f_X8_of (sMs_at S (vp_updL (gMs_at S) 8 x27_0)) h 0)) := c
      refine zj_aload_n C dX8_goUnits_49 1 rfl ?_
      refine zj_iload_n C dX8_goUnits_50 2 rfl ?_
      refine zj_iconst C (v := (nI 0)) dX8_goUnits_51 (by decide) ?_
      refine zj_callV C (nn := 10) (ws' := (WM cy m (sMs_at S (vp_updL (gMs_at S) 8 x27_0)))) (st := []) (st1 := [.long (f_X8_of (sMs_at S (vp_updL (gMs_at S) 8 x27_0)) h 0)]) 0 8 [0, 1, 2, 3, 4, 5, 6, 7, 8, 9] (c_X8_of l D cy m h 0 (sMs_at S (vp_updL (gMs_at S) 8 x27_0)) (by omega) (by omega)) (zg_V tg_776 tg_773 tg_775 tgp_21 tg_9) ⟨rfl, hdZ_X8_of⟩ ⟨rfl, rfl⟩ ⟨by decide, by decide⟩ rfl rfl rfl (by decide) ⟨rfl, rfl⟩ rfl rfl (Nat.le_of_ble_eq_true rfl) dX8_goUnits_52 rfl rfl ?_
      refine zj_goto C 59 dX8_goUnits_55 (by decide) ?_
      exact J_45 (f_X8_of (sMs_at S (vp_updL (gMs_at S) 8 x27_0)) h 0) (by simp only [if_neg c_45]; first | done | assumption)
  refine zj_lcmp_ge C 35 dX8_goUnits_27 dX8_goUnits_28 (by decide) (fun c => ?_) (fun c => ?_)
  · have c_27 : 0 ≤ (((gMs_at S) 8) - ((many * inc) / 1000)) := c
    refine zj_lload C dX8_goUnits_35 0 rfl ?_
    exact J_27 (((gMs_at S) 8) - ((many * inc) / 1000)) (by simp only [if_pos c_27]; first | done | assumption)
  · have c_27 : ¬ (0 ≤ (((gMs_at S) 8) - ((many * inc) / 1000))) := c
    refine zj_lconst C (v := 0) dX8_goUnits_31 (by decide) ?_
    refine zj_goto C 37 dX8_goUnits_32 (by decide) ?_
    exact J_27 0 (by simp only [if_neg c_27]; first | done | assumption)

noncomputable def f_X8_takeOut (S : zMs) (kd o : Nat) : zMs := sMs_at S (va_cpy (vp_updL (gMs_at S) kd (gMs_at S kd - 1)) (vp_updL (gMs_at S) kd (gMs_at S kd - 1)) (kd + 1 + 3 * o + 3) (kd + 1 + 3 * o) (3 * (zcn S kd - 1 - o)))
noncomputable def f_X8_day (S : zMs) (hour : Int32) : Int64 := if gMs_at S 0 ≤ hour.toInt64 then gMs_at S 10 + 1 else gMs_at S 10
noncomputable def f_X8_putIn (S : zMs) (kd : Nat) (h : Int32) (much : Int64) (hour : Int32) : zMs := sMs_at S (zput (gMs_at S) kd (zpos (f_X8_day S hour) (fun i => f_X8_ofOrder S kd i 2) (zcn S kd)) (zcn S kd) h.toInt64 much (f_X8_day S hour))

set_option maxHeartbeats 4000000 in
set_option maxRecDepth 100000 in
theorem c_X8_takeOut (l : Launch) (D : va_G) (cy : Nat → ClassId) (m : Nat → Nat) (kd : Nat) (o : Nat)  (S : zMs) (hk : kd ≤ 122) (hc : zCk S kd) (ho : o < zcn S kd) : zC l yX8_takeOut (zW yX8_takeOut cX8_takeOut 4 (Option.none : Option Jvm.ClassFile.FieldType)) { frames := 0, cells := 0, slots := 0, locals := 0 } D cy [.ref (m 0), .int (nI kd), .int (nI o)] (WM cy m S) none (WM cy m (f_X8_takeOut S kd o)) := by
  refine zC_of rfl (Nat.le_of_ble_eq_true rfl) zOk_v (fun E C hret => ?_)
  have hc2 := hc.2
  show zJ E 4 0 0 (WM cy m S) 0 [(0, .ref (m 0)), (1, .int (nI kd)), (2, .int (nI o))] []
  refine zj_aload_n C dX8_takeOut_0 0 rfl ?_
  refine zj_get C 0 8 0 (v := .ref (m 1)) inZ8 rfl rfl (by decide) tg_677 rfl dX8_takeOut_1 ?_
  refine zj_iload_n C dX8_takeOut_4 1 rfl ?_
  refine zj_dup2 C dX8_takeOut_5 rfl rfl ?_
  refine zj_lald C 1 (f := (gMs_at S)) kd (nI_clamp (by omega)) (vp_in_nI (by omega) (by omega)) rfl dX8_takeOut_6 ?_
  refine zj_lconst C (v := 1) dX8_takeOut_7 (by decide) ?_
  refine zj_lsub C dX8_takeOut_8 ?_
  refine zj_last C 1 (f := (gMs_at S)) (ws' := (WM cy m (sMs_at S (vp_updL (gMs_at S) kd (((gMs_at S) kd) - 1))))) kd (nI_clamp (by omega)) (vp_in_nI (by omega) (by omega)) rfl dX8_takeOut_9 rfl ?_
  refine zj_iload_n C dX8_takeOut_10 1 rfl ?_
  refine zj_iconst C (v := (nI 1)) dX8_takeOut_11 (by decide) ?_
  refine zj_iadd C dX8_takeOut_12 ?_
  refine zj_topi (nI (kd + 1)) (nI_add _ _) ?_
  refine zj_iconst C (v := (nI 3)) dX8_takeOut_13 (by decide) ?_
  refine zj_iload_n C dX8_takeOut_14 2 rfl ?_
  refine zj_imul C dX8_takeOut_15 ?_
  refine zj_topi (nI (3 * o)) (pk_mul _ _) ?_
  refine zj_iadd C dX8_takeOut_16 ?_
  refine zj_topi (nI (kd + 1 + (3 * o))) (nI_add _ _) ?_
  refine zj_istore_n C (L' := [(3, .int (nI (kd + 1 + (3 * o)))), (0, .ref (m 0)), (1, .int (nI kd)), (2, .int (nI o))]) dX8_takeOut_17 rfl (by decide) rfl ?_
  have loop_18 : ∀ (fuel : Nat) (j : Nat), (hj : j ≤ 3 * (zcn S kd - 1 - o)) → 3 * (zcn S kd - 1 - o) - j < fuel → zJ E 4 0 0 (WM cy m (sMs_at S (va_cpy (vp_updL (gMs_at S) kd (((gMs_at S) kd) - 1)) (vp_updL (gMs_at S) kd (((gMs_at S) kd) - 1)) (kd + 1 + (3 * o) + 3) (kd + 1 + (3 * o)) j))) 18 [(0, .ref (m 0)), (1, .int (nI kd)), (2, .int (nI o)), (3, .int (nI (kd + 1 + (3 * o) + j)))] [] := by
    intro fuel
    induction fuel with
    | zero => intro j hj hmu; exact absurd hmu (Nat.not_lt_zero _)
    | succ fuel ih_18 =>
      intro j hj hmu_18
      refine zj_iload_n C dX8_takeOut_18 3 rfl ?_
      refine zj_i2l C dX8_takeOut_19 ?_
      refine zj_topl (lN (kd + 1 + (3 * o) + j)) (nI_l (by omega)) ?_
      refine zj_iload_n C dX8_takeOut_20 1 rfl ?_
      refine zj_iconst C (v := (nI 1)) dX8_takeOut_21 (by decide) ?_
      refine zj_iadd C dX8_takeOut_22 ?_
      refine zj_topi (nI (kd + 1)) (nI_add _ _) ?_
      refine zj_i2l C dX8_takeOut_23 ?_
      refine zj_topl (lN (kd + 1)) (nI_l (by omega)) ?_
      refine zj_ldc2 C dX8_takeOut_24 tg_871 ?_
      refine zj_aload_n C dX8_takeOut_27 0 rfl ?_
      refine zj_get C 0 8 0 (v := .ref (m 1)) inZ8 rfl rfl (by decide) tg_677 rfl dX8_takeOut_28 ?_
      refine zj_iload_n C dX8_takeOut_31 1 rfl ?_
      refine zj_lald C 1 (f := (va_cpy (vp_updL (gMs_at S) kd (((gMs_at S) kd) - 1)) (vp_updL (gMs_at S) kd (((gMs_at S) kd) - 1)) (kd + 1 + (3 * o) + 3) (kd + 1 + (3 * o)) j)) kd (nI_clamp (by omega)) (vp_in_nI (by omega) (by omega)) rfl dX8_takeOut_32 ?_
      refine zj_topl (lN (zcn S kd - 1)) ((zcpy_out _ _ (by omega)).trans ((vp_updL_s _ _ _).trans ((congrArg (fun z => z - 1) hc.1).trans (lN_sub (b := 1) (by omega))))) ?_
      refine zj_lmul C dX8_takeOut_33 ?_
      refine zj_topl (lN (3 * (zcn S kd - 1))) (lN_mul _ _) ?_
      refine zj_ladd C dX8_takeOut_34 ?_
      refine zj_topl (lN ((kd + 1) + (3 * (zcn S kd - 1)))) (lN_add _ _) ?_
      refine zj_lcmp_ge C 59 dX8_takeOut_35 dX8_takeOut_36 (by decide) (fun c => ?_) (fun c => ?_)
      · have c_35 : ((kd + 1) + (3 * (zcn S kd - 1))) ≤ (kd + 1 + (3 * o) + j) := ((lN_le (by omega) (by omega)).mp c)
        obtain rfl : j = 3 * (zcn S kd - 1 - o) := by omega
        exact hret _ _ dX8_takeOut_59
      · have c_35 : ¬ (((kd + 1) + (3 * (zcn S kd - 1))) ≤ (kd + 1 + (3 * o) + j)) := (fun q => c ((lN_le (by omega) (by omega)).mpr q))
        refine zj_aload_n C dX8_takeOut_39 0 rfl ?_
        refine zj_get C 0 8 0 (v := .ref (m 1)) inZ8 rfl rfl (by decide) tg_677 rfl dX8_takeOut_40 ?_
        refine zj_iload_n C dX8_takeOut_43 3 rfl ?_
        refine zj_aload_n C dX8_takeOut_44 0 rfl ?_
        refine zj_get C 0 8 0 (v := .ref (m 1)) inZ8 rfl rfl (by decide) tg_677 rfl dX8_takeOut_45 ?_
        refine zj_iload_n C dX8_takeOut_48 3 rfl ?_
        refine zj_iconst C (v := (nI 3)) dX8_takeOut_49 (by decide) ?_
        refine zj_iadd C dX8_takeOut_50 ?_
        refine zj_topi (nI (kd + 1 + (3 * o) + j + 3)) ((nI_add _ _).trans (congrArg nI (by omega))) ?_
        refine zj_lald C 1 (f := (va_cpy (vp_updL (gMs_at S) kd (((gMs_at S) kd) - 1)) (vp_updL (gMs_at S) kd (((gMs_at S) kd) - 1)) (kd + 1 + (3 * o) + 3) (kd + 1 + (3 * o)) j)) (kd + 1 + (3 * o) + j + 3) (nI_clamp (by omega)) (vp_in_nI (by omega) (by omega)) rfl dX8_takeOut_51 ?_
        refine zj_last C 1 (f := (va_cpy (vp_updL (gMs_at S) kd (((gMs_at S) kd) - 1)) (vp_updL (gMs_at S) kd (((gMs_at S) kd) - 1)) (kd + 1 + (3 * o) + 3) (kd + 1 + (3 * o)) j)) (ws' := (WM cy m (sMs_at S (vp_updL (va_cpy (vp_updL (gMs_at S) kd (((gMs_at S) kd) - 1)) (vp_updL (gMs_at S) kd (((gMs_at S) kd) - 1)) (kd + 1 + (3 * o) + 3) (kd + 1 + (3 * o)) j) (kd + 1 + (3 * o) + j) ((va_cpy (vp_updL (gMs_at S) kd (((gMs_at S) kd) - 1)) (vp_updL (gMs_at S) kd (((gMs_at S) kd) - 1)) (kd + 1 + (3 * o) + 3) (kd + 1 + (3 * o)) j) (kd + 1 + (3 * o) + j + 3)))))) (kd + 1 + (3 * o) + j) (nI_clamp (by omega)) (vp_in_nI (by omega) (by omega)) rfl dX8_takeOut_52 rfl ?_
        refine zj_iinc C (j := 3) (v := (nI (kd + 1 + (3 * o) + j + 1))) (L' := [(3, .int (nI (kd + 1 + (3 * o) + j + 1))), (0, .ref (m 0)), (1, .int (nI kd)), (2, .int (nI o))]) dX8_takeOut_53 rfl (nI_1 _) (by decide) rfl ?_
        refine zj_goto C 18 dX8_takeOut_56 (by decide) ?_
        refine zj_sub (L' := [(0, .ref (m 0)), (1, .int (nI kd)), (2, .int (nI o)), (3, .int (nI (kd + 1 + (3 * o) + j + 1)))]) [1, 2, 3, 0] rfl ?_
        refine zj_eq (ws' := (WM cy m (sMs_at S (va_cpy (vp_updL (gMs_at S) kd (((gMs_at S) kd) - 1)) (vp_updL (gMs_at S) kd (((gMs_at S) kd) - 1)) (kd + 1 + (3 * o) + 3) (kd + 1 + (3 * o)) (j + 1))))) (congrArg (fun z => WM cy m (sMs_at S z)) (zcpy_f _ _ _ rfl rfl)) rfl rfl rfl ?_
        exact ih_18 (j + 1) (by omega) (by omega)
  refine zj_sub (L' := [(0, .ref (m 0)), (1, .int (nI kd)), (2, .int (nI o)), (3, .int (nI (kd + 1 + (3 * o))))]) [1, 2, 3, 0] rfl ?_
  refine zj_eq (ws' := (WM cy m (sMs_at S (va_cpy (vp_updL (gMs_at S) kd (((gMs_at S) kd) - 1)) (vp_updL (gMs_at S) kd (((gMs_at S) kd) - 1)) (kd + 1 + (3 * o) + 3) (kd + 1 + (3 * o)) 0)))) (congrArg (fun z => WM cy m (sMs_at S z)) (zcpy_z _ _ _ _).symm) rfl rfl rfl ?_
  exact loop_18 (3 * (zcn S kd - 1 - o) - 0 + 1) 0 (by omega) (Nat.lt_succ_self _)

set_option maxHeartbeats 4000000 in
set_option maxRecDepth 100000 in
theorem c_X8_putIn (l : Launch) (D : va_G) (cy : Nat → ClassId) (m : Nat → Nat) (kd : Nat) (h : Int32) (much : Int64) (hour : Int32)  (S : zMs) (hk : kd ≤ 122) (hc : zCk S kd) (hc3 : zcn S kd < 20) : zC l yX8_putIn (zW yX8_putIn cX8_putIn 10 (Option.some Jvm.ClassFile.FieldType.long)) { frames := 1, cells := 0, slots := 0, locals := 23 } D cy [.ref (m 0), .int (nI kd), .int h, .long much, .int hour] (WM cy m S) (some (.long (f_X8_day S hour))) (WM cy m (f_X8_putIn S kd h much hour)) := by
  refine zC_of rfl (Nat.le_of_ble_eq_true rfl) (zOk_l _) (fun E C hret => ?_)
  have hc2 := hc.2
  show zJ E 10 0 0 (WM cy m S) 0 [(0, .ref (m 0)), (1, .int (nI kd)), (2, .int h), (3, .long much), (5, .int hour)] []
  refine zj_iload C dX8_putIn_0 4 rfl ?_
  refine zj_i2l C dX8_putIn_2 ?_
  refine zj_aload_n C dX8_putIn_3 0 rfl ?_
  refine zj_get C 0 8 0 (v := .ref (m 1)) inZ8 rfl rfl (by decide) tg_677 rfl dX8_putIn_4 ?_
  refine zj_iconst C (v := (nI 0)) dX8_putIn_7 (by decide) ?_
  refine zj_lald C 1 (f := (gMs_at S)) 0 (by decide) (vp_in_nI (by decide) (by decide)) rfl dX8_putIn_8 ?_
  have J_9 : ∀ (x9_0 : Int64), x9_0 = (if ((gMs_at S) 0) ≤ (hour.toInt64) then (((gMs_at S) 10) + 1) else ((gMs_at S) 10)) → zJ E 10 0 0 (WM cy m S) 32 [(0, .ref (m 0)), (1, .int (nI kd)), (2, .int h), (3, .long much), (5, .int hour)] [.long x9_0] := by
    intro x9_0 hx9_0
    refine zj_lstore C (L' := [(6, .long x9_0), (0, .ref (m 0)), (1, .int (nI kd)), (2, .int h), (3, .long much), (5, .int hour)]) dX8_putIn_32 (by decide) rfl ?_
    refine zj_aload_n C dX8_putIn_34 1 rfl ?_
    refine zj_get C 0 8 0 (v := .ref (m 1)) inZ8 rfl rfl (by decide) tg_677 rfl dX8_putIn_35 ?_
    refine zj_iload_n C dX8_putIn_38 2 rfl ?_
    refine zj_lald C 1 (f := (gMs_at S)) kd (nI_clamp (by omega)) (vp_in_nI (by omega) (by omega)) rfl dX8_putIn_39 ?_
    refine zj_topl (lN (zcn S kd)) hc.1 ?_
    refine zj_l2i C dX8_putIn_40 ?_
    refine zj_topi (nI (zcn S kd)) (lN_i _) ?_
    refine zj_istore C (L' := [(8, .int (nI (zcn S kd))), (6, .long x9_0), (0, .ref (m 0)), (1, .int (nI kd)), (2, .int h), (3, .long much), (5, .int hour)]) dX8_putIn_41 (by decide) rfl ?_
    have loop_43 : ∀ (fuel : Nat) (p : Nat), (hp : p ≤ zcn S kd) → (hpos : zpos x9_0 (fun i => f_X8_ofOrder S kd i 2) (zcn S kd) = zpos x9_0 (fun i => f_X8_ofOrder S kd i 2) p) → p < fuel → zJ E 10 0 0 (WM cy m (sMs_at S (va_cpy (gMs_at S) (gMs_at S) (kd + 1 + (3 * p)) (kd + 1 + (3 * (p + 1))) (3 * (zcn S kd - p))))) 43 [(0, .ref (m 0)), (1, .int (nI kd)), (2, .int h), (3, .long much), (5, .int hour), (6, .long x9_0), (8, .int (nI p))] [] := by
      intro fuel
      induction fuel with
      | zero => intro p hp hpos hmu; exact absurd hmu (Nat.not_lt_zero _)
      | succ fuel ih_43 =>
        intro p hp hpos hmu_43
        refine zj_iload C dX8_putIn_43 6 rfl ?_
        refine zj_if_le C 119 dX8_putIn_45 (by decide) (fun c => ?_) (fun c => ?_)
        · have c_45 : p = 0 := ((zn_le0 (by omega)).mp c)
          refine zj_iload_n C dX8_putIn_119 1 rfl ?_
          refine zj_iconst C (v := (nI 1)) dX8_putIn_120 (by decide) ?_
          refine zj_iadd C dX8_putIn_121 ?_
          refine zj_topi (nI (kd + 1)) (nI_add _ _) ?_
          refine zj_iconst C (v := (nI 3)) dX8_putIn_122 (by decide) ?_
          refine zj_iload C dX8_putIn_123 6 rfl ?_
          refine zj_imul C dX8_putIn_125 ?_
          refine zj_topi (nI (3 * p)) (pk_mul _ _) ?_
          refine zj_iadd C dX8_putIn_126 ?_
          refine zj_topi (nI (kd + 1 + (3 * p))) (nI_add _ _) ?_
          refine zj_istore C (L' := [(9, .int (nI (kd + 1 + (3 * p)))), (0, .ref (m 0)), (1, .int (nI kd)), (2, .int h), (3, .long much), (5, .int hour), (6, .long x9_0), (8, .int (nI p))]) dX8_putIn_127 (by decide) rfl ?_
          refine zj_aload_n C dX8_putIn_129 1 rfl ?_
          refine zj_get C 0 8 0 (v := .ref (m 1)) inZ8 rfl rfl (by decide) tg_677 rfl dX8_putIn_130 ?_
          refine zj_iload C dX8_putIn_133 0 rfl ?_
          refine zj_iconst C (v := (nI 0)) dX8_putIn_135 (by decide) ?_
          refine zj_iadd C dX8_putIn_136 ?_
          refine zj_topi (nI (kd + 1 + (3 * p) + 0)) ((nI_add _ _).trans (congrArg nI (by omega))) ?_
          refine zj_iload_n C dX8_putIn_137 3 rfl ?_
          refine zj_i2l C dX8_putIn_138 ?_
          refine zj_last C 1 (f := (va_cpy (gMs_at S) (gMs_at S) (kd + 1 + (3 * p)) (kd + 1 + (3 * (p + 1))) (3 * (zcn S kd - p)))) (ws' := (WM cy m (sMs_at S (vp_updL (va_cpy (gMs_at S) (gMs_at S) (kd + 1 + (3 * p)) (kd + 1 + (3 * (p + 1))) (3 * (zcn S kd - p))) (kd + 1 + (3 * p) + 0) (h.toInt64))))) (kd + 1 + (3 * p) + 0) (nI_clamp (by omega)) (vp_in_nI (by omega) (by omega)) rfl dX8_putIn_139 rfl ?_
          refine zj_aload_n C dX8_putIn_140 1 rfl ?_
          refine zj_get C 0 8 0 (v := .ref (m 1)) inZ8 rfl rfl (by decide) tg_677 rfl dX8_putIn_141 ?_
          refine zj_iload C dX8_putIn_144 0 rfl ?_
          refine zj_iconst C (v := (nI 1)) dX8_putIn_146 (by decide) ?_
          refine zj_iadd C dX8_putIn_147 ?_
          refine zj_topi (nI (kd + 1 + (3 * p) + 1)) ((nI_add _ _).trans (congrArg nI (by omega))) ?_
          refine zj_lload_n C dX8_putIn_148 4 rfl ?_
          refine zj_last C 1 (f := (vp_updL (va_cpy (gMs_at S) (gMs_at S) (kd + 1 + (3 * p)) (kd + 1 + (3 * (p + 1))) (3 * (zcn S kd - p))) (kd + 1 + (3 * p) + 0) (h.toInt64))) (ws' := (WM cy m (sMs_at S (vp_updL (vp_updL (va_cpy (gMs_at S) (gMs_at S) (kd + 1 + (3 * p)) (kd + 1 + (3 * (p + 1))) (3 * (zcn S kd - p))) (kd + 1 + (3 * p) + 0) (h.toInt64)) (kd + 1 + (3 * p) + 1) much)))) (kd + 1 + (3 * p) + 1) (nI_clamp (by omega)) (vp_in_nI (by omega) (by omega)) rfl dX8_putIn_149 rfl ?_
          refine zj_aload_n C dX8_putIn_150 1 rfl ?_
          refine zj_get C 0 8 0 (v := .ref (m 1)) inZ8 rfl rfl (by decide) tg_677 rfl dX8_putIn_151 ?_
          refine zj_iload C dX8_putIn_154 0 rfl ?_
          refine zj_iconst C (v := (nI 2)) dX8_putIn_156 (by decide) ?_
          refine zj_iadd C dX8_putIn_157 ?_
          refine zj_topi (nI (kd + 1 + (3 * p) + 2)) ((nI_add _ _).trans (congrArg nI (by omega))) ?_
          refine zj_lload C dX8_putIn_158 6 rfl ?_
          refine zj_last C 1 (f := (vp_updL (vp_updL (va_cpy (gMs_at S) (gMs_at S) (kd + 1 + (3 * p)) (kd + 1 + (3 * (p + 1))) (3 * (zcn S kd - p))) (kd + 1 + (3 * p) + 0) (h.toInt64)) (kd + 1 + (3 * p) + 1) much)) (ws' := (WM cy m (sMs_at S (vp_updL (vp_updL (vp_updL (va_cpy (gMs_at S) (gMs_at S) (kd + 1 + (3 * p)) (kd + 1 + (3 * (p + 1))) (3 * (zcn S kd - p))) (kd + 1 + (3 * p) + 0) (h.toInt64)) (kd + 1 + (3 * p) + 1) much) (kd + 1 + (3 * p) + 2) x9_0)))) (kd + 1 + (3 * p) + 2) (nI_clamp (by omega)) (vp_in_nI (by omega) (by omega)) rfl dX8_putIn_160 rfl ?_
          refine zj_aload_n C dX8_putIn_161 1 rfl ?_
          refine zj_get C 0 8 0 (v := .ref (m 1)) inZ8 rfl rfl (by decide) tg_677 rfl dX8_putIn_162 ?_
          refine zj_iload_n C dX8_putIn_165 2 rfl ?_
          refine zj_dup2 C dX8_putIn_166 rfl rfl ?_
          refine zj_lald C 1 (f := (vp_updL (vp_updL (vp_updL (va_cpy (gMs_at S) (gMs_at S) (kd + 1 + (3 * p)) (kd + 1 + (3 * (p + 1))) (3 * (zcn S kd - p))) (kd + 1 + (3 * p) + 0) (h.toInt64)) (kd + 1 + (3 * p) + 1) much) (kd + 1 + (3 * p) + 2) x9_0)) kd (nI_clamp (by omega)) (vp_in_nI (by omega) (by omega)) rfl dX8_putIn_167 ?_
          refine zj_lconst C (v := 1) dX8_putIn_168 (by decide) ?_
          refine zj_ladd C dX8_putIn_169 ?_
          refine zj_last C 1 (f := (vp_updL (vp_updL (vp_updL (va_cpy (gMs_at S) (gMs_at S) (kd + 1 + (3 * p)) (kd + 1 + (3 * (p + 1))) (3 * (zcn S kd - p))) (kd + 1 + (3 * p) + 0) (h.toInt64)) (kd + 1 + (3 * p) + 1) much) (kd + 1 + (3 * p) + 2) x9_0)) (ws' := (WM cy m (sMs_at S (vp_updL (vp_updL (vp_updL (vp_updL (va_cpy (gMs_at S) (gMs_at S) (kd + 1 + (3 * p)) (kd + 1 + (3 * (p + 1))) (3 * (zcn S kd - p))) (kd + 1 + (3 * p) + 0) (h.toInt64)) (kd + 1 + (3 * p) + 1) much) (kd + 1 + (3 * p) + 2) x9_0) kd (((vp_updL (vp_updL (vp_updL (va_cpy (gMs_at S) (gMs_at S) (kd + 1 + (3 * p)) (kd + 1 + (3 * (p + 1))) (3 * (zcn S kd - p))) (kd + 1 + (3 * p) + 0) (h.toInt64)) (kd + 1 + (3 * p) + 1) much) (kd + 1 + (3 * p) + 2) x9_0) kd) + 1))))) kd (nI_clamp (by omega)) (vp_in_nI (by omega) (by omega)) rfl dX8_putIn_170 rfl ?_
          refine zj_lload C dX8_putIn_171 6 rfl ?_
          have hpp : zpos x9_0 (fun i => f_X8_ofOrder S kd i 2) (zcn S kd) = p := by rw [hpos]; subst c_45; rfl
          have ed : f_X8_day S hour = x9_0 := hx9_0.symm
          have e : f_X8_putIn S kd h much hour = (sMs_at S (vp_updL (vp_updL (vp_updL (vp_updL (va_cpy (gMs_at S) (gMs_at S) (kd + 1 + (3 * p)) (kd + 1 + (3 * (p + 1))) (3 * (zcn S kd - p))) (kd + 1 + (3 * p) + 0) (h.toInt64)) (kd + 1 + (3 * p) + 1) much) (kd + 1 + (3 * p) + 2) x9_0) kd (((vp_updL (vp_updL (vp_updL (va_cpy (gMs_at S) (gMs_at S) (kd + 1 + (3 * p)) (kd + 1 + (3 * (p + 1))) (3 * (zcn S kd - p))) (kd + 1 + (3 * p) + 0) (h.toInt64)) (kd + 1 + (3 * p) + 1) much) (kd + 1 + (3 * p) + 2) x9_0) kd) + 1))) := by unfold f_X8_putIn; rw [ed, hpp]; rfl
          rw [e, ed] at hret
          exact hret _ _ dX8_putIn_173
        · have c_45 : ¬ (p = 0) := (fun q => c ((zn_le0 (by omega)).mpr q))
          refine zj_aload_n C dX8_putIn_48 0 rfl ?_
          refine zj_iload_n C dX8_putIn_49 1 rfl ?_
          refine zj_iload C dX8_putIn_50 6 rfl ?_
          refine zj_iconst C (v := (nI 1)) dX8_putIn_52 (by decide) ?_
          refine zj_isub C dX8_putIn_53 ?_
          refine zj_topi (nI (p - 1)) (pk_sub (by omega)) ?_
          refine zj_iconst C (v := (nI 2)) dX8_putIn_54 (by decide) ?_
          refine zj_callV C (nn := 10) (ws' := (WM cy m (sMs_at S (va_cpy (gMs_at S) (gMs_at S) (kd + 1 + (3 * p)) (kd + 1 + (3 * (p + 1))) (3 * (zcn S kd - p)))))) (st := []) (st1 := [.long (f_X8_ofOrder (sMs_at S (va_cpy (gMs_at S) (gMs_at S) (kd + 1 + (3 * p)) (kd + 1 + (3 * (p + 1))) (3 * (zcn S kd - p)))) kd (p - 1) 2)]) 0 8 [0, 1, 2, 3, 4, 5, 6, 7, 8, 9] (c_X8_ofOrder l D cy m kd (p - 1) 2 (sMs_at S (va_cpy (gMs_at S) (gMs_at S) (kd + 1 + (3 * p)) (kd + 1 + (3 * (p + 1))) (3 * (zcn S kd - p)))) (by omega)) (zg_V tg_760 tg_757 tg_759 tgp_18 tg_9) ⟨rfl, hdZ_X8_ofOrder⟩ ⟨rfl, rfl⟩ ⟨by decide, by decide⟩ rfl rfl rfl (by decide) ⟨rfl, rfl⟩ rfl rfl (Nat.le_of_ble_eq_true rfl) dX8_putIn_55 rfl rfl ?_
          refine zj_lload C dX8_putIn_58 5 rfl ?_
          refine zj_lcmp_le C 119 dX8_putIn_60 dX8_putIn_61 (by decide) (fun c => ?_) (fun c => ?_)
          · have c_60 : (f_X8_ofOrder (sMs_at S (va_cpy (gMs_at S) (gMs_at S) (kd + 1 + (3 * p)) (kd + 1 + (3 * (p + 1))) (3 * (zcn S kd - p)))) kd (p - 1) 2) ≤ x9_0 := c
            refine zj_iload_n C dX8_putIn_119 1 rfl ?_
            refine zj_iconst C (v := (nI 1)) dX8_putIn_120 (by decide) ?_
            refine zj_iadd C dX8_putIn_121 ?_
            refine zj_topi (nI (kd + 1)) (nI_add _ _) ?_
            refine zj_iconst C (v := (nI 3)) dX8_putIn_122 (by decide) ?_
            refine zj_iload C dX8_putIn_123 6 rfl ?_
            refine zj_imul C dX8_putIn_125 ?_
            refine zj_topi (nI (3 * p)) (pk_mul _ _) ?_
            refine zj_iadd C dX8_putIn_126 ?_
            refine zj_topi (nI (kd + 1 + (3 * p))) (nI_add _ _) ?_
            refine zj_istore C (L' := [(9, .int (nI (kd + 1 + (3 * p)))), (0, .ref (m 0)), (1, .int (nI kd)), (2, .int h), (3, .long much), (5, .int hour), (6, .long x9_0), (8, .int (nI p))]) dX8_putIn_127 (by decide) rfl ?_
            refine zj_aload_n C dX8_putIn_129 1 rfl ?_
            refine zj_get C 0 8 0 (v := .ref (m 1)) inZ8 rfl rfl (by decide) tg_677 rfl dX8_putIn_130 ?_
            refine zj_iload C dX8_putIn_133 0 rfl ?_
            refine zj_iconst C (v := (nI 0)) dX8_putIn_135 (by decide) ?_
            refine zj_iadd C dX8_putIn_136 ?_
            refine zj_topi (nI (kd + 1 + (3 * p) + 0)) ((nI_add _ _).trans (congrArg nI (by omega))) ?_
            refine zj_iload_n C dX8_putIn_137 3 rfl ?_
            refine zj_i2l C dX8_putIn_138 ?_
            refine zj_last C 1 (f := (va_cpy (gMs_at S) (gMs_at S) (kd + 1 + (3 * p)) (kd + 1 + (3 * (p + 1))) (3 * (zcn S kd - p)))) (ws' := (WM cy m (sMs_at S (vp_updL (va_cpy (gMs_at S) (gMs_at S) (kd + 1 + (3 * p)) (kd + 1 + (3 * (p + 1))) (3 * (zcn S kd - p))) (kd + 1 + (3 * p) + 0) (h.toInt64))))) (kd + 1 + (3 * p) + 0) (nI_clamp (by omega)) (vp_in_nI (by omega) (by omega)) rfl dX8_putIn_139 rfl ?_
            refine zj_aload_n C dX8_putIn_140 1 rfl ?_
            refine zj_get C 0 8 0 (v := .ref (m 1)) inZ8 rfl rfl (by decide) tg_677 rfl dX8_putIn_141 ?_
            refine zj_iload C dX8_putIn_144 0 rfl ?_
            refine zj_iconst C (v := (nI 1)) dX8_putIn_146 (by decide) ?_
            refine zj_iadd C dX8_putIn_147 ?_
            refine zj_topi (nI (kd + 1 + (3 * p) + 1)) ((nI_add _ _).trans (congrArg nI (by omega))) ?_
            refine zj_lload_n C dX8_putIn_148 4 rfl ?_
            refine zj_last C 1 (f := (vp_updL (va_cpy (gMs_at S) (gMs_at S) (kd + 1 + (3 * p)) (kd + 1 + (3 * (p + 1))) (3 * (zcn S kd - p))) (kd + 1 + (3 * p) + 0) (h.toInt64))) (ws' := (WM cy m (sMs_at S (vp_updL (vp_updL (va_cpy (gMs_at S) (gMs_at S) (kd + 1 + (3 * p)) (kd + 1 + (3 * (p + 1))) (3 * (zcn S kd - p))) (kd + 1 + (3 * p) + 0) (h.toInt64)) (kd + 1 + (3 * p) + 1) much)))) (kd + 1 + (3 * p) + 1) (nI_clamp (by omega)) (vp_in_nI (by omega) (by omega)) rfl dX8_putIn_149 rfl ?_
            refine zj_aload_n C dX8_putIn_150 1 rfl ?_
            refine zj_get C 0 8 0 (v := .ref (m 1)) inZ8 rfl rfl (by decide) tg_677 rfl dX8_putIn_151 ?_
            refine zj_iload C dX8_putIn_154 0 rfl ?_
            refine zj_iconst C (v := (nI 2)) dX8_putIn_156 (by decide) ?_
            refine zj_iadd C dX8_putIn_157 ?_
            refine zj_topi (nI (kd + 1 + (3 * p) + 2)) ((nI_add _ _).trans (congrArg nI (by omega))) ?_
            refine zj_lload C dX8_putIn_158 6 rfl ?_
            refine zj_last C 1 (f := (vp_updL (vp_updL (va_cpy (gMs_at S) (gMs_at S) (kd + 1 + (3 * p)) (kd + 1 + (3 * (p + 1))) (3 * (zcn S kd - p))) (kd + 1 + (3 * p) + 0) (h.toInt64)) (kd + 1 + (3 * p) + 1) much)) (ws' := (WM cy m (sMs_at S (vp_updL (vp_updL (vp_updL (va_cpy (gMs_at S) (gMs_at S) (kd + 1 + (3 * p)) (kd + 1 + (3 * (p + 1))) (3 * (zcn S kd - p))) (kd + 1 + (3 * p) + 0) (h.toInt64)) (kd + 1 + (3 * p) + 1) much) (kd + 1 + (3 * p) + 2) x9_0)))) (kd + 1 + (3 * p) + 2) (nI_clamp (by omega)) (vp_in_nI (by omega) (by omega)) rfl dX8_putIn_160 rfl ?_
            refine zj_aload_n C dX8_putIn_161 1 rfl ?_
            refine zj_get C 0 8 0 (v := .ref (m 1)) inZ8 rfl rfl (by decide) tg_677 rfl dX8_putIn_162 ?_
            refine zj_iload_n C dX8_putIn_165 2 rfl ?_
            refine zj_dup2 C dX8_putIn_166 rfl rfl ?_
            refine zj_lald C 1 (f := (vp_updL (vp_updL (vp_updL (va_cpy (gMs_at S) (gMs_at S) (kd + 1 + (3 * p)) (kd + 1 + (3 * (p + 1))) (3 * (zcn S kd - p))) (kd + 1 + (3 * p) + 0) (h.toInt64)) (kd + 1 + (3 * p) + 1) much) (kd + 1 + (3 * p) + 2) x9_0)) kd (nI_clamp (by omega)) (vp_in_nI (by omega) (by omega)) rfl dX8_putIn_167 ?_
            refine zj_lconst C (v := 1) dX8_putIn_168 (by decide) ?_
            refine zj_ladd C dX8_putIn_169 ?_
            refine zj_last C 1 (f := (vp_updL (vp_updL (vp_updL (va_cpy (gMs_at S) (gMs_at S) (kd + 1 + (3 * p)) (kd + 1 + (3 * (p + 1))) (3 * (zcn S kd - p))) (kd + 1 + (3 * p) + 0) (h.toInt64)) (kd + 1 + (3 * p) + 1) much) (kd + 1 + (3 * p) + 2) x9_0)) (ws' := (WM cy m (sMs_at S (vp_updL (vp_updL (vp_updL (vp_updL (va_cpy (gMs_at S) (gMs_at S) (kd + 1 + (3 * p)) (kd + 1 + (3 * (p + 1))) (3 * (zcn S kd - p))) (kd + 1 + (3 * p) + 0) (h.toInt64)) (kd + 1 + (3 * p) + 1) much) (kd + 1 + (3 * p) + 2) x9_0) kd (((vp_updL (vp_updL (vp_updL (va_cpy (gMs_at S) (gMs_at S) (kd + 1 + (3 * p)) (kd + 1 + (3 * (p + 1))) (3 * (zcn S kd - p))) (kd + 1 + (3 * p) + 0) (h.toInt64)) (kd + 1 + (3 * p) + 1) much) (kd + 1 + (3 * p) + 2) x9_0) kd) + 1))))) kd (nI_clamp (by omega)) (vp_in_nI (by omega) (by omega)) rfl dX8_putIn_170 rfl ?_
            refine zj_lload C dX8_putIn_171 6 rfl ?_
            have hpp : zpos x9_0 (fun i => f_X8_ofOrder S kd i 2) (zcn S kd) = p := by rw [hpos]; obtain ⟨q, rfl⟩ : ∃ q, p = q + 1 := ⟨p - 1, by omega⟩; unfold zpos; rw [if_pos]; have c9 := c_60; unfold f_X8_ofOrder at c9 ⊢; have c8 := le_of_eq_of_le (zcpy_out (sp := kd + 1 + 3 * (q + 1)) (dp := kd + 1 + 3 * (q + 1 + 1)) (n := 3 * (zcn S kd - (q + 1))) (i := kd + 1 + 3 * (q + 1 - 1) + 2) (gMs_at S) (gMs_at S) (by omega)).symm c9; exact c8
            have ed : f_X8_day S hour = x9_0 := hx9_0.symm
            have e : f_X8_putIn S kd h much hour = (sMs_at S (vp_updL (vp_updL (vp_updL (vp_updL (va_cpy (gMs_at S) (gMs_at S) (kd + 1 + (3 * p)) (kd + 1 + (3 * (p + 1))) (3 * (zcn S kd - p))) (kd + 1 + (3 * p) + 0) (h.toInt64)) (kd + 1 + (3 * p) + 1) much) (kd + 1 + (3 * p) + 2) x9_0) kd (((vp_updL (vp_updL (vp_updL (va_cpy (gMs_at S) (gMs_at S) (kd + 1 + (3 * p)) (kd + 1 + (3 * (p + 1))) (3 * (zcn S kd - p))) (kd + 1 + (3 * p) + 0) (h.toInt64)) (kd + 1 + (3 * p) + 1) much) (kd + 1 + (3 * p) + 2) x9_0) kd) + 1))) := by unfold f_X8_putIn; rw [ed, hpp]; rfl
            rw [e, ed] at hret
            exact hret _ _ dX8_putIn_173
          · have c_60 : ¬ ((f_X8_ofOrder (sMs_at S (va_cpy (gMs_at S) (gMs_at S) (kd + 1 + (3 * p)) (kd + 1 + (3 * (p + 1))) (3 * (zcn S kd - p)))) kd (p - 1) 2) ≤ x9_0) := c
            refine zj_iconst C (v := (nI 0)) dX8_putIn_64 (by decide) ?_
            refine zj_istore C (L' := [(9, .int (nI 0)), (0, .ref (m 0)), (1, .int (nI kd)), (2, .int h), (3, .long much), (5, .int hour), (6, .long x9_0), (8, .int (nI p))]) dX8_putIn_65 (by decide) rfl ?_
            refine zj_iload C dX8_putIn_67 0 rfl ?_
            refine zj_iconst C (v := (nI 3)) dX8_putIn_69 (by decide) ?_
            refine zj_icmp_ge C 113 dX8_putIn_70 (by decide) (fun c => absurd c (by decide)) (fun c => ?_)
            refine zj_aload_n C dX8_putIn_73 1 rfl ?_
            refine zj_get C 0 8 0 (v := .ref (m 1)) inZ8 rfl rfl (by decide) tg_677 rfl dX8_putIn_74 ?_
            refine zj_iload_n C dX8_putIn_77 2 rfl ?_
            refine zj_iconst C (v := (nI 1)) dX8_putIn_78 (by decide) ?_
            refine zj_iadd C dX8_putIn_79 ?_
            refine zj_topi (nI (kd + 1)) (nI_add _ _) ?_
            refine zj_iconst C (v := (nI 3)) dX8_putIn_80 (by decide) ?_
            refine zj_iload C dX8_putIn_81 7 rfl ?_
            refine zj_imul C dX8_putIn_83 ?_
            refine zj_topi (nI (3 * p)) (pk_mul _ _) ?_
            refine zj_iadd C dX8_putIn_84 ?_
            refine zj_topi (nI (kd + 1 + (3 * p))) (nI_add _ _) ?_
            refine zj_iload C dX8_putIn_85 0 rfl ?_
            refine zj_iadd C dX8_putIn_87 ?_
            refine zj_topi (nI (kd + 1 + (3 * p) + 0)) ((nI_add _ _).trans (congrArg nI (by omega))) ?_
            refine zj_aload_n C dX8_putIn_88 1 rfl ?_
            refine zj_get C 0 8 0 (v := .ref (m 1)) inZ8 rfl rfl (by decide) tg_677 rfl dX8_putIn_89 ?_
            refine zj_iload_n C dX8_putIn_92 2 rfl ?_
            refine zj_iconst C (v := (nI 1)) dX8_putIn_93 (by decide) ?_
            refine zj_iadd C dX8_putIn_94 ?_
            refine zj_topi (nI (kd + 1)) (nI_add _ _) ?_
            refine zj_iconst C (v := (nI 3)) dX8_putIn_95 (by decide) ?_
            refine zj_iload C dX8_putIn_96 7 rfl ?_
            refine zj_iconst C (v := (nI 1)) dX8_putIn_98 (by decide) ?_
            refine zj_isub C dX8_putIn_99 ?_
            refine zj_topi (nI (p - 1)) (pk_sub (by omega)) ?_
            refine zj_imul C dX8_putIn_100 ?_
            refine zj_topi (nI (3 * (p - 1))) (pk_mul _ _) ?_
            refine zj_iadd C dX8_putIn_101 ?_
            refine zj_topi (nI (kd + 1 + (3 * (p - 1)))) (nI_add _ _) ?_
            refine zj_iload C dX8_putIn_102 0 rfl ?_
            refine zj_iadd C dX8_putIn_104 ?_
            refine zj_topi (nI ((kd + 1 + (3 * (p - 1))) + 0)) (nI_add _ _) ?_
            refine zj_lald C 1 (f := (va_cpy (gMs_at S) (gMs_at S) (kd + 1 + (3 * p)) (kd + 1 + (3 * (p + 1))) (3 * (zcn S kd - p)))) ((kd + 1 + (3 * (p - 1))) + 0) (nI_clamp (by omega)) (vp_in_nI (by omega) (by omega)) rfl dX8_putIn_105 ?_
            refine zj_last C 1 (f := (va_cpy (gMs_at S) (gMs_at S) (kd + 1 + (3 * p)) (kd + 1 + (3 * (p + 1))) (3 * (zcn S kd - p)))) (ws' := (WM cy m (sMs_at S (vp_updL (va_cpy (gMs_at S) (gMs_at S) (kd + 1 + (3 * p)) (kd + 1 + (3 * (p + 1))) (3 * (zcn S kd - p))) (kd + 1 + (3 * p) + 0) ((va_cpy (gMs_at S) (gMs_at S) (kd + 1 + (3 * p)) (kd + 1 + (3 * (p + 1))) (3 * (zcn S kd - p))) ((kd + 1 + (3 * (p - 1))) + 0)))))) (kd + 1 + (3 * p) + 0) (nI_clamp (by omega)) (vp_in_nI (by omega) (by omega)) rfl dX8_putIn_106 rfl ?_
            refine zj_iinc C (j := 0) (v := (nI 1)) (L' := [(9, .int (nI 1)), (0, .ref (m 0)), (1, .int (nI kd)), (2, .int h), (3, .long much), (5, .int hour), (6, .long x9_0), (8, .int (nI p))]) dX8_putIn_107 rfl (by decide) (by decide) rfl ?_
            refine zj_goto C 67 dX8_putIn_110 (by decide) ?_
            refine zj_iload C dX8_putIn_67 0 rfl ?_
            refine zj_iconst C (v := (nI 3)) dX8_putIn_69 (by decide) ?_
            refine zj_icmp_ge C 113 dX8_putIn_70 (by decide) (fun c => absurd c (by decide)) (fun c => ?_)
            refine zj_aload_n C dX8_putIn_73 1 rfl ?_
            refine zj_get C 0 8 0 (v := .ref (m 1)) inZ8 rfl rfl (by decide) tg_677 rfl dX8_putIn_74 ?_
            refine zj_iload_n C dX8_putIn_77 2 rfl ?_
            refine zj_iconst C (v := (nI 1)) dX8_putIn_78 (by decide) ?_
            refine zj_iadd C dX8_putIn_79 ?_
            refine zj_topi (nI (kd + 1)) (nI_add _ _) ?_
            refine zj_iconst C (v := (nI 3)) dX8_putIn_80 (by decide) ?_
            refine zj_iload C dX8_putIn_81 7 rfl ?_
            refine zj_imul C dX8_putIn_83 ?_
            refine zj_topi (nI (3 * p)) (pk_mul _ _) ?_
            refine zj_iadd C dX8_putIn_84 ?_
            refine zj_topi (nI (kd + 1 + (3 * p))) (nI_add _ _) ?_
            refine zj_iload C dX8_putIn_85 0 rfl ?_
            refine zj_iadd C dX8_putIn_87 ?_
            refine zj_topi (nI (kd + 1 + (3 * p) + 1)) ((nI_add _ _).trans (congrArg nI (by omega))) ?_
            refine zj_aload_n C dX8_putIn_88 1 rfl ?_
            refine zj_get C 0 8 0 (v := .ref (m 1)) inZ8 rfl rfl (by decide) tg_677 rfl dX8_putIn_89 ?_
            refine zj_iload_n C dX8_putIn_92 2 rfl ?_
            refine zj_iconst C (v := (nI 1)) dX8_putIn_93 (by decide) ?_
            refine zj_iadd C dX8_putIn_94 ?_
            refine zj_topi (nI (kd + 1)) (nI_add _ _) ?_
            refine zj_iconst C (v := (nI 3)) dX8_putIn_95 (by decide) ?_
            refine zj_iload C dX8_putIn_96 7 rfl ?_
            refine zj_iconst C (v := (nI 1)) dX8_putIn_98 (by decide) ?_
            refine zj_isub C dX8_putIn_99 ?_
            refine zj_topi (nI (p - 1)) (pk_sub (by omega)) ?_
            refine zj_imul C dX8_putIn_100 ?_
            refine zj_topi (nI (3 * (p - 1))) (pk_mul _ _) ?_
            refine zj_iadd C dX8_putIn_101 ?_
            refine zj_topi (nI (kd + 1 + (3 * (p - 1)))) (nI_add _ _) ?_
            refine zj_iload C dX8_putIn_102 0 rfl ?_
            refine zj_iadd C dX8_putIn_104 ?_
            refine zj_topi (nI ((kd + 1 + (3 * (p - 1))) + 1)) (nI_add _ _) ?_
            refine zj_lald C 1 (f := (vp_updL (va_cpy (gMs_at S) (gMs_at S) (kd + 1 + (3 * p)) (kd + 1 + (3 * (p + 1))) (3 * (zcn S kd - p))) (kd + 1 + (3 * p) + 0) ((va_cpy (gMs_at S) (gMs_at S) (kd + 1 + (3 * p)) (kd + 1 + (3 * (p + 1))) (3 * (zcn S kd - p))) ((kd + 1 + (3 * (p - 1))) + 0)))) ((kd + 1 + (3 * (p - 1))) + 1) (nI_clamp (by omega)) (vp_in_nI (by omega) (by omega)) rfl dX8_putIn_105 ?_
            refine zj_last C 1 (f := (vp_updL (va_cpy (gMs_at S) (gMs_at S) (kd + 1 + (3 * p)) (kd + 1 + (3 * (p + 1))) (3 * (zcn S kd - p))) (kd + 1 + (3 * p) + 0) ((va_cpy (gMs_at S) (gMs_at S) (kd + 1 + (3 * p)) (kd + 1 + (3 * (p + 1))) (3 * (zcn S kd - p))) ((kd + 1 + (3 * (p - 1))) + 0)))) (ws' := (WM cy m (sMs_at S (vp_updL (vp_updL (va_cpy (gMs_at S) (gMs_at S) (kd + 1 + (3 * p)) (kd + 1 + (3 * (p + 1))) (3 * (zcn S kd - p))) (kd + 1 + (3 * p) + 0) ((va_cpy (gMs_at S) (gMs_at S) (kd + 1 + (3 * p)) (kd + 1 + (3 * (p + 1))) (3 * (zcn S kd - p))) ((kd + 1 + (3 * (p - 1))) + 0))) (kd + 1 + (3 * p) + 1) ((vp_updL (va_cpy (gMs_at S) (gMs_at S) (kd + 1 + (3 * p)) (kd + 1 + (3 * (p + 1))) (3 * (zcn S kd - p))) (kd + 1 + (3 * p) + 0) ((va_cpy (gMs_at S) (gMs_at S) (kd + 1 + (3 * p)) (kd + 1 + (3 * (p + 1))) (3 * (zcn S kd - p))) ((kd + 1 + (3 * (p - 1))) + 0))) ((kd + 1 + (3 * (p - 1))) + 1)))))) (kd + 1 + (3 * p) + 1) (nI_clamp (by omega)) (vp_in_nI (by omega) (by omega)) rfl dX8_putIn_106 rfl ?_
            refine zj_iinc C (j := 0) (v := (nI 2)) (L' := [(9, .int (nI 2)), (0, .ref (m 0)), (1, .int (nI kd)), (2, .int h), (3, .long much), (5, .int hour), (6, .long x9_0), (8, .int (nI p))]) dX8_putIn_107 rfl (by decide) (by decide) rfl ?_
            refine zj_goto C 67 dX8_putIn_110 (by decide) ?_
            refine zj_iload C dX8_putIn_67 0 rfl ?_
            refine zj_iconst C (v := (nI 3)) dX8_putIn_69 (by decide) ?_
            refine zj_icmp_ge C 113 dX8_putIn_70 (by decide) (fun c => absurd c (by decide)) (fun c => ?_)
            refine zj_aload_n C dX8_putIn_73 1 rfl ?_
            refine zj_get C 0 8 0 (v := .ref (m 1)) inZ8 rfl rfl (by decide) tg_677 rfl dX8_putIn_74 ?_
            refine zj_iload_n C dX8_putIn_77 2 rfl ?_
            refine zj_iconst C (v := (nI 1)) dX8_putIn_78 (by decide) ?_
            refine zj_iadd C dX8_putIn_79 ?_
            refine zj_topi (nI (kd + 1)) (nI_add _ _) ?_
            refine zj_iconst C (v := (nI 3)) dX8_putIn_80 (by decide) ?_
            refine zj_iload C dX8_putIn_81 7 rfl ?_
            refine zj_imul C dX8_putIn_83 ?_
            refine zj_topi (nI (3 * p)) (pk_mul _ _) ?_
            refine zj_iadd C dX8_putIn_84 ?_
            refine zj_topi (nI (kd + 1 + (3 * p))) (nI_add _ _) ?_
            refine zj_iload C dX8_putIn_85 0 rfl ?_
            refine zj_iadd C dX8_putIn_87 ?_
            refine zj_topi (nI (kd + 1 + (3 * p) + 2)) ((nI_add _ _).trans (congrArg nI (by omega))) ?_
            refine zj_aload_n C dX8_putIn_88 1 rfl ?_
            refine zj_get C 0 8 0 (v := .ref (m 1)) inZ8 rfl rfl (by decide) tg_677 rfl dX8_putIn_89 ?_
            refine zj_iload_n C dX8_putIn_92 2 rfl ?_
            refine zj_iconst C (v := (nI 1)) dX8_putIn_93 (by decide) ?_
            refine zj_iadd C dX8_putIn_94 ?_
            refine zj_topi (nI (kd + 1)) (nI_add _ _) ?_
            refine zj_iconst C (v := (nI 3)) dX8_putIn_95 (by decide) ?_
            refine zj_iload C dX8_putIn_96 7 rfl ?_
            refine zj_iconst C (v := (nI 1)) dX8_putIn_98 (by decide) ?_
            refine zj_isub C dX8_putIn_99 ?_
            refine zj_topi (nI (p - 1)) (pk_sub (by omega)) ?_
            refine zj_imul C dX8_putIn_100 ?_
            refine zj_topi (nI (3 * (p - 1))) (pk_mul _ _) ?_
            refine zj_iadd C dX8_putIn_101 ?_
            refine zj_topi (nI (kd + 1 + (3 * (p - 1)))) (nI_add _ _) ?_
            refine zj_iload C dX8_putIn_102 0 rfl ?_
            refine zj_iadd C dX8_putIn_104 ?_
            refine zj_topi (nI ((kd + 1 + (3 * (p - 1))) + 2)) (nI_add _ _) ?_
            refine zj_lald C 1 (f := (vp_updL (vp_updL (va_cpy (gMs_at S) (gMs_at S) (kd + 1 + (3 * p)) (kd + 1 + (3 * (p + 1))) (3 * (zcn S kd - p))) (kd + 1 + (3 * p) + 0) ((va_cpy (gMs_at S) (gMs_at S) (kd + 1 + (3 * p)) (kd + 1 + (3 * (p + 1))) (3 * (zcn S kd - p))) ((kd + 1 + (3 * (p - 1))) + 0))) (kd + 1 + (3 * p) + 1) ((vp_updL (va_cpy (gMs_at S) (gMs_at S) (kd + 1 + (3 * p)) (kd + 1 + (3 * (p + 1))) (3 * (zcn S kd - p))) (kd + 1 + (3 * p) + 0) ((va_cpy (gMs_at S) (gMs_at S) (kd + 1 + (3 * p)) (kd + 1 + (3 * (p + 1))) (3 * (zcn S kd - p))) ((kd + 1 + (3 * (p - 1))) + 0))) ((kd + 1 + (3 * (p - 1))) + 1)))) ((kd + 1 + (3 * (p - 1))) + 2) (nI_clamp (by omega)) (vp_in_nI (by omega) (by omega)) rfl dX8_putIn_105 ?_
            refine zj_last C 1 (f := (vp_updL (vp_updL (va_cpy (gMs_at S) (gMs_at S) (kd + 1 + (3 * p)) (kd + 1 + (3 * (p + 1))) (3 * (zcn S kd - p))) (kd + 1 + (3 * p) + 0) ((va_cpy (gMs_at S) (gMs_at S) (kd + 1 + (3 * p)) (kd + 1 + (3 * (p + 1))) (3 * (zcn S kd - p))) ((kd + 1 + (3 * (p - 1))) + 0))) (kd + 1 + (3 * p) + 1) ((vp_updL (va_cpy (gMs_at S) (gMs_at S) (kd + 1 + (3 * p)) (kd + 1 + (3 * (p + 1))) (3 * (zcn S kd - p))) (kd + 1 + (3 * p) + 0) ((va_cpy (gMs_at S) (gMs_at S) (kd + 1 + (3 * p)) (kd + 1 + (3 * (p + 1))) (3 * (zcn S kd - p))) ((kd + 1 + (3 * (p - 1))) + 0))) ((kd + 1 + (3 * (p - 1))) + 1)))) (ws' := (WM cy m (sMs_at S (vp_updL (vp_updL (vp_updL (va_cpy (gMs_at S) (gMs_at S) (kd + 1 + (3 * p)) (kd + 1 + (3 * (p + 1))) (3 * (zcn S kd - p))) (kd + 1 + (3 * p) + 0) ((va_cpy (gMs_at S) (gMs_at S) (kd + 1 + (3 * p)) (kd + 1 + (3 * (p + 1))) (3 * (zcn S kd - p))) ((kd + 1 + (3 * (p - 1))) + 0))) (kd + 1 + (3 * p) + 1) ((vp_updL (va_cpy (gMs_at S) (gMs_at S) (kd + 1 + (3 * p)) (kd + 1 + (3 * (p + 1))) (3 * (zcn S kd - p))) (kd + 1 + (3 * p) + 0) ((va_cpy (gMs_at S) (gMs_at S) (kd + 1 + (3 * p)) (kd + 1 + (3 * (p + 1))) (3 * (zcn S kd - p))) ((kd + 1 + (3 * (p - 1))) + 0))) ((kd + 1 + (3 * (p - 1))) + 1))) (kd + 1 + (3 * p) + 2) ((vp_updL (vp_updL (va_cpy (gMs_at S) (gMs_at S) (kd + 1 + (3 * p)) (kd + 1 + (3 * (p + 1))) (3 * (zcn S kd - p))) (kd + 1 + (3 * p) + 0) ((va_cpy (gMs_at S) (gMs_at S) (kd + 1 + (3 * p)) (kd + 1 + (3 * (p + 1))) (3 * (zcn S kd - p))) ((kd + 1 + (3 * (p - 1))) + 0))) (kd + 1 + (3 * p) + 1) ((vp_updL (va_cpy (gMs_at S) (gMs_at S) (kd + 1 + (3 * p)) (kd + 1 + (3 * (p + 1))) (3 * (zcn S kd - p))) (kd + 1 + (3 * p) + 0) ((va_cpy (gMs_at S) (gMs_at S) (kd + 1 + (3 * p)) (kd + 1 + (3 * (p + 1))) (3 * (zcn S kd - p))) ((kd + 1 + (3 * (p - 1))) + 0))) ((kd + 1 + (3 * (p - 1))) + 1))) ((kd + 1 + (3 * (p - 1))) + 2)))))) (kd + 1 + (3 * p) + 2) (nI_clamp (by omega)) (vp_in_nI (by omega) (by omega)) rfl dX8_putIn_106 rfl ?_
            refine zj_iinc C (j := 0) (v := (nI 3)) (L' := [(9, .int (nI 3)), (0, .ref (m 0)), (1, .int (nI kd)), (2, .int h), (3, .long much), (5, .int hour), (6, .long x9_0), (8, .int (nI p))]) dX8_putIn_107 rfl (by decide) (by decide) rfl ?_
            refine zj_goto C 67 dX8_putIn_110 (by decide) ?_
            refine zj_iload C dX8_putIn_67 0 rfl ?_
            refine zj_iconst C (v := (nI 3)) dX8_putIn_69 (by decide) ?_
            refine zj_icmp_ge C 113 dX8_putIn_70 (by decide) (fun c => ?_) (fun c => absurd (by decide) c)
            refine zj_iinc C (j := 7) (v := (nI (p - 1))) (L' := [(8, .int (nI (p - 1))), (9, .int (nI 3)), (0, .ref (m 0)), (1, .int (nI kd)), (2, .int h), (3, .long much), (5, .int hour), (6, .long x9_0)]) dX8_putIn_113 rfl (zI_pred (by omega)) (by decide) rfl ?_
            refine zj_goto C 43 dX8_putIn_116 (by decide) ?_
            refine zj_sub (L' := [(0, .ref (m 0)), (1, .int (nI kd)), (2, .int h), (3, .long much), (5, .int hour), (6, .long x9_0), (8, .int (nI (p - 1)))]) [2, 3, 4, 5, 6, 7, 0] rfl ?_
            refine zj_eq (ws' := (WM cy m (sMs_at S (va_cpy (gMs_at S) (gMs_at S) (kd + 1 + (3 * (p - 1))) (kd + 1 + (3 * ((p - 1) + 1))) (3 * (zcn S kd - (p - 1))))))) (congrArg (fun z => WM cy m (sMs_at S z)) (zput_step _ _ _ _ c_45 hp)) rfl rfl rfl ?_
            exact ih_43 (p - 1) (by omega) (by rw [hpos]; obtain ⟨q, rfl⟩ : ∃ q, p = q + 1 := ⟨p - 1, by omega⟩; exact zpos_no (fun h => c_60 (le_of_eq_of_le (zcpy_out (sp := kd + 1 + 3 * (q + 1)) (dp := kd + 1 + 3 * (q + 1 + 1)) (n := 3 * (zcn S kd - (q + 1))) (i := kd + 1 + 3 * (q + 1 - 1) + 2) (gMs_at S) (gMs_at S) (by omega)) h))) (by omega)
    refine zj_sub (L' := [(0, .ref (m 0)), (1, .int (nI kd)), (2, .int h), (3, .long much), (5, .int hour), (6, .long x9_0), (8, .int (nI (zcn S kd)))]) [2, 3, 4, 5, 6, 1, 0] rfl ?_
    refine zj_eq (ws' := (WM cy m (sMs_at S (va_cpy (gMs_at S) (gMs_at S) (kd + 1 + (3 * (zcn S kd))) (kd + 1 + (3 * ((zcn S kd) + 1))) (3 * (zcn S kd - (zcn S kd))))))) (congrArg (fun z => WM cy m (sMs_at S z)) (by rw [Nat.sub_self]; exact (zcpy_z _ _ _ _).symm)) rfl rfl rfl ?_
    exact loop_43 ((zcn S kd) + 1) (zcn S kd) (Nat.le_refl _) rfl (Nat.lt_succ_self _)
  refine zj_lcmp_ge C 23 dX8_putIn_9 dX8_putIn_10 (by decide) (fun c => ?_) (fun c => ?_)
  · have c_9 : ((gMs_at S) 0) ≤ (hour.toInt64) := c
    refine zj_aload_n C dX8_putIn_23 0 rfl ?_
    refine zj_get C 0 8 0 (v := .ref (m 1)) inZ8 rfl rfl (by decide) tg_677 rfl dX8_putIn_24 ?_
    refine zj_bipush C (v := (nI 10)) dX8_putIn_27 (by decide) ?_
    refine zj_lald C 1 (f := (gMs_at S)) 10 (by decide) (vp_in_nI (by decide) (by decide)) rfl dX8_putIn_29 ?_
    refine zj_lconst C (v := 1) dX8_putIn_30 (by decide) ?_
    refine zj_ladd C dX8_putIn_31 ?_
    exact J_9 (((gMs_at S) 10) + 1) (by simp only [if_pos c_9]; first | done | assumption)
  · have c_9 : ¬ (((gMs_at S) 0) ≤ (hour.toInt64)) := c
    refine zj_aload_n C dX8_putIn_13 0 rfl ?_
    refine zj_get C 0 8 0 (v := .ref (m 1)) inZ8 rfl rfl (by decide) tg_677 rfl dX8_putIn_14 ?_
    refine zj_bipush C (v := (nI 10)) dX8_putIn_17 (by decide) ?_
    refine zj_lald C 1 (f := (gMs_at S)) 10 (by decide) (vp_in_nI (by decide) (by decide)) rfl dX8_putIn_19 ?_
    refine zj_goto C 32 dX8_putIn_20 (by decide) ?_
    exact J_9 ((gMs_at S) 10) (by simp only [if_neg c_9]; first | done | assumption)
