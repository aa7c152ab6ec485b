def f_X8_in (v : Int64) (low : Int64) (high : Int64) : Bool :=
  let x_2 : Bool := (if v < low then false else (if high < v then false else true))
  x_2
set_option maxHeartbeats 4000000 in
set_option maxRecDepth 100000 in
theorem c_X8_in (l : Launch) (D : va_G) (cy : Nat → ClassId) (v : Int64) (low : Int64) (high : Int64)    : zC l yX8_in (zW yX8_in cX8_in 6 (Option.some Jvm.ClassFile.FieldType.boolean)) { frames := 0, cells := 0, slots := 0, locals := 0 } D cy [.long v, .long low, .long high] ([] : va_W) (some (.int (zB (f_X8_in v low high)))) ([] : va_W) := by
  refine zC_of rfl (Nat.le_of_ble_eq_true rfl) (zOk_z (zB_01 _)) (fun E C hret => ?_)
  show zJ E 6 0 0 ([] : va_W) 0 [(0, .long v), (2, .long low), (4, .long high)] []
  refine zj_lload_n C dX8_in_0 0 rfl ?_
  refine zj_lload_n C dX8_in_1 1 rfl ?_
  have J_2 : ∀ (x_2 : Bool), x_2 = (if v < low then false else (if high < v then false else true)) → zJ E 6 0 0 ([] : va_W) 18 [(0, .long v), (2, .long low), (4, .long high)] [.int (zB x_2)] := by
    intro x_2 hx_2
    subst hx_2
    have e : f_X8_in v low high = (if v < low then false else (if high < v then false else true)) := by rfl
    rw [e] at hret
    exact hret _ _ dX8_in_18
  refine zj_lcmp_lt C 17 dX8_in_2 dX8_in_3 (by decide) (fun c => ?_) (fun c => ?_)
  · have c_2 : v < low := c
    refine zj_iconst C (v := (nI 0)) dX8_in_17 (by decide) ?_
    exact J_2 false (by simp only [if_pos c_2]; first | done | assumption)
  · have c_2 : ¬ (v < low) := c
    refine zj_lload_n C dX8_in_6 0 rfl ?_
    refine zj_lload C dX8_in_7 2 rfl ?_
    have J_9 : ∀ (x_3 : Bool), x_3 = (if high < v then false else true) → zJ E 6 0 0 ([] : va_W) 18 [(0, .long v), (2, .long low), (4, .long high)] [.int (zB x_3)] := by
      intro x_3 hx_3
      exact J_2 x_3 (by simp only [if_neg c_2]; first | done | assumption)
    refine zj_lcmp_gt C 17 dX8_in_9 dX8_in_10 (by decide) (fun c => ?_) (fun c => ?_)
    · have c_9 : high < v := c
      refine zj_iconst C (v := (nI 0)) dX8_in_17 (by decide) ?_
      exact J_9 false (by simp only [if_neg c_2, if_pos c_9]; first | done | assumption)
    · have c_9 : ¬ (high < v) := c
      refine zj_iconst C (v := (nI 1)) dX8_in_13 (by decide) ?_
      refine zj_goto C 18 dX8_in_14 (by decide) ?_
      exact J_9 true (by simp only [if_neg c_2, if_neg c_9]; first | done | assumption)

def f_X8_isHolder (h : Int32) : Bool :=
  (f_X8_in (h.toInt64) 0 5)
set_option maxHeartbeats 4000000 in
set_option maxRecDepth 100000 in
theorem c_X8_isHolder (l : Launch) (D : va_G) (cy : Nat → ClassId) (h : Int32)    : zC l yX8_isHolder (zW yX8_isHolder cX8_isHolder 1 (Option.some Jvm.ClassFile.FieldType.boolean)) { frames := 1, cells := 0, slots := 0, locals := 25 } D cy [.int h] ([] : va_W) (some (.int (zB (f_X8_isHolder h)))) ([] : va_W) := by
  refine zC_of rfl (Nat.le_of_ble_eq_true rfl) (zOk_z (zB_01 _)) (fun E C hret => ?_)
  show zJ E 1 0 0 ([] : va_W) 0 [(0, .int h)] []
  refine zj_iload_n C dX8_isHolder_0 0 rfl ?_
  refine zj_i2l C dX8_isHolder_1 ?_
  refine zj_lconst C (v := 0) dX8_isHolder_2 (by decide) ?_
  refine zj_ldc2 C dX8_isHolder_3 tg_674 ?_
  refine zj_callS C (ws' := ([] : va_W)) (st := []) (st1 := [.int (zB (f_X8_in (h.toInt64) 0 5))]) [] (c_X8_in l D cy (h.toInt64) 0 5  ) tg_730 tg_728 tg_729 tg_9 hdZ_X8_in ⟨rfl, rfl⟩ ⟨by decide, by decide⟩ rfl (by decide) rfl rfl rfl (Nat.le_of_ble_eq_true rfl) dX8_isHolder_6 rfl rfl ?_
  have e : f_X8_isHolder h = (f_X8_in (h.toInt64) 0 5) := by rfl
  rw [e] at hret
  exact hret _ _ dX8_isHolder_9

def f_X8_of (S : zMs) (h : Nat) (w : Nat) : Int64 :=
  ((gMs_at S) (19 + (7 * h) + w))
set_option maxHeartbeats 4000000 in
set_option maxRecDepth 100000 in
theorem c_X8_of (l : Launch) (D : va_G) (cy : Nat → ClassId) (m : Nat → Nat) (h : Nat) (w : Nat)  (S : zMs) (hh : h < 6) (hw : w < 7) : zC l yX8_of (zW yX8_of cX8_of 3 (Option.some Jvm.ClassFile.FieldType.long)) { frames := 0, cells := 0, slots := 0, locals := 0 } D cy [.ref (m 0), .int (nI h), .int (nI w)] (WM cy m S) (some (.long (f_X8_of S h w))) (WM cy m S) := by
  refine zC_of rfl (Nat.le_of_ble_eq_true rfl) (zOk_l _) (fun E C hret => ?_)
  show zJ E 3 0 0 (WM cy m S) 0 [(0, .ref (m 0)), (1, .int (nI h)), (2, .int (nI w))] []
  refine zj_aload_n C dX8_of_0 0 rfl ?_
  refine zj_get C 0 8 0 (v := .ref (m 1)) inZ8 rfl rfl (by decide) tg_677 rfl dX8_of_1 ?_
  refine zj_bipush C (v := (nI 19)) dX8_of_4 (by decide) ?_
  refine zj_bipush C (v := (nI 7)) dX8_of_6 (by decide) ?_
  refine zj_iload_n C dX8_of_8 1 rfl ?_
  refine zj_imul C dX8_of_9 ?_
  refine zj_topi (nI (7 * h)) (pk_mul _ _) ?_
  refine zj_iadd C dX8_of_10 ?_
  refine zj_topi (nI (19 + (7 * h))) (nI_add _ _) ?_
  refine zj_iload_n C dX8_of_11 2 rfl ?_
  refine zj_iadd C dX8_of_12 ?_
  refine zj_topi (nI (19 + (7 * h) + w)) (nI_add _ _) ?_
  refine zj_lald C 1 (f := (gMs_at S)) (19 + (7 * h) + w) (nI_clamp (by omega)) (vp_in_nI (by omega) (by omega)) rfl dX8_of_13 ?_
  have e : f_X8_of S h w = ((gMs_at S) (19 + (7 * h) + w)) := by rfl
  rw [e] at hret
  exact hret _ _ dX8_of_14

def f_X8_add (S : zMs) (h : Nat) (w : Nat) (by0 : Int64) : zMs :=
  (sMs_at S (vp_updL (gMs_at S) (19 + (7 * h) + w) (((gMs_at S) (19 + (7 * h) + w)) + by0)))
set_option maxHeartbeats 4000000 in
set_option maxRecDepth 100000 in
theorem c_X8_add (l : Launch) (D : va_G) (cy : Nat → ClassId) (m : Nat → Nat) (h : Nat) (w : Nat) (by0 : Int64)  (S : zMs) (hh : h < 6) (hw : w < 7) : zC l yX8_add (zW yX8_add cX8_add 5 (Option.none : Option Jvm.ClassFile.FieldType)) { frames := 0, cells := 0, slots := 0, locals := 0 } D cy [.ref (m 0), .int (nI h), .int (nI w), .long by0] (WM cy m S) none (WM cy m (f_X8_add S h w by0)) := by
  refine zC_of rfl (Nat.le_of_ble_eq_true rfl) zOk_v (fun E C hret => ?_)
  show zJ E 5 0 0 (WM cy m S) 0 [(0, .ref (m 0)), (1, .int (nI h)), (2, .int (nI w)), (3, .long by0)] []
  refine zj_aload_n C dX8_add_0 0 rfl ?_
  refine zj_get C 0 8 0 (v := .ref (m 1)) inZ8 rfl rfl (by decide) tg_677 rfl dX8_add_1 ?_
  refine zj_bipush C (v := (nI 19)) dX8_add_4 (by decide) ?_
  refine zj_bipush C (v := (nI 7)) dX8_add_6 (by decide) ?_
  refine zj_iload_n C dX8_add_8 1 rfl ?_
  refine zj_imul C dX8_add_9 ?_
  refine zj_topi (nI (7 * h)) (pk_mul _ _) ?_
  refine zj_iadd C dX8_add_10 ?_
  refine zj_topi (nI (19 + (7 * h))) (nI_add _ _) ?_
  refine zj_iload_n C dX8_add_11 2 rfl ?_
  refine zj_iadd C dX8_add_12 ?_
  refine zj_topi (nI (19 + (7 * h) + w)) (nI_add _ _) ?_
  refine zj_dup2 C dX8_add_13 rfl rfl ?_
  refine zj_lald C 1 (f := (gMs_at S)) (19 + (7 * h) + w) (nI_clamp (by omega)) (vp_in_nI (by omega) (by omega)) rfl dX8_add_14 ?_
  refine zj_lload_n C dX8_add_15 3 rfl ?_
  refine zj_ladd C dX8_add_16 ?_
  refine zj_last C 1 (f := (gMs_at S)) (ws' := (WM cy m (sMs_at S (vp_updL (gMs_at S) (19 + (7 * h) + w) (((gMs_at S) (19 + (7 * h) + w)) + by0))))) (19 + (7 * h) + w) (nI_clamp (by omega)) (vp_in_nI (by omega) (by omega)) rfl dX8_add_17 rfl ?_
  have e : f_X8_add S h w by0 = (sMs_at S (vp_updL (gMs_at S) (19 + (7 * h) + w) (((gMs_at S) (19 + (7 * h) + w)) + by0))) := by rfl
  rw [e] at hret
  exact hret _ _ dX8_add_18

def f_X8_units (S : zMs) (h : Nat) : Int64 :=
  ((f_X8_of S h 0) + (f_X8_of S h 1))
set_option maxHeartbeats 4000000 in
set_option maxRecDepth 100000 in
theorem c_X8_units (l : Launch) (D : va_G) (cy : Nat → ClassId) (m : Nat → Nat) (h : Nat)  (S : zMs) (hh : h < 6) : zC l yX8_units (zW yX8_units cX8_units 2 (Option.some Jvm.ClassFile.FieldType.long)) { frames := 1, cells := 0, slots := 0, locals := 22 } D cy [.ref (m 0), .int (nI h)] (WM cy m S) (some (.long (f_X8_units S h))) (WM cy m S) := by
  refine zC_of rfl (Nat.le_of_ble_eq_true rfl) (zOk_l _) (fun E C hret => ?_)
  show zJ E 2 0 0 (WM cy m S) 0 [(0, .ref (m 0)), (1, .int (nI h))] []
  refine zj_aload_n C dX8_units_0 0 rfl ?_
  refine zj_iload_n C dX8_units_1 1 rfl ?_
  refine zj_iconst C (v := (nI 0)) dX8_units_2 (by decide) ?_
  refine zj_callV C (ws' := (WM cy m S)) (st := []) (st1 := [.long (f_X8_of S h 0)]) 0 8 [0, 1, 2, 3, 4, 5, 6, 7, 8, 9] (c_X8_of l D cy m h 0 S (by omega) (by omega)) (zg_V tg_776 tg_773 tg_775 tgp_21 tg_9) ⟨rfl, hdZ_X8_of⟩ ⟨rfl, rfl⟩ ⟨by decide, by decide⟩ rfl rfl rfl (by decide) rfl rfl rfl (Nat.le_of_ble_eq_true rfl) dX8_units_3 rfl rfl ?_
  refine zj_aload_n C dX8_units_6 0 rfl ?_
  refine zj_iload_n C dX8_units_7 1 rfl ?_
  refine zj_iconst C (v := (nI 1)) dX8_units_8 (by decide) ?_
  refine zj_callV C (ws' := (WM cy m S)) (st := [.long (f_X8_of S h 0)]) (st1 := [.long (f_X8_of S h 1), .long (f_X8_of S h 0)]) 0 8 [0, 1, 2, 3, 4, 5, 6, 7, 8, 9] (c_X8_of l D cy m h 1 S (by omega) (by omega)) (zg_V tg_776 tg_773 tg_775 tgp_21 tg_9) ⟨rfl, hdZ_X8_of⟩ ⟨rfl, rfl⟩ ⟨by decide, by decide⟩ rfl rfl rfl (by decide) rfl rfl rfl (Nat.le_of_ble_eq_true rfl) dX8_units_9 rfl rfl ?_
  refine zj_ladd C dX8_units_12 ?_
  have e : f_X8_units S h = ((f_X8_of S h 0) + (f_X8_of S h 1)) := by rfl
  rw [e] at hret
  exact hret _ _ dX8_units_13

def f_X8_value (S : zMs) : Int64 :=
  (((gMs_at S) 5) + (((gMs_at S) 6) * ((gMs_at S) 7)))
set_option maxHeartbeats 4000000 in
set_option maxRecDepth 100000 in
theorem c_X8_value (l : Launch) (D : va_G) (cy : Nat → ClassId) (m : Nat → Nat)   (S : zMs)  : zC l yX8_value (zW yX8_value cX8_value 1 (Option.some Jvm.ClassFile.FieldType.long)) { frames := 0, cells := 0, slots := 0, locals := 0 } D cy [.ref (m 0)] (WM cy m S) (some (.long (f_X8_value S))) (WM cy m S) := by
  refine zC_of rfl (Nat.le_of_ble_eq_true rfl) (zOk_l _) (fun E C hret => ?_)
  show zJ E 1 0 0 (WM cy m S) 0 [(0, .ref (m 0))] []
  refine zj_aload_n C dX8_value_0 0 rfl ?_
  refine zj_get C 0 8 0 (v := .ref (m 1)) inZ8 rfl rfl (by decide) tg_677 rfl dX8_value_1 ?_
  refine zj_iconst C (v := (nI 5)) dX8_value_4 (by decide) ?_
  refine zj_lald C 1 (f := (gMs_at S)) 5 (by decide) (vp_in_nI (by decide) (by decide)) rfl dX8_value_5 ?_
  refine zj_aload_n C dX8_value_6 0 rfl ?_
  refine zj_get C 0 8 0 (v := .ref (m 1)) inZ8 rfl rfl (by decide) tg_677 rfl dX8_value_7 ?_
  refine zj_bipush C (v := (nI 6)) dX8_value_10 (by decide) ?_
  refine zj_lald C 1 (f := (gMs_at S)) 6 (by decide) (vp_in_nI (by decide) (by decide)) rfl dX8_value_12 ?_
  refine zj_aload_n C dX8_value_13 0 rfl ?_
  refine zj_get C 0 8 0 (v := .ref (m 1)) inZ8 rfl rfl (by decide) tg_677 rfl dX8_value_14 ?_
  refine zj_bipush C (v := (nI 7)) dX8_value_17 (by decide) ?_
  refine zj_lald C 1 (f := (gMs_at S)) 7 (by decide) (vp_in_nI (by decide) (by decide)) rfl dX8_value_19 ?_
  refine zj_lmul C dX8_value_20 ?_
  refine zj_ladd C dX8_value_21 ?_
  have e : f_X8_value S = (((gMs_at S) 5) + (((gMs_at S) 6) * ((gMs_at S) 7))) := by rfl
  rw [e] at hret
  exact hret _ _ dX8_value_22

def f_X8_cost (S : zMs) : Int64 :=
  (((((gMs_at S) 7) * ((gMs_at S) 4)) + 999) / 1000)
set_option maxHeartbeats 4000000 in
set_option maxRecDepth 100000 in
theorem c_X8_cost (l : Launch) (D : va_G) (cy : Nat → ClassId) (m : Nat → Nat)   (S : zMs)  : zC l yX8_cost (zW yX8_cost cX8_cost 1 (Option.some Jvm.ClassFile.FieldType.long)) { frames := 0, cells := 0, slots := 0, locals := 0 } D cy [.ref (m 0)] (WM cy m S) (some (.long (f_X8_cost S))) (WM cy m S) := by
  refine zC_of rfl (Nat.le_of_ble_eq_true rfl) (zOk_l _) (fun E C hret => ?_)
  show zJ E 1 0 0 (WM cy m S) 0 [(0, .ref (m 0))] []
  refine zj_aload_n C dX8_cost_0 0 rfl ?_
  refine zj_get C 0 8 0 (v := .ref (m 1)) inZ8 rfl rfl (by decide) tg_677 rfl dX8_cost_1 ?_
  refine zj_bipush C (v := (nI 7)) dX8_cost_4 (by decide) ?_
  refine zj_lald C 1 (f := (gMs_at S)) 7 (by decide) (vp_in_nI (by decide) (by decide)) rfl dX8_cost_6 ?_
  refine zj_aload_n C dX8_cost_7 0 rfl ?_
  refine zj_get C 0 8 0 (v := .ref (m 1)) inZ8 rfl rfl (by decide) tg_677 rfl dX8_cost_8 ?_
  refine zj_iconst C (v := (nI 4)) dX8_cost_11 (by decide) ?_
  refine zj_lald C 1 (f := (gMs_at S)) 4 (by decide) (vp_in_nI (by decide) (by decide)) rfl dX8_cost_12 ?_
  refine zj_lmul C dX8_cost_13 ?_
  refine zj_ldc2 C dX8_cost_14 tg_866 ?_
  refine zj_ladd C dX8_cost_17 ?_
  refine zj_ldc2 C dX8_cost_18 tg_675 ?_
  refine zj_ldiv C dX8_cost_21 (by decide) ?_
  have e : f_X8_cost S = (((((gMs_at S) 7) * ((gMs_at S) 4)) + 999) / 1000) := by rfl
  rw [e] at hret
  exact hret _ _ dX8_cost_22

def f_X8_ofOrder (S : zMs) (kd : Nat) (o : Nat) (w : Nat) : Int64 :=
  ((gMs_at S) (kd + 1 + (3 * o) + w))
set_option maxHeartbeats 4000000 in
set_option maxRecDepth 100000 in
theorem c_X8_ofOrder (l : Launch) (D : va_G) (cy : Nat → ClassId) (m : Nat → Nat) (kd : Nat) (o : Nat) (w : Nat)  (S : zMs) (hk : kd + 1 + 3 * o + w < 183) : zC l yX8_ofOrder (zW yX8_ofOrder cX8_ofOrder 4 (Option.some Jvm.ClassFile.FieldType.long)) { frames := 0, cells := 0, slots := 0, locals := 0 } D cy [.ref (m 0), .int (nI kd), .int (nI o), .int (nI w)] (WM cy m S) (some (.long (f_X8_ofOrder S kd o w))) (WM cy m S) := by
  refine zC_of rfl (Nat.le_of_ble_eq_true rfl) (zOk_l _) (fun E C hret => ?_)
  show zJ E 4 0 0 (WM cy m S) 0 [(0, .ref (m 0)), (1, .int (nI kd)), (2, .int (nI o)), (3, .int (nI w))] []
  refine zj_aload_n C dX8_ofOrder_0 0 rfl ?_
  refine zj_get C 0 8 0 (v := .ref (m 1)) inZ8 rfl rfl (by decide) tg_677 rfl dX8_ofOrder_1 ?_
  refine zj_iload_n C dX8_ofOrder_4 1 rfl ?_
  refine zj_iconst C (v := (nI 1)) dX8_ofOrder_5 (by decide) ?_
  refine zj_iadd C dX8_ofOrder_6 ?_
  refine zj_topi (nI (kd + 1)) (nI_add _ _) ?_
  refine zj_iconst C (v := (nI 3)) dX8_ofOrder_7 (by decide) ?_
  refine zj_iload_n C dX8_ofOrder_8 2 rfl ?_
  refine zj_imul C dX8_ofOrder_9 ?_
  refine zj_topi (nI (3 * o)) (pk_mul _ _) ?_
  refine zj_iadd C dX8_ofOrder_10 ?_
  refine zj_topi (nI (kd + 1 + (3 * o))) (nI_add _ _) ?_
  refine zj_iload_n C dX8_ofOrder_11 3 rfl ?_
  refine zj_iadd C dX8_ofOrder_12 ?_
  refine zj_topi (nI (kd + 1 + (3 * o) + w)) (nI_add _ _) ?_
  refine zj_lald C 1 (f := (gMs_at S)) (kd + 1 + (3 * o) + w) (nI_clamp (by omega)) (vp_in_nI (by omega) (by omega)) rfl dX8_ofOrder_13 ?_
  have e : f_X8_ofOrder S kd o w = ((gMs_at S) (kd + 1 + (3 * o) + w)) := by rfl
  rw [e] at hret
  exact hret _ _ dX8_ofOrder_14

def f_X8_holdPool (S : zMs) : zMs :=
  let x_1 : Int64 := (if ((gMs_at S) 8) ≤ ((gMs_at S) 5) then ((gMs_at S) 8) else ((gMs_at S) 5))
  (sMs_at S (vp_updL (gMs_at S) 8 x_1))
set_option maxHeartbeats 4000000 in
set_option maxRecDepth 100000 in
theorem c_X8_holdPool (l : Launch) (D : va_G) (cy : Nat → ClassId) (m : Nat → Nat)   (S : zMs)  : zC l yX8_holdPool (zW yX8_holdPool cX8_holdPool 1 (Option.none : Option Jvm.ClassFile.FieldType)) { frames := 0, cells := 0, slots := 0, locals := 0 } D cy [.ref (m 0)] (WM cy m S) none (WM cy m (f_X8_holdPool S)) := by
  refine zC_of rfl (Nat.le_of_ble_eq_true rfl) zOk_v (fun E C hret => ?_)
  show zJ E 1 0 0 (WM cy m S) 0 [(0, .ref (m 0))] []
  refine zj_aload_n C dX8_holdPool_0 0 rfl ?_
  refine zj_get C 0 8 0 (v := .ref (m 1)) inZ8 rfl rfl (by decide) tg_677 rfl dX8_holdPool_1 ?_
  refine zj_bipush C (v := (nI 8)) dX8_holdPool_4 (by decide) ?_
  refine zj_aload_n C dX8_holdPool_6 0 rfl ?_
  refine zj_get C 0 8 0 (v := .ref (m 1)) inZ8 rfl rfl (by decide) tg_677 rfl dX8_holdPool_7 ?_
  refine zj_bipush C (v := (nI 8)) dX8_holdPool_10 (by decide) ?_
  refine zj_lald C 1 (f := (gMs_at S)) 8 (by decide) (vp_in_nI (by decide) (by decide)) rfl dX8_holdPool_12 ?_
  refine zj_aload_n C dX8_holdPool_13 0 rfl ?_
  refine zj_get C 0 8 0 (v := .ref (m 1)) inZ8 rfl rfl (by decide) tg_677 rfl dX8_holdPool_14 ?_
  refine zj_iconst C (v := (nI 5)) dX8_holdPool_17 (by decide) ?_
  refine zj_lald C 1 (f := (gMs_at S)) 5 (by decide) (vp_in_nI (by decide) (by decide)) rfl dX8_holdPool_18 ?_
  have J_19 : ∀ (x_1 : Int64), x_1 = (if ((gMs_at S) 8) ≤ ((gMs_at S) 5) then ((gMs_at S) 8) else ((gMs_at S) 5)) → zJ E 1 0 0 (WM cy m S) 39 [(0, .ref (m 0))] [.long x_1, .int (nI 8), .ref (m 1)] := by
    intro x_1 hx_1
    refine zj_last C 1 (f := (gMs_at S)) (ws' := (WM cy m (sMs_at S (vp_updL (gMs_at S) 8 x_1)))) 8 (by decide) (vp_in_nI (by decide) (by decide)) rfl dX8_holdPool_39 rfl ?_
    subst hx_1
    have e : f_X8_holdPool S = (sMs_at S (vp_updL (gMs_at S) 8 (if ((gMs_at S) 8) ≤ ((gMs_at S) 5) then ((gMs_at S) 8) else ((gMs_at S) 5)))) := by rfl
    rw [e] at hret
    exact hret _ _ dX8_holdPool_40
  refine zj_lcmp_le C 32 dX8_holdPool_19 dX8_holdPool_20 (by decide) (fun c => ?_) (fun c => ?_)
  · have c_19 : ((gMs_at S) 8) ≤ ((gMs_at S) 5) := c
    refine zj_aload_n C dX8_holdPool_32 0 rfl ?_
    refine zj_get C 0 8 0 (v := .ref (m 1)) inZ8 rfl rfl (by decide) tg_677 rfl dX8_holdPool_33 ?_
    refine zj_bipush C (v := (nI 8)) dX8_holdPool_36 (by decide) ?_
    refine zj_lald C 1 (f := (gMs_at S)) 8 (by decide) (vp_in_nI (by decide) (by decide)) rfl dX8_holdPool_38 ?_
    exact J_19 ((gMs_at S) 8) (by simp only [if_pos c_19]; first | done | assumption)
  · have c_19 : ¬ (((gMs_at S) 8) ≤ ((gMs_at S) 5)) := c
    refine zj_aload_n C dX8_holdPool_23 0 rfl ?_
    refine zj_get C 0 8 0 (v := .ref (m 1)) inZ8 rfl rfl (by decide) tg_677 rfl dX8_holdPool_24 ?_
    refine zj_iconst C (v := (nI 5)) dX8_holdPool_27 (by decide) ?_
    refine zj_lald C 1 (f := (gMs_at S)) 5 (by decide) (vp_in_nI (by decide) (by decide)) rfl dX8_holdPool_28 ?_
    refine zj_goto C 39 dX8_holdPool_29 (by decide) ?_
    exact J_19 ((gMs_at S) 5) (by simp only [if_neg c_19]; first | done | assumption)

def f_X8_next (S : zMs) : Int32 :=
  let x_1 : Int32 := (if (gMs_pdm S) ≤ (gMs_sp S) then (nI 0) else ((gMs_pd S) (gMs_sp S)))
  x_1
set_option maxHeartbeats 4000000 in
set_option maxRecDepth 100000 in
theorem c_X8_next (l : Launch) (D : va_G) (cy : Nat → ClassId) (m : Nat → Nat)   (S : zMs) (hp : gMs_pdm S ≤ 80) (hs : gMs_sp S ≤ 80) : zC l yX8_next (zW yX8_next cX8_next 1 (Option.some Jvm.ClassFile.FieldType.int)) { frames := 0, cells := 0, slots := 0, locals := 0 } D cy [.ref (m 0)] (WM cy m S) (some (.int (f_X8_next S))) (WM cy m S) := by
  refine zC_of rfl (Nat.le_of_ble_eq_true rfl) (zOk_i _) (fun E C hret => ?_)
  show zJ E 1 0 0 (WM cy m S) 0 [(0, .ref (m 0))] []
  refine zj_aload_n C dX8_next_0 0 rfl ?_
  refine zj_get C 0 8 10 (v := .int (nI (gMs_sp S))) inZ8 rfl rfl (by decide) tg_687 rfl dX8_next_1 ?_
  refine zj_aload_n C dX8_next_4 0 rfl ?_
  refine zj_get C 0 8 9 (v := .int (nI (gMs_pdm S))) inZ8 rfl rfl (by decide) tg_686 rfl dX8_next_5 ?_
  have J_8 : ∀ (x_1 : Int32), x_1 = (if (gMs_pdm S) ≤ (gMs_sp S) then (nI 0) else ((gMs_pd S) (gMs_sp S))) → zJ E 1 0 0 (WM cy m S) 24 [(0, .ref (m 0))] [.int x_1] := by
    intro x_1 hx_1
    subst hx_1
    have e : f_X8_next S = (if (gMs_pdm S) ≤ (gMs_sp S) then (nI 0) else ((gMs_pd S) (gMs_sp S))) := by rfl
    rw [e] at hret
    exact hret _ _ dX8_next_24
  refine zj_icmp_ge C 23 dX8_next_8 (by decide) (fun c => ?_) (fun c => ?_)
  · have c_8 : (gMs_pdm S) ≤ (gMs_sp S) := ((nI_leI (by omega) (by omega)).mp c)
    refine zj_iconst C (v := (nI 0)) dX8_next_23 (by decide) ?_
    exact J_8 (nI 0) (by simp only [if_pos c_8]; first | done | assumption)
  · have c_8 : ¬ ((gMs_pdm S) ≤ (gMs_sp S)) := (fun q => c ((nI_leI (by omega) (by omega)).mpr q))
    refine zj_aload_n C dX8_next_11 0 rfl ?_
    refine zj_get C 0 8 8 (v := .ref (m 7)) inZ8 rfl rfl (by decide) tg_685 rfl dX8_next_12 ?_
    refine zj_aload_n C dX8_next_15 0 rfl ?_
    refine zj_get C 0 8 10 (v := .int (nI (gMs_sp S))) inZ8 rfl rfl (by decide) tg_687 rfl dX8_next_16 ?_
    refine zj_iald C 7 (f := (gMs_pd S)) (gMs_sp S) (nI_clamp (by omega)) (vp_in_nI (by omega) (by omega)) rfl dX8_next_19 ?_
    refine zj_goto C 24 dX8_next_20 (by decide) ?_
    exact J_8 ((gMs_pd S) (gMs_sp S)) (by simp only [if_neg c_8]; first | done | assumption)
