noncomputable def f_X2_units (x : zHd) : Int64 :=
  ((gHd_old x) + (gHd_new x))
set_option maxHeartbeats 4000000 in
set_option maxRecDepth 100000 in
theorem c_X2_units (l : Launch) (D : va_G) (cy : Nat → ClassId) (h : Nat)  (x : zHd)  : zC l yX2_units (zW yX2_units cX2_units 1 (Option.some Jvm.ClassFile.FieldType.long)) { frames := 0, cells := 0, slots := 0, locals := 0 } D cy [.ref h] (WH h x) (some (.long (f_X2_units x))) (WH h x) := by
  refine zC_of rfl (Nat.le_of_ble_eq_true rfl) (zOk_l _) (fun E C hret => ?_)
  show zJ E 1 0 0 (WH h x) 0 [(0, .ref h)] []
  refine zj_aload_n C dX2_units_0 0 rfl ?_
  refine zj_get C 0 2 0 (v := .long (gHd_old x)) inZ2 rfl rfl (by decide) tg_32 rfl dX2_units_1 ?_
  refine zj_aload_n C dX2_units_4 0 rfl ?_
  refine zj_get C 0 2 1 (v := .long (gHd_new x)) inZ2 rfl rfl (by decide) tg_35 rfl dX2_units_5 ?_
  refine zj_ladd C dX2_units_8 ?_
  have e : f_X2_units x = ((gHd_old x) + (gHd_new x)) := by rfl
  rw [e] at hret
  exact hret _ _ dX2_units_9

set_option maxHeartbeats 4000000 in
set_option maxRecDepth 100000 in
theorem c_X2_become (l : Launch) (D : va_G) (cy : Nat → ClassId) (h g : Nat)  (x : zHd) (y : zHd)  : zC l yX2_become (zW yX2_become cX2_become 2 (Option.none : Option Jvm.ClassFile.FieldType)) { frames := 0, cells := 0, slots := 0, locals := 0 } D cy [.ref h, .ref g] ((WH h x) ++ (WH g y)) none ((WH h y) ++ (WH g y)) := by
  refine zC_of rfl (Nat.le_of_ble_eq_true rfl) zOk_v (fun E C hret => ?_)
  show zJ E 2 0 0 ((WH h x) ++ (WH g y)) 0 [(0, .ref h), (1, .ref g)] []
  refine zj_aload_n C dX2_become_0 0 rfl ?_
  refine zj_aload_n C dX2_become_1 1 rfl ?_
  refine zj_get C 1 2 0 (v := .long (gHd_old y)) inZ2 rfl rfl (by decide) tg_32 rfl dX2_become_2 ?_
  refine zj_toplg (fun V_5 hV_5 => ?_)
  refine zj_put C 0 2 0 (v := .long V_5) (ws' := ((WH h (sHd_old x V_5)) ++ (WH g y))) tyX2 tyX2_ok nmX2 inZ2 rfl rfl (by decide) tg_32 rfl rfl rfl (Nat.le_of_ble_eq_true rfl) dX2_become_5 rfl ?_
  refine zj_aload_n C dX2_become_8 0 rfl ?_
  refine zj_aload_n C dX2_become_9 1 rfl ?_
  refine zj_get C 1 2 1 (v := .long (gHd_new y)) inZ2 rfl rfl (by decide) tg_35 rfl dX2_become_10 ?_
  refine zj_toplg (fun V_13 hV_13 => ?_)
  refine zj_put C 0 2 1 (v := .long V_13) (ws' := ((WH h (sHd_new (sHd_old x V_5) V_13)) ++ (WH g y))) tyX2 tyX2_ok nmX2 inZ2 rfl rfl (by decide) tg_35 rfl rfl rfl (Nat.le_of_ble_eq_true rfl) dX2_become_13 rfl ?_
  refine zj_aload_n C dX2_become_16 0 rfl ?_
  refine zj_aload_n C dX2_become_17 1 rfl ?_
  refine zj_get C 1 2 2 (v := .long (gHd_bought y)) inZ2 rfl rfl (by decide) tg_38 rfl dX2_become_18 ?_
  refine zj_toplg (fun V_21 hV_21 => ?_)
  refine zj_put C 0 2 2 (v := .long V_21) (ws' := ((WH h (sHd_bought (sHd_new (sHd_old x V_5) V_13) V_21)) ++ (WH g y))) tyX2 tyX2_ok nmX2 inZ2 rfl rfl (by decide) tg_38 rfl rfl rfl (Nat.le_of_ble_eq_true rfl) dX2_become_21 rfl ?_
  refine zj_aload_n C dX2_become_24 0 rfl ?_
  refine zj_aload_n C dX2_become_25 1 rfl ?_
  refine zj_get C 1 2 3 (v := .long (gHd_paid y)) inZ2 rfl rfl (by decide) tg_41 rfl dX2_become_26 ?_
  refine zj_toplg (fun V_29 hV_29 => ?_)
  refine zj_put C 0 2 3 (v := .long V_29) (ws' := ((WH h (sHd_paid (sHd_bought (sHd_new (sHd_old x V_5) V_13) V_21) V_29)) ++ (WH g y))) tyX2 tyX2_ok nmX2 inZ2 rfl rfl (by decide) tg_41 rfl rfl rfl (Nat.le_of_ble_eq_true rfl) dX2_become_29 rfl ?_
  refine zj_aload_n C dX2_become_32 0 rfl ?_
  refine zj_aload_n C dX2_become_33 1 rfl ?_
  refine zj_get C 1 2 4 (v := .long (gHd_inc y)) inZ2 rfl rfl (by decide) tg_44 rfl dX2_become_34 ?_
  refine zj_toplg (fun V_37 hV_37 => ?_)
  refine zj_put C 0 2 4 (v := .long V_37) (ws' := ((WH h (sHd_inc (sHd_paid (sHd_bought (sHd_new (sHd_old x V_5) V_13) V_21) V_29) V_37)) ++ (WH g y))) tyX2 tyX2_ok nmX2 inZ2 rfl rfl (by decide) tg_44 rfl rfl rfl (Nat.le_of_ble_eq_true rfl) dX2_become_37 rfl ?_
  refine zj_aload_n C dX2_become_40 0 rfl ?_
  refine zj_aload_n C dX2_become_41 1 rfl ?_
  refine zj_get C 1 2 5 (v := .long (gHd_eve y)) inZ2 rfl rfl (by decide) tg_47 rfl dX2_become_42 ?_
  refine zj_toplg (fun V_45 hV_45 => ?_)
  refine zj_put C 0 2 5 (v := .long V_45) (ws' := ((WH h (sHd_eve (sHd_inc (sHd_paid (sHd_bought (sHd_new (sHd_old x V_5) V_13) V_21) V_29) V_37) V_45)) ++ (WH g y))) tyX2 tyX2_ok nmX2 inZ2 rfl rfl (by decide) tg_47 rfl rfl rfl (Nat.le_of_ble_eq_true rfl) dX2_become_45 rfl ?_
  refine zj_aload_n C dX2_become_48 0 rfl ?_
  refine zj_aload_n C dX2_become_49 1 rfl ?_
  refine zj_get C 1 2 6 (v := .long (gHd_lots y)) inZ2 rfl rfl (by decide) tg_50 rfl dX2_become_50 ?_
  refine zj_toplg (fun V_53 hV_53 => ?_)
  refine zj_put C 0 2 6 (v := .long V_53) (ws' := ((WH h (sHd_lots (sHd_eve (sHd_inc (sHd_paid (sHd_bought (sHd_new (sHd_old x V_5) V_13) V_21) V_29) V_37) V_45) V_53)) ++ (WH g y))) tyX2 tyX2_ok nmX2 inZ2 rfl rfl (by decide) tg_50 rfl rfl rfl (Nat.le_of_ble_eq_true rfl) dX2_become_53 rfl ?_
  subst hV_53
  subst hV_45
  subst hV_37
  subst hV_29
  subst hV_21
  subst hV_13
  subst hV_5
  exact hret _ _ dX2_become_56

set_option maxHeartbeats 4000000 in
set_option maxRecDepth 100000 in
theorem c_X3_become (l : Launch) (D : va_G) (cy : Nat → ClassId) (a b : Nat)  (x : zLd) (y : zLd)  : zC l yX3_become (zW yX3_become cX3_become 2 (Option.none : Option Jvm.ClassFile.FieldType)) { frames := 0, cells := 0, slots := 0, locals := 0 } D cy [.ref a, .ref b] ((WL a x) ++ (WL b y)) none ((WL a y) ++ (WL b y)) := by
  refine zC_of rfl (Nat.le_of_ble_eq_true rfl) zOk_v (fun E C hret => ?_)
  show zJ E 2 0 0 ((WL a x) ++ (WL b y)) 0 [(0, .ref a), (1, .ref b)] []
  refine zj_aload_n C dX3_become_0 0 rfl ?_
  refine zj_aload_n C dX3_become_1 1 rfl ?_
  refine zj_get C 1 3 0 (v := .int (zB (gLd_ended y))) inZ3 rfl rfl (by decide) tg_101 rfl dX3_become_2 ?_
  obtain ⟨V_5, hV_5⟩ : ∃ g : Bool, g = (gLd_ended y) := ⟨_, rfl⟩
  refine zj_topi (zB V_5) (congrArg zB hV_5.symm) ?_
  refine zj_put C 0 3 0 (v := .int (zB V_5)) (ws' := ((WL a (sLd_ended x V_5)) ++ (WL b y))) tyX3 tyX3_ok nmX3 inZ3 rfl rfl (by decide) tg_101 rfl (zB_n _) (zB_f _) (Nat.le_of_ble_eq_true rfl) dX3_become_5 rfl ?_
  refine zj_aload_n C dX3_become_8 0 rfl ?_
  refine zj_aload_n C dX3_become_9 1 rfl ?_
  refine zj_get C 1 3 1 (v := .long (gLd_price y)) inZ3 rfl rfl (by decide) tg_103 rfl dX3_become_10 ?_
  refine zj_toplg (fun V_13 hV_13 => ?_)
  refine zj_put C 0 3 1 (v := .long V_13) (ws' := ((WL a (sLd_price (sLd_ended x V_5) V_13)) ++ (WL b y))) tyX3 tyX3_ok nmX3 inZ3 rfl rfl (by decide) tg_103 rfl rfl rfl (Nat.le_of_ble_eq_true rfl) dX3_become_13 rfl ?_
  refine zj_aload_n C dX3_become_16 0 rfl ?_
  refine zj_aload_n C dX3_become_17 1 rfl ?_
  refine zj_get C 1 3 2 (v := .long (gLd_made y)) inZ3 rfl rfl (by decide) tg_105 rfl dX3_become_18 ?_
  refine zj_toplg (fun V_21 hV_21 => ?_)
  refine zj_put C 0 3 2 (v := .long V_21) (ws' := ((WL a (sLd_made (sLd_price (sLd_ended x V_5) V_13) V_21)) ++ (WL b y))) tyX3 tyX3_ok nmX3 inZ3 rfl rfl (by decide) tg_105 rfl rfl rfl (Nat.le_of_ble_eq_true rfl) dX3_become_21 rfl ?_
  refine zj_aload_n C dX3_become_24 0 rfl ?_
  refine zj_aload_n C dX3_become_25 1 rfl ?_
  refine zj_get C 1 3 3 (v := .long (gLd_left y)) inZ3 rfl rfl (by decide) tg_108 rfl dX3_become_26 ?_
  refine zj_toplg (fun V_29 hV_29 => ?_)
  refine zj_put C 0 3 3 (v := .long V_29) (ws' := ((WL a (sLd_left (sLd_made (sLd_price (sLd_ended x V_5) V_13) V_21) V_29)) ++ (WL b y))) tyX3 tyX3_ok nmX3 inZ3 rfl rfl (by decide) tg_108 rfl rfl rfl (Nat.le_of_ble_eq_true rfl) dX3_become_29 rfl ?_
  refine zj_aload_n C dX3_become_32 0 rfl ?_
  refine zj_aload_n C dX3_become_33 1 rfl ?_
  refine zj_get C 1 3 4 (v := .long (gLd_still y)) inZ3 rfl rfl (by decide) tg_111 rfl dX3_become_34 ?_
  refine zj_toplg (fun V_37 hV_37 => ?_)
  refine zj_put C 0 3 4 (v := .long V_37) (ws' := ((WL a (sLd_still (sLd_left (sLd_made (sLd_price (sLd_ended x V_5) V_13) V_21) V_29) V_37)) ++ (WL b y))) tyX3 tyX3_ok nmX3 inZ3 rfl rfl (by decide) tg_111 rfl rfl rfl (Nat.le_of_ble_eq_true rfl) dX3_become_37 rfl ?_
  refine zj_aload_n C dX3_become_40 0 rfl ?_
  refine zj_aload_n C dX3_become_41 1 rfl ?_
  refine zj_get C 1 3 5 (v := .long (gLd_back y)) inZ3 rfl rfl (by decide) tg_114 rfl dX3_become_42 ?_
  refine zj_toplg (fun V_45 hV_45 => ?_)
  refine zj_put C 0 3 5 (v := .long V_45) (ws' := ((WL a (sLd_back (sLd_still (sLd_left (sLd_made (sLd_price (sLd_ended x V_5) V_13) V_21) V_29) V_37) V_45)) ++ (WL b y))) tyX3 tyX3_ok nmX3 inZ3 rfl rfl (by decide) tg_114 rfl rfl rfl (Nat.le_of_ble_eq_true rfl) dX3_become_45 rfl ?_
  refine zj_aload_n C dX3_become_48 0 rfl ?_
  refine zj_aload_n C dX3_become_49 1 rfl ?_
  refine zj_get C 1 3 6 (v := .int (gLd_sold y)) inZ3 rfl rfl (by decide) tg_117 rfl dX3_become_50 ?_
  refine zj_topig (fun V_53 hV_53 => ?_)
  refine zj_put C 0 3 6 (v := .int V_53) (ws' := ((WL a (sLd_sold (sLd_back (sLd_still (sLd_left (sLd_made (sLd_price (sLd_ended x V_5) V_13) V_21) V_29) V_37) V_45) V_53)) ++ (WL b y))) tyX3 tyX3_ok nmX3 inZ3 rfl rfl (by decide) tg_117 rfl rfl rfl (Nat.le_of_ble_eq_true rfl) dX3_become_53 rfl ?_
  refine zj_aload_n C dX3_become_56 0 rfl ?_
  refine zj_aload_n C dX3_become_57 1 rfl ?_
  refine zj_get C 1 3 7 (v := .int (gLd_swung y)) inZ3 rfl rfl (by decide) tg_120 rfl dX3_become_58 ?_
  refine zj_topig (fun V_61 hV_61 => ?_)
  refine zj_put C 0 3 7 (v := .int V_61) (ws' := ((WL a (sLd_swung (sLd_sold (sLd_back (sLd_still (sLd_left (sLd_made (sLd_price (sLd_ended x V_5) V_13) V_21) V_29) V_37) V_45) V_53) V_61)) ++ (WL b y))) tyX3 tyX3_ok nmX3 inZ3 rfl rfl (by decide) tg_120 rfl rfl rfl (Nat.le_of_ble_eq_true rfl) dX3_become_61 rfl ?_
  subst hV_61
  subst hV_53
  subst hV_45
  subst hV_37
  subst hV_29
  subst hV_21
  subst hV_13
  subst hV_5
  exact hret _ _ dX3_become_64

noncomputable def f_X3_start (x : zLd) (y : zDd) : zLd :=
  let V_10 : Int64 := (gDd_price y)
  let V_18 : Int32 := (gDd_swung y)
  let V_26 : Int64 := (gDd_wanted y)
  (sLd_swung (sLd_sold (sLd_back (sLd_still (sLd_left (sLd_made (sLd_price (sLd_ended x true) V_10) 0) 0) V_26) 0) (nI 0)) V_18)
set_option maxHeartbeats 4000000 in
set_option maxRecDepth 100000 in
theorem c_X3_start (l : Launch) (D : va_G) (cy : Nat → ClassId) (a d0 d1 : Nat)  (x : zLd) (y : zDd)  : zC l yX3_start (zW yX3_start cX3_start 2 (Option.none : Option Jvm.ClassFile.FieldType)) { frames := 0, cells := 0, slots := 0, locals := 0 } D cy [.ref a, .ref d0] ((WL a x) ++ (WD cy d0 d1 y)) none ((WL a (f_X3_start x y)) ++ (WD cy d0 d1 y)) := by
  refine zC_of rfl (Nat.le_of_ble_eq_true rfl) zOk_v (fun E C hret => ?_)
  show zJ E 2 0 0 ((WL a x) ++ (WD cy d0 d1 y)) 0 [(0, .ref a), (1, .ref d0)] []
  refine zj_aload_n C dX3_start_0 0 rfl ?_
  refine zj_iconst C (v := (nI 1)) dX3_start_1 (by decide) ?_
  refine zj_put C 0 3 0 (v := .int (nI 1)) (ws' := ((WL a (sLd_ended x true)) ++ (WD cy d0 d1 y))) tyX3 tyX3_ok nmX3 inZ3 rfl rfl (by decide) tg_101 rfl rfl rfl (Nat.le_of_ble_eq_true rfl) dX3_start_2 rfl ?_
  refine zj_aload_n C dX3_start_5 0 rfl ?_
  refine zj_aload_n C dX3_start_6 1 rfl ?_
  refine zj_get C 1 0 2 (v := .long (gDd_price y)) inZ0 rfl rfl (by decide) tg_200 rfl dX3_start_7 ?_
  refine zj_toplg (fun V_10 hV_10 => ?_)
  refine zj_put C 0 3 1 (v := .long V_10) (ws' := ((WL a (sLd_price (sLd_ended x true) V_10)) ++ (WD cy d0 d1 y))) tyX3 tyX3_ok nmX3 inZ3 rfl rfl (by decide) tg_103 rfl rfl rfl (Nat.le_of_ble_eq_true rfl) dX3_start_10 rfl ?_
  refine zj_aload_n C dX3_start_13 0 rfl ?_
  refine zj_aload_n C dX3_start_14 1 rfl ?_
  refine zj_get C 1 0 5 (v := .int (gDd_swung y)) inZ0 rfl rfl (by decide) tg_204 rfl dX3_start_15 ?_
  refine zj_topig (fun V_18 hV_18 => ?_)
  refine zj_put C 0 3 7 (v := .int V_18) (ws' := ((WL a (sLd_swung (sLd_price (sLd_ended x true) V_10) V_18)) ++ (WD cy d0 d1 y))) tyX3 tyX3_ok nmX3 inZ3 rfl rfl (by decide) tg_120 rfl rfl rfl (Nat.le_of_ble_eq_true rfl) dX3_start_18 rfl ?_
  refine zj_aload_n C dX3_start_21 0 rfl ?_
  refine zj_aload_n C dX3_start_22 1 rfl ?_
  refine zj_get C 1 0 3 (v := .long (gDd_wanted y)) inZ0 rfl rfl (by decide) tg_201 rfl dX3_start_23 ?_
  refine zj_toplg (fun V_26 hV_26 => ?_)
  refine zj_put C 0 3 4 (v := .long V_26) (ws' := ((WL a (sLd_swung (sLd_still (sLd_price (sLd_ended x true) V_10) V_26) V_18)) ++ (WD cy d0 d1 y))) tyX3 tyX3_ok nmX3 inZ3 rfl rfl (by decide) tg_111 rfl rfl rfl (Nat.le_of_ble_eq_true rfl) dX3_start_26 rfl ?_
  refine zj_aload_n C dX3_start_29 0 rfl ?_
  refine zj_lconst C (v := 0) dX3_start_30 (by decide) ?_
  refine zj_put C 0 3 2 (v := .long 0) (ws' := ((WL a (sLd_swung (sLd_still (sLd_made (sLd_price (sLd_ended x true) V_10) 0) V_26) V_18)) ++ (WD cy d0 d1 y))) tyX3 tyX3_ok nmX3 inZ3 rfl rfl (by decide) tg_105 rfl rfl rfl (Nat.le_of_ble_eq_true rfl) dX3_start_31 rfl ?_
  refine zj_aload_n C dX3_start_34 0 rfl ?_
  refine zj_lconst C (v := 0) dX3_start_35 (by decide) ?_
  refine zj_put C 0 3 3 (v := .long 0) (ws' := ((WL a (sLd_swung (sLd_still (sLd_left (sLd_made (sLd_price (sLd_ended x true) V_10) 0) 0) V_26) V_18)) ++ (WD cy d0 d1 y))) tyX3 tyX3_ok nmX3 inZ3 rfl rfl (by decide) tg_108 rfl rfl rfl (Nat.le_of_ble_eq_true rfl) dX3_start_36 rfl ?_
  refine zj_aload_n C dX3_start_39 0 rfl ?_
  refine zj_lconst C (v := 0) dX3_start_40 (by decide) ?_
  refine zj_put C 0 3 5 (v := .long 0) (ws' := ((WL a (sLd_swung (sLd_back (sLd_still (sLd_left (sLd_made (sLd_price (sLd_ended x true) V_10) 0) 0) V_26) 0) V_18)) ++ (WD cy d0 d1 y))) tyX3 tyX3_ok nmX3 inZ3 rfl rfl (by decide) tg_114 rfl rfl rfl (Nat.le_of_ble_eq_true rfl) dX3_start_41 rfl ?_
  refine zj_aload_n C dX3_start_44 0 rfl ?_
  refine zj_iconst C (v := (nI 0)) dX3_start_45 (by decide) ?_
  refine zj_put C 0 3 6 (v := .int (nI 0)) (ws' := ((WL a (sLd_swung (sLd_sold (sLd_back (sLd_still (sLd_left (sLd_made (sLd_price (sLd_ended x true) V_10) 0) 0) V_26) 0) (nI 0)) V_18)) ++ (WD cy d0 d1 y))) tyX3 tyX3_ok nmX3 inZ3 rfl rfl (by decide) tg_117 rfl rfl rfl (Nat.le_of_ble_eq_true rfl) dX3_start_46 rfl ?_
  subst hV_26
  subst hV_18
  subst hV_10
  have e : f_X3_start x y = (sLd_swung (sLd_sold (sLd_back (sLd_still (sLd_left (sLd_made (sLd_price (sLd_ended x true) (gDd_price y)) 0) 0) (gDd_wanted y)) 0) (nI 0)) (gDd_swung y)) := by rfl
  rw [e] at hret
  exact hret _ _ dX3_start_49

noncomputable def f_X4_write (o : zOd) (at0 : Nat) (h : Int32) (sz : Int32) (dy : Int32) : zOd :=
  let F_6 : Nat → Int32 := (upd (gOd_ho o) at0 h)
  let F_13 : Nat → Int32 := (upd (gOd_sz o) at0 sz)
  let F_21 : Nat → Int32 := (upd (gOd_dy o) at0 dy)
  (sOd_dy (sOd_sz (sOd_ho o F_6) F_13) F_21)
set_option maxHeartbeats 4000000 in
set_option maxRecDepth 100000 in
theorem c_X4_write (l : Launch) (D : va_G) (cy : Nat → ClassId) (a0 a1 a2 a3 : Nat) (at0 : Nat) (h : Int32) (sz : Int32) (dy : Int32) (o : zOd) (ha : at0 < 20) : zC l yX4_write (zW yX4_write cX4_write 5 (Option.none : Option Jvm.ClassFile.FieldType)) { frames := 0, cells := 0, slots := 0, locals := 0 } D cy [.ref a0, .int (nI at0), .int h, .int sz, .int dy] (WO cy a0 a1 a2 a3 o) none (WO cy a0 a1 a2 a3 (f_X4_write o at0 h sz dy)) := by
  refine zC_of rfl (Nat.le_of_ble_eq_true rfl) zOk_v (fun E C hret => ?_)
  show zJ E 5 0 0 (WO cy a0 a1 a2 a3 o) 0 [(0, .ref a0), (1, .int (nI at0)), (2, .int h), (3, .int sz), (4, .int dy)] []
  refine zj_aload_n C dX4_write_0 0 rfl ?_
  refine zj_get C 0 4 1 (v := .ref a1) inZ4 rfl rfl (by decide) tg_77 rfl dX4_write_1 ?_
  refine zj_iload_n C dX4_write_4 1 rfl ?_
  refine zj_iload_n C dX4_write_5 2 rfl ?_
  obtain ⟨F_6, hF_6⟩ : ∃ g, g = (upd (gOd_ho o) at0 h) := ⟨_, rfl⟩
  refine zj_iast C 1 (f := (gOd_ho o)) (ws' := (WO cy a0 a1 a2 a3 (sOd_ho o F_6))) at0 (nI_clamp (by omega)) (vp_in_nI (by omega) (by omega)) rfl dX4_write_6 (by rw [← hF_6]; rfl) ?_
  refine zj_aload_n C dX4_write_7 0 rfl ?_
  refine zj_get C 0 4 2 (v := .ref a2) inZ4 rfl rfl (by decide) tg_80 rfl dX4_write_8 ?_
  refine zj_iload_n C dX4_write_11 1 rfl ?_
  refine zj_iload_n C dX4_write_12 3 rfl ?_
  obtain ⟨F_13, hF_13⟩ : ∃ g, g = (upd (gOd_sz o) at0 sz) := ⟨_, rfl⟩
  refine zj_iast C 2 (f := (gOd_sz o)) (ws' := (WO cy a0 a1 a2 a3 (sOd_sz (sOd_ho o F_6) F_13))) at0 (nI_clamp (by omega)) (vp_in_nI (by omega) (by omega)) rfl dX4_write_13 (by rw [← hF_13]; rfl) ?_
  refine zj_aload_n C dX4_write_14 0 rfl ?_
  refine zj_get C 0 4 3 (v := .ref a3) inZ4 rfl rfl (by decide) tg_83 rfl dX4_write_15 ?_
  refine zj_iload_n C dX4_write_18 1 rfl ?_
  refine zj_iload C dX4_write_19 4 rfl ?_
  obtain ⟨F_21, hF_21⟩ : ∃ g, g = (upd (gOd_dy o) at0 dy) := ⟨_, rfl⟩
  refine zj_iast C 3 (f := (gOd_dy o)) (ws' := (WO cy a0 a1 a2 a3 (sOd_dy (sOd_sz (sOd_ho o F_6) F_13) F_21))) at0 (nI_clamp (by omega)) (vp_in_nI (by omega) (by omega)) rfl dX4_write_21 (by rw [← hF_21]; rfl) ?_
  subst hF_21
  subst hF_13
  subst hF_6
  have e : f_X4_write o at0 h sz dy = (sOd_dy (sOd_sz (sOd_ho o (upd (gOd_ho o) at0 h)) (upd (gOd_sz o) at0 sz)) (upd (gOd_dy o) at0 dy)) := by rfl
  rw [e] at hret
  exact hret _ _ dX4_write_22

noncomputable def f_X4_isFull (o : zOd) : Bool :=
  let x6_0 : Bool := (if (gOd_n o) < 20 then false else true)
  x6_0
set_option maxHeartbeats 4000000 in
set_option maxRecDepth 100000 in
theorem c_X4_isFull (l : Launch) (D : va_G) (cy : Nat → ClassId) (a0 a1 a2 a3 : Nat)  (o : zOd) (hn : gOd_n o ≤ 20) : zC l yX4_isFull (zW yX4_isFull cX4_isFull 1 (Option.some Jvm.ClassFile.FieldType.boolean)) { frames := 0, cells := 0, slots := 0, locals := 0 } D cy [.ref a0] (WO cy a0 a1 a2 a3 o) (some (.int (zB (f_X4_isFull o)))) (WO cy a0 a1 a2 a3 o) := by
  refine zC_of rfl (Nat.le_of_ble_eq_true rfl) (zOk_z (zB_01 _)) (fun E C hret => ?_)
  show zJ E 1 0 0 (WO cy a0 a1 a2 a3 o) 0 [(0, .ref a0)] []
  refine zj_aload_n C dX4_isFull_0 0 rfl ?_
  refine zj_get C 0 4 0 (v := .int (nI (gOd_n o))) inZ4 rfl rfl (by decide) tg_75 rfl dX4_isFull_1 ?_
  refine zj_bipush C (v := (nI 20)) dX4_isFull_4 (by decide) ?_
  have J_6 : ∀ (x6_0 : Bool), x6_0 = (if (gOd_n o) < 20 then false else true) → zJ E 1 0 0 (WO cy a0 a1 a2 a3 o) 14 [(0, .ref a0)] [.int (zB x6_0)] := by
    intro x6_0 hx6_0
    subst hx6_0
    have e : f_X4_isFull o = (if (gOd_n o) < 20 then false else true) := by rfl
    rw [e] at hret
    exact hret _ _ dX4_isFull_14
  refine zj_icmp_lt C 13 dX4_isFull_6 (by decide) (fun c => ?_) (fun c => ?_)
  · have c_6 : (gOd_n o) < 20 := ((nI_ltI (by omega) (by omega)).mp c)
    refine zj_iconst C (v := (nI 0)) dX4_isFull_13 (by decide) ?_
    exact J_6 false (by simp only [if_pos c_6]; first | done | assumption)
  · have c_6 : ¬ ((gOd_n o) < 20) := (fun q => c ((nI_ltI (by omega) (by omega)).mpr q))
    refine zj_iconst C (v := (nI 1)) dX4_isFull_9 (by decide) ?_
    refine zj_goto C 14 dX4_isFull_10 (by decide) ?_
    exact J_6 true (by simp only [if_neg c_6]; first | done | assumption)

noncomputable def L_X4_add (dy : Int32) (R_1 : Bool) : Nat → (zOd) → (Nat) → (zOd) × (Nat)
  | 0, X, p => (X, p)
  | fuel + 1, X, p =>
    if p = 0 then
      (X, p)
    else
      if ((gOd_dy X) (p - 1)) ≤ dy then
        (X, p)
      else
        let T_62 : zOd := (f_X4_write X p ((gOd_ho X) (p - 1)) ((gOd_sz X) (p - 1)) ((gOd_dy X) (p - 1)))
        L_X4_add dy R_1 fuel T_62 (p - 1)
theorem L_X4_add_s (dy : Int32) (R_1 : Bool) (fuel : Nat) (X : zOd) (p : Nat) : L_X4_add dy R_1 (fuel + 1) X p = (
    if p = 0 then
      (X, p)
    else
      if ((gOd_dy X) (p - 1)) ≤ dy then
        (X, p)
      else
        let T_62 : zOd := (f_X4_write X p ((gOd_ho X) (p - 1)) ((gOd_sz X) (p - 1)) ((gOd_dy X) (p - 1)))
        L_X4_add dy R_1 fuel T_62 (p - 1)
  ) := rfl
noncomputable def f_X4_add (o : zOd) (h : Int32) (sz : Int32) (dy : Int32) : zOd :=
  let R_1 : Bool := (f_X4_isFull o)
  if R_1 = false then
    let X1 : zOd := ((L_X4_add dy R_1 ((gOd_n o) + 1) o (gOd_n o)).1)
    let p1 : Nat := ((L_X4_add dy R_1 ((gOd_n o) + 1) o (gOd_n o)).2)
    let T_77 : zOd := (f_X4_write X1 p1 h sz dy)
    let V_87 : Nat := (gOd_n T_77) + 1
    (sOd_n T_77 V_87)
  else
    o
set_option maxHeartbeats 4000000 in
set_option maxRecDepth 100000 in
theorem c_X4_add (l : Launch) (D : va_G) (cy : Nat → ClassId) (a0 a1 a2 a3 : Nat) (h : Int32) (sz : Int32) (dy : Int32) (o : zOd) (hn : gOd_n o ≤ 20) : zC l yX4_add (zW yX4_add cX4_add 5 (Option.none : Option Jvm.ClassFile.FieldType)) { frames := 1, cells := 0, slots := 0, locals := 24 } D cy [.ref a0, .int h, .int sz, .int dy] (WO cy a0 a1 a2 a3 o) none (WO cy a0 a1 a2 a3 (f_X4_add o h sz dy)) := by
  refine zC_of rfl (Nat.le_of_ble_eq_true rfl) zOk_v (fun E C hret => ?_)
  show zJ E 5 0 0 (WO cy a0 a1 a2 a3 o) 0 [(0, .ref a0), (1, .int h), (2, .int sz), (3, .int dy)] []
  refine zj_aload_n C dX4_add_0 0 rfl ?_
  have M_1 := c_X4_isFull l D cy a0 a1 a2 a3  o (by omega)
  obtain ⟨R_1, hR_1⟩ : ∃ g : Bool, g = (f_X4_isFull o) := ⟨_, rfl⟩
  rw [← hR_1] at M_1
  refine zj_callV C (nn := 4) (ws' := (WO cy a0 a1 a2 a3 o)) (st := []) (st1 := [.int (zB R_1)]) 0 4 [0, 1, 2, 3] (M_1) (zg_V tg_356 tg_365 tg_354 tg_355 tg_4) ⟨rfl, hdZ_X4_isFull⟩ ⟨rfl, rfl⟩ ⟨by decide, by decide⟩ rfl rfl rfl (by decide) ⟨rfl, rfl⟩ rfl rfl (Nat.le_of_ble_eq_true rfl) dX4_add_1 rfl rfl ?_
  refine zj_if_eq C 8 dX4_add_4 (by decide) (fun c => ?_) (fun c => ?_)
  · have c_4 : R_1 = false := (zB_eq c)
    refine zj_aload_n C dX4_add_8 0 rfl ?_
    have hlt : gOd_n o < 20 := by { rcases Nat.lt_or_ge (gOd_n o) 20 with q | q; exact q; exact absurd (hR_1.symm.trans c_4) (by { show ¬ (if gOd_n o < 20 then false else true) = false; rw [if_neg (by omega)]; decide }) }
    refine zj_get C 0 4 0 (v := .int (nI (gOd_n o))) inZ4 rfl rfl (by decide) tg_75 rfl dX4_add_9 ?_
    refine zj_istore C (L' := [(4, .int (nI (gOd_n o))), (0, .ref a0), (1, .int h), (2, .int sz), (3, .int dy)]) dX4_add_12 (by decide) rfl ?_
    have loop_14 : ∀ (fuel : Nat) (X : zOd) (p : Nat), (hX : gOd_n X = gOd_n o) → (hp : p ≤ gOd_n o) → p < fuel → (gOd_n ((L_X4_add dy R_1 fuel X p).1) = gOd_n o → ((L_X4_add dy R_1 fuel X p).2) ≤ gOd_n o → zJ E 5 0 0 (WO cy a0 a1 a2 a3 ((L_X4_add dy R_1 fuel X p).1)) 71 [(0, .ref a0), (1, .int h), (2, .int sz), (3, .int dy), (4, .int (nI ((L_X4_add dy R_1 fuel X p).2)))] []) → zJ E 5 0 0 (WO cy a0 a1 a2 a3 X) 14 [(0, .ref a0), (1, .int h), (2, .int sz), (3, .int dy), (4, .int (nI p))] [] := by
      intro fuel
      induction fuel with
      | zero => intro X p hX hp hmu; exact absurd hmu (Nat.not_lt_zero _)
      | succ fuel ih_14 =>
        intro X p hX hp hmu_14 K_14
        refine zj_iload C dX4_add_14 4 rfl ?_
        refine zj_if_le C 71 dX4_add_16 (by decide) (fun c => ?_) (fun c => ?_)
        · have c_16 : p = 0 := ((zn_le0 (by omega)).mp c)
          have e_14 : (L_X4_add dy R_1 (fuel + 1) X p) = (X, p) := by refine (L_X4_add_s dy R_1 fuel X p).trans ?_; refine (if_pos c_16).trans ?_; rfl
          rw [e_14] at K_14
          exact K_14 hX hp
        · have c_16 : ¬ (p = 0) := (fun q => c ((zn_le0 (by omega)).mpr q))
          refine zj_aload_n C dX4_add_19 0 rfl ?_
          refine zj_get C 0 4 3 (v := .ref a3) inZ4 rfl rfl (by decide) tg_83 rfl dX4_add_20 ?_
          refine zj_iload C dX4_add_23 4 rfl ?_
          refine zj_iconst C (v := (nI 1)) dX4_add_25 (by decide) ?_
          refine zj_isub C dX4_add_26 ?_
          refine zj_topi (nI (p - 1)) (pk_sub (by omega)) ?_
          refine zj_iald C 3 (f := (gOd_dy X)) (p - 1) (nI_clamp (by omega)) (vp_in_nI (by omega) (by omega)) rfl dX4_add_27 ?_
          refine zj_iload_n C dX4_add_28 3 rfl ?_
          refine zj_icmp_le C 71 dX4_add_29 (by decide) (fun c => ?_) (fun c => ?_)
          · have c_29 : ((gOd_dy X) (p - 1)) ≤ dy := c
            have e_14 : (L_X4_add dy R_1 (fuel + 1) X p) = (X, p) := by refine (L_X4_add_s dy R_1 fuel X p).trans ?_; refine (if_neg c_16).trans ?_; refine (if_pos c_29).trans ?_; rfl
            rw [e_14] at K_14
            exact K_14 hX hp
          · have c_29 : ¬ (((gOd_dy X) (p - 1)) ≤ dy) := c
            refine zj_aload_n C dX4_add_32 0 rfl ?_
            refine zj_iload C dX4_add_33 4 rfl ?_
            refine zj_aload_n C dX4_add_35 0 rfl ?_
            refine zj_get C 0 4 1 (v := .ref a1) inZ4 rfl rfl (by decide) tg_77 rfl dX4_add_36 ?_
            refine zj_iload C dX4_add_39 4 rfl ?_
            refine zj_iconst C (v := (nI 1)) dX4_add_41 (by decide) ?_
            refine zj_isub C dX4_add_42 ?_
            refine zj_topi (nI (p - 1)) (pk_sub (by omega)) ?_
            refine zj_iald C 1 (f := (gOd_ho X)) (p - 1) (nI_clamp (by omega)) (vp_in_nI (by omega) (by omega)) rfl dX4_add_43 ?_
            refine zj_aload_n C dX4_add_44 0 rfl ?_
            refine zj_get C 0 4 2 (v := .ref a2) inZ4 rfl rfl (by decide) tg_80 rfl dX4_add_45 ?_
            refine zj_iload C dX4_add_48 4 rfl ?_
            refine zj_iconst C (v := (nI 1)) dX4_add_50 (by decide) ?_
            refine zj_isub C dX4_add_51 ?_
            refine zj_topi (nI (p - 1)) (pk_sub (by omega)) ?_
            refine zj_iald C 2 (f := (gOd_sz X)) (p - 1) (nI_clamp (by omega)) (vp_in_nI (by omega) (by omega)) rfl dX4_add_52 ?_
            refine zj_aload_n C dX4_add_53 0 rfl ?_
            refine zj_get C 0 4 3 (v := .ref a3) inZ4 rfl rfl (by decide) tg_83 rfl dX4_add_54 ?_
            refine zj_iload C dX4_add_57 4 rfl ?_
            refine zj_iconst C (v := (nI 1)) dX4_add_59 (by decide) ?_
            refine zj_isub C dX4_add_60 ?_
            refine zj_topi (nI (p - 1)) (pk_sub (by omega)) ?_
            refine zj_iald C 3 (f := (gOd_dy X)) (p - 1) (nI_clamp (by omega)) (vp_in_nI (by omega) (by omega)) rfl dX4_add_61 ?_
            have M_62 := c_X4_write l D cy a0 a1 a2 a3 p ((gOd_ho X) (p - 1)) ((gOd_sz X) (p - 1)) ((gOd_dy X) (p - 1)) X (by omega)
            obtain ⟨T_62, hT_62⟩ : ∃ g : zOd, g = (f_X4_write X p ((gOd_ho X) (p - 1)) ((gOd_sz X) (p - 1)) ((gOd_dy X) (p - 1))) := ⟨_, rfl⟩
            rw [← hT_62] at M_62
            refine zj_callV C (nn := 4) (ws' := (WO cy a0 a1 a2 a3 T_62)) (st := []) (st1 := []) 0 4 [0, 1, 2, 3] (M_62) (zg_V tg_323 tg_320 tg_322 tgp_0 tg_4) ⟨rfl, hdZ_X4_write⟩ ⟨rfl, rfl⟩ ⟨by decide, by decide⟩ rfl rfl rfl (by decide) ⟨rfl, rfl⟩ rfl rfl (Nat.le_of_ble_eq_true rfl) dX4_add_62 rfl rfl ?_
            refine zj_iinc C (j := 4) (v := (nI (p - 1))) (L' := [(4, .int (nI (p - 1))), (0, .ref a0), (1, .int h), (2, .int sz), (3, .int dy)]) dX4_add_65 rfl (zI_pred (by omega)) (by decide) rfl ?_
            refine zj_goto C 14 dX4_add_68 (by decide) ?_
            refine zj_sub (L' := [(0, .ref a0), (1, .int h), (2, .int sz), (3, .int dy), (4, .int (nI (p - 1)))]) [1, 2, 3, 4, 0] rfl ?_
            have hn_hX : gOd_n T_62 = gOd_n o := (by rw [hT_62]; exact hX)
            have hn_hp : (p - 1) ≤ gOd_n o := (by omega)
            have hn_mu : (p - 1) < fuel := (by omega)
            subst hT_62
            have e_14 : (L_X4_add dy R_1 (fuel + 1) X p) = (L_X4_add dy R_1 fuel (f_X4_write X p ((gOd_ho X) (p - 1)) ((gOd_sz X) (p - 1)) ((gOd_dy X) (p - 1))) (p - 1)) := by refine (L_X4_add_s dy R_1 fuel X p).trans ?_; refine (if_neg c_16).trans ?_; refine (if_neg c_29).trans ?_; rfl
            rw [e_14] at K_14
            exact ih_14 (f_X4_write X p ((gOd_ho X) (p - 1)) ((gOd_sz X) (p - 1)) ((gOd_dy X) (p - 1))) (p - 1) hn_hX hn_hp hn_mu K_14
    have K_14 : ∀ (X1 : zOd) (p1 : Nat), X1 = ((L_X4_add dy R_1 ((gOd_n o) + 1) o (gOd_n o)).1) → p1 = ((L_X4_add dy R_1 ((gOd_n o) + 1) o (gOd_n o)).2) → (pX_e : gOd_n X1 = gOd_n o) → (pp_e : p1 ≤ gOd_n o) → zJ E 5 0 0 (WO cy a0 a1 a2 a3 X1) 71 [(0, .ref a0), (1, .int h), (2, .int sz), (3, .int dy), (4, .int (nI p1))] [] := by
      intro X1 p1 hX1 hp1 pX_e pp_e
      refine zj_aload_n C dX4_add_71 0 rfl ?_
      refine zj_iload C dX4_add_72 4 rfl ?_
      refine zj_iload_n C dX4_add_74 1 rfl ?_
      refine zj_iload_n C dX4_add_75 2 rfl ?_
      refine zj_iload_n C dX4_add_76 3 rfl ?_
      have M_77 := c_X4_write l D cy a0 a1 a2 a3 p1 h sz dy X1 (by omega)
      obtain ⟨T_77, hT_77⟩ : ∃ g : zOd, g = (f_X4_write X1 p1 h sz dy) := ⟨_, rfl⟩
      rw [← hT_77] at M_77
      refine zj_callV C (nn := 4) (ws' := (WO cy a0 a1 a2 a3 T_77)) (st := []) (st1 := []) 0 4 [0, 1, 2, 3] (M_77) (zg_V tg_323 tg_320 tg_322 tgp_0 tg_4) ⟨rfl, hdZ_X4_write⟩ ⟨rfl, rfl⟩ ⟨by decide, by decide⟩ rfl rfl rfl (by decide) ⟨rfl, rfl⟩ rfl rfl (Nat.le_of_ble_eq_true rfl) dX4_add_77 rfl rfl ?_
      refine zj_aload_n C dX4_add_80 0 rfl ?_
      refine zj_dup C dX4_add_81 rfl ?_
      refine zj_get C 0 4 0 (v := .int (nI (gOd_n T_77))) inZ4 rfl rfl (by decide) tg_75 rfl dX4_add_82 ?_
      refine zj_iconst C (v := (nI 1)) dX4_add_85 (by decide) ?_
      refine zj_iadd C dX4_add_86 ?_
      refine zj_topi (nI ((gOd_n T_77) + 1)) (nI_add _ _) ?_
      obtain ⟨V_87, hV_87⟩ : ∃ g : Nat, g = (gOd_n T_77) + 1 := ⟨_, rfl⟩
      refine zj_topi (nI V_87) (congrArg nI hV_87.symm) ?_
      refine zj_put C 0 4 0 (v := .int (nI V_87)) (ws' := (WO cy a0 a1 a2 a3 (sOd_n T_77 V_87))) tyX4 tyX4_ok nmX4 inZ4 rfl rfl (by decide) tg_75 rfl rfl rfl (Nat.le_of_ble_eq_true rfl) dX4_add_87 rfl ?_
      subst hV_87
      subst hT_77
      subst hp1
      subst hX1
      subst hR_1
      have e : f_X4_add o h sz dy = (sOd_n (f_X4_write ((L_X4_add dy (f_X4_isFull o) ((gOd_n o) + 1) o (gOd_n o)).1) ((L_X4_add dy (f_X4_isFull o) ((gOd_n o) + 1) o (gOd_n o)).2) h sz dy) ((gOd_n (f_X4_write ((L_X4_add dy (f_X4_isFull o) ((gOd_n o) + 1) o (gOd_n o)).1) ((L_X4_add dy (f_X4_isFull o) ((gOd_n o) + 1) o (gOd_n o)).2) h sz dy)) + 1)) := by refine (if_pos c_4).trans ?_; rfl
      rw [e] at hret
      exact hret _ _ dX4_add_90
    refine zj_sub (L' := [(0, .ref a0), (1, .int h), (2, .int sz), (3, .int dy), (4, .int (nI (gOd_n o)))]) [1, 2, 3, 4, 0] rfl ?_
    exact loop_14 ((gOd_n o) + 1) o (gOd_n o) rfl (by omega) (Nat.lt_succ_self _) (K_14 _ _ rfl rfl)
  · have c_4 : ¬ (R_1 = false) := (zB_neq c)
    subst hR_1
    have e : f_X4_add o h sz dy = o := by refine (if_neg c_4).trans ?_; rfl
    rw [e] at hret
    exact hret _ _ dX4_add_7

noncomputable def L_X4_due (o : zOd) (day : Int32) : Nat → (Nat) → (Nat)
  | 0, k => k
  | fuel + 1, k =>
    if (gOd_n o) ≤ k then
      k
    else
      if day < ((gOd_dy o) k) then
        k
      else
        L_X4_due o day fuel (k + 1)
theorem L_X4_due_s (o : zOd) (day : Int32) (fuel : Nat) (k : Nat) : L_X4_due o day (fuel + 1) k = (
    if (gOd_n o) ≤ k then
      k
    else
      if day < ((gOd_dy o) k) then
        k
      else
        L_X4_due o day fuel (k + 1)
  ) := rfl
noncomputable def f_X4_dueOn (o : zOd) (day : Int32) : Nat :=
  let k1 : Nat := (L_X4_due o day (gOd_n o - 0 + 1) 0)
  k1
set_option maxHeartbeats 4000000 in
set_option maxRecDepth 100000 in
theorem c_X4_dueOn (l : Launch) (D : va_G) (cy : Nat → ClassId) (a0 a1 a2 a3 : Nat) (day : Int32) (o : zOd) (hn : gOd_n o ≤ 20) : zC l yX4_dueOn (zW yX4_dueOn cX4_dueOn 3 (Option.some Jvm.ClassFile.FieldType.int)) { frames := 0, cells := 0, slots := 0, locals := 0 } D cy [.ref a0, .int day] (WO cy a0 a1 a2 a3 o) (some (.int (nI (f_X4_dueOn o day)))) (WO cy a0 a1 a2 a3 o) := by
  refine zC_of rfl (Nat.le_of_ble_eq_true rfl) (zOk_i _) (fun E C hret => ?_)
  show zJ E 3 0 0 (WO cy a0 a1 a2 a3 o) 0 [(0, .ref a0), (1, .int day)] []
  refine zj_iconst C (v := (nI 0)) dX4_dueOn_0 (by decide) ?_
  refine zj_istore_n C (L' := [(2, .int (nI 0)), (0, .ref a0), (1, .int day)]) dX4_dueOn_1 rfl (by decide) rfl ?_
  have loop_2 : ∀ (fuel : Nat) (k : Nat), (hk : k ≤ gOd_n o) → gOd_n o - k < fuel → (zJ E 3 0 0 (WO cy a0 a1 a2 a3 o) 26 [(0, .ref a0), (1, .int day), (2, .int (nI (L_X4_due o day fuel k)))] []) → zJ E 3 0 0 (WO cy a0 a1 a2 a3 o) 2 [(0, .ref a0), (1, .int day), (2, .int (nI k))] [] := by
    intro fuel
    induction fuel with
    | zero => intro k hk hmu; exact absurd hmu (Nat.not_lt_zero _)
    | succ fuel ih_2 =>
      intro k hk hmu_2 K_2
      refine zj_iload_n C dX4_dueOn_2 2 rfl ?_
      refine zj_aload_n C dX4_dueOn_3 0 rfl ?_
      refine zj_get C 0 4 0 (v := .int (nI (gOd_n o))) inZ4 rfl rfl (by decide) tg_75 rfl dX4_dueOn_4 ?_
      refine zj_icmp_ge C 26 dX4_dueOn_7 (by decide) (fun c => ?_) (fun c => ?_)
      · have c_7 : (gOd_n o) ≤ k := ((nI_leI (by omega) (by omega)).mp c)
        have e_2 : (L_X4_due o day (fuel + 1) k) = k := by refine (L_X4_due_s o day fuel k).trans ?_; refine (if_pos c_7).trans ?_; rfl
        rw [e_2] at K_2
        exact K_2 
      · have c_7 : ¬ ((gOd_n o) ≤ k) := (fun q => c ((nI_leI (by omega) (by omega)).mpr q))
        refine zj_aload_n C dX4_dueOn_10 0 rfl ?_
        refine zj_get C 0 4 3 (v := .ref a3) inZ4 rfl rfl (by decide) tg_83 rfl dX4_dueOn_11 ?_
        refine zj_iload_n C dX4_dueOn_14 2 rfl ?_
        refine zj_iald C 3 (f := (gOd_dy o)) k (nI_clamp (by omega)) (vp_in_nI (by omega) (by omega)) rfl dX4_dueOn_15 ?_
        refine zj_iload_n C dX4_dueOn_16 1 rfl ?_
        refine zj_icmp_gt C 26 dX4_dueOn_17 (by decide) (fun c => ?_) (fun c => ?_)
        · have c_17 : day < ((gOd_dy o) k) := c
          have e_2 : (L_X4_due o day (fuel + 1) k) = k := by refine (L_X4_due_s o day fuel k).trans ?_; refine (if_neg c_7).trans ?_; refine (if_pos c_17).trans ?_; rfl
          rw [e_2] at K_2
          exact K_2 
        · have c_17 : ¬ (day < ((gOd_dy o) k)) := c
          refine zj_iinc C (j := 2) (v := (nI (k + 1))) (L' := [(2, .int (nI (k + 1))), (0, .ref a0), (1, .int day)]) dX4_dueOn_20 rfl (nI_1 _) (by decide) rfl ?_
          refine zj_goto C 2 dX4_dueOn_23 (by decide) ?_
          refine zj_sub (L' := [(0, .ref a0), (1, .int day), (2, .int (nI (k + 1)))]) [1, 2, 0] rfl ?_
          have hn_hk : (k + 1) ≤ gOd_n o := (by omega)
          have hn_mu : gOd_n o - (k + 1) < fuel := (by omega)
          have e_2 : (L_X4_due o day (fuel + 1) k) = (L_X4_due o day fuel (k + 1)) := by refine (L_X4_due_s o day fuel k).trans ?_; refine (if_neg c_7).trans ?_; refine (if_neg c_17).trans ?_; rfl
          rw [e_2] at K_2
          exact ih_2 (k + 1) hn_hk hn_mu K_2
  have K_2 : ∀ (k1 : Nat), k1 = (L_X4_due o day (gOd_n o - 0 + 1) 0) → zJ E 3 0 0 (WO cy a0 a1 a2 a3 o) 26 [(0, .ref a0), (1, .int day), (2, .int (nI k1))] [] := by
    intro k1 hk1 
    refine zj_iload_n C dX4_dueOn_26 2 rfl ?_
    subst hk1
    have e : f_X4_dueOn o day = (L_X4_due o day (gOd_n o - 0 + 1) 0) := by rfl
    rw [e] at hret
    exact hret _ _ dX4_dueOn_27
  refine zj_sub (L' := [(0, .ref a0), (1, .int day), (2, .int (nI 0))]) [1, 2, 0] rfl ?_
  exact loop_2 (gOd_n o - 0 + 1) 0 (by omega) (Nat.lt_succ_self _) (K_2 _ rfl)

noncomputable def L_X4_sum (o : zOd) (to : Nat) : Nat → (Int64) → (Nat) → (Int64) × (Nat)
  | 0, sm, k => (sm, k)
  | fuel + 1, sm, k =>
    if to ≤ k then
      (sm, k)
    else
      L_X4_sum o to fuel (sm + ((((gOd_sz o) k)).toInt64)) (k + 1)
theorem L_X4_sum_s (o : zOd) (to : Nat) (fuel : Nat) (sm : Int64) (k : Nat) : L_X4_sum o to (fuel + 1) sm k = (
    if to ≤ k then
      (sm, k)
    else
      L_X4_sum o to fuel (sm + ((((gOd_sz o) k)).toInt64)) (k + 1)
  ) := rfl
noncomputable def f_X4_sum (o : zOd) (fr : Nat) (to : Nat) : Int64 :=
  let sm1 : Int64 := ((L_X4_sum o to (to - fr + 1) 0 fr).1)
  let k1 : Nat := ((L_X4_sum o to (to - fr + 1) 0 fr).2)
  sm1
set_option maxHeartbeats 4000000 in
set_option maxRecDepth 100000 in
theorem c_X4_sum (l : Launch) (D : va_G) (cy : Nat → ClassId) (a0 a1 a2 a3 : Nat) (fr : Nat) (to : Nat) (o : zOd) (ht : to ≤ 20) (hf : fr ≤ 20) : zC l yX4_sum (zW yX4_sum cX4_sum 6 (Option.some Jvm.ClassFile.FieldType.long)) { frames := 0, cells := 0, slots := 0, locals := 0 } D cy [.ref a0, .int (nI fr), .int (nI to)] (WO cy a0 a1 a2 a3 o) (some (.long (f_X4_sum o fr to))) (WO cy a0 a1 a2 a3 o) := by
  refine zC_of rfl (Nat.le_of_ble_eq_true rfl) (zOk_l _) (fun E C hret => ?_)
  show zJ E 6 0 0 (WO cy a0 a1 a2 a3 o) 0 [(0, .ref a0), (1, .int (nI fr)), (2, .int (nI to))] []
  refine zj_lconst C (v := 0) dX4_sum_0 (by decide) ?_
  refine zj_lstore_n C (L' := [(3, .long 0), (0, .ref a0), (1, .int (nI fr)), (2, .int (nI to))]) dX4_sum_1 rfl (by decide) rfl ?_
  refine zj_iload_n C dX4_sum_2 2 rfl ?_
  refine zj_istore C (L' := [(5, .int (nI fr)), (3, .long 0), (0, .ref a0), (1, .int (nI fr)), (2, .int (nI to))]) dX4_sum_3 (by decide) rfl ?_
  have loop_5 : ∀ (fuel : Nat) (sm : Int64) (k : Nat), (hk : k ≤ 20) → to - k < fuel → (zJ E 6 0 0 (WO cy a0 a1 a2 a3 o) 28 [(0, .ref a0), (3, .long ((L_X4_sum o to fuel sm k).1))] []) → zJ E 6 0 0 (WO cy a0 a1 a2 a3 o) 5 [(0, .ref a0), (1, .int (nI fr)), (2, .int (nI to)), (3, .long sm), (5, .int (nI k))] [] := by
    intro fuel
    induction fuel with
    | zero => intro sm k hk hmu; exact absurd hmu (Nat.not_lt_zero _)
    | succ fuel ih_5 =>
      intro sm k hk hmu_5 K_5
      refine zj_iload C dX4_sum_5 4 rfl ?_
      refine zj_iload_n C dX4_sum_7 2 rfl ?_
      refine zj_icmp_ge C 28 dX4_sum_8 (by decide) (fun c => ?_) (fun c => ?_)
      · have c_8 : to ≤ k := ((nI_leI (by omega) (by omega)).mp c)
        refine zj_sub (L' := [(0, .ref a0), (3, .long sm)]) [0, 3] rfl ?_
        have e_5 : (L_X4_sum o to (fuel + 1) sm k) = (sm, k) := by refine (L_X4_sum_s o to fuel sm k).trans ?_; refine (if_pos c_8).trans ?_; rfl
        rw [e_5] at K_5
        exact K_5 
      · have c_8 : ¬ (to ≤ k) := (fun q => c ((nI_leI (by omega) (by omega)).mpr q))
        refine zj_lload_n C dX4_sum_11 3 rfl ?_
        refine zj_aload_n C dX4_sum_12 0 rfl ?_
        refine zj_get C 0 4 2 (v := .ref a2) inZ4 rfl rfl (by decide) tg_80 rfl dX4_sum_13 ?_
        refine zj_iload C dX4_sum_16 4 rfl ?_
        refine zj_iald C 2 (f := (gOd_sz o)) k (nI_clamp (by omega)) (vp_in_nI (by omega) (by omega)) rfl dX4_sum_18 ?_
        refine zj_i2l C dX4_sum_19 ?_
        refine zj_ladd C dX4_sum_20 ?_
        refine zj_lstore_n C (L' := [(3, .long (sm + ((((gOd_sz o) k)).toInt64))), (0, .ref a0), (1, .int (nI fr)), (2, .int (nI to)), (5, .int (nI k))]) dX4_sum_21 rfl (by decide) rfl ?_
        refine zj_iinc C (j := 4) (v := (nI (k + 1))) (L' := [(5, .int (nI (k + 1))), (3, .long (sm + ((((gOd_sz o) k)).toInt64))), (0, .ref a0), (1, .int (nI fr)), (2, .int (nI to))]) dX4_sum_22 rfl (nI_1 _) (by decide) rfl ?_
        refine zj_goto C 5 dX4_sum_25 (by decide) ?_
        refine zj_sub (L' := [(0, .ref a0), (1, .int (nI fr)), (2, .int (nI to)), (3, .long (sm + ((((gOd_sz o) k)).toInt64))), (5, .int (nI (k + 1)))]) [2, 3, 4, 1, 0] rfl ?_
        have hn_hk : (k + 1) ≤ 20 := (by omega)
        have hn_mu : to - (k + 1) < fuel := (by omega)
        have e_5 : (L_X4_sum o to (fuel + 1) sm k) = (L_X4_sum o to fuel (sm + ((((gOd_sz o) k)).toInt64)) (k + 1)) := by refine (L_X4_sum_s o to fuel sm k).trans ?_; refine (if_neg c_8).trans ?_; rfl
        rw [e_5] at K_5
        exact ih_5 (sm + ((((gOd_sz o) k)).toInt64)) (k + 1) hn_hk hn_mu K_5
  have K_5 : ∀ (sm1 : Int64) (k1 : Nat), sm1 = ((L_X4_sum o to (to - fr + 1) 0 fr).1) → k1 = ((L_X4_sum o to (to - fr + 1) 0 fr).2) → zJ E 6 0 0 (WO cy a0 a1 a2 a3 o) 28 [(0, .ref a0), (3, .long sm1)] [] := by
    intro sm1 k1 hsm1 hk1 
    refine zj_lload_n C dX4_sum_28 1 rfl ?_
    subst hk1
    subst hsm1
    have e : f_X4_sum o fr to = ((L_X4_sum o to (to - fr + 1) 0 fr).1) := by rfl
    rw [e] at hret
    exact hret _ _ dX4_sum_29
  refine zj_sub (L' := [(0, .ref a0), (1, .int (nI fr)), (2, .int (nI to)), (3, .long 0), (5, .int (nI fr))]) [2, 3, 4, 1, 0] rfl ?_
  exact loop_5 (to - fr + 1) 0 fr (by omega) (Nat.lt_succ_self _) (K_5 _ _ rfl rfl)

noncomputable def L_X4_sumOf (o : zOd) (h : Int32) : Nat → (Int64) → (Nat) → (Int64) × (Nat)
  | 0, sm, k => (sm, k)
  | fuel + 1, sm, k =>
    if (gOd_n o) ≤ k then
      (sm, k)
    else
      let x22_0 : Int64 := (if ((gOd_ho o) k) = h then (sm + ((((gOd_sz o) k)).toInt64)) else sm)
      L_X4_sumOf o h fuel x22_0 (k + 1)
theorem L_X4_sumOf_s (o : zOd) (h : Int32) (fuel : Nat) (sm : Int64) (k : Nat) : L_X4_sumOf o h (fuel + 1) sm k = (
    if (gOd_n o) ≤ k then
      (sm, k)
    else
      let x22_0 : Int64 := (if ((gOd_ho o) k) = h then (sm + ((((gOd_sz o) k)).toInt64)) else sm)
      L_X4_sumOf o h fuel x22_0 (k + 1)
  ) := rfl
noncomputable def f_X4_sumOf (o : zOd) (h : Int32) : Int64 :=
  let sm1 : Int64 := ((L_X4_sumOf o h (gOd_n o - 0 + 1) 0 0).1)
  let k1 : Nat := ((L_X4_sumOf o h (gOd_n o - 0 + 1) 0 0).2)
  sm1
set_option maxHeartbeats 4000000 in
set_option maxRecDepth 100000 in
theorem c_X4_sumOf (l : Launch) (D : va_G) (cy : Nat → ClassId) (a0 a1 a2 a3 : Nat) (h : Int32) (o : zOd) (hn : gOd_n o ≤ 20) : zC l yX4_sumOf (zW yX4_sumOf cX4_sumOf 5 (Option.some Jvm.ClassFile.FieldType.long)) { frames := 0, cells := 0, slots := 0, locals := 0 } D cy [.ref a0, .int h] (WO cy a0 a1 a2 a3 o) (some (.long (f_X4_sumOf o h))) (WO cy a0 a1 a2 a3 o) := by
  refine zC_of rfl (Nat.le_of_ble_eq_true rfl) (zOk_l _) (fun E C hret => ?_)
  show zJ E 5 0 0 (WO cy a0 a1 a2 a3 o) 0 [(0, .ref a0), (1, .int h)] []
  refine zj_lconst C (v := 0) dX4_sumOf_0 (by decide) ?_
  refine zj_lstore_n C (L' := [(2, .long 0), (0, .ref a0), (1, .int h)]) dX4_sumOf_1 rfl (by decide) rfl ?_
  refine zj_iconst C (v := (nI 0)) dX4_sumOf_2 (by decide) ?_
  refine zj_istore C (L' := [(4, .int (nI 0)), (2, .long 0), (0, .ref a0), (1, .int h)]) dX4_sumOf_3 (by decide) rfl ?_
  have loop_5 : ∀ (fuel : Nat) (sm : Int64) (k : Nat), (hk : k ≤ gOd_n o) → gOd_n o - k < fuel → (zJ E 5 0 0 (WO cy a0 a1 a2 a3 o) 42 [(0, .ref a0), (2, .long ((L_X4_sumOf o h fuel sm k).1))] []) → zJ E 5 0 0 (WO cy a0 a1 a2 a3 o) 5 [(0, .ref a0), (1, .int h), (2, .long sm), (4, .int (nI k))] [] := by
    intro fuel
    induction fuel with
    | zero => intro sm k hk hmu; exact absurd hmu (Nat.not_lt_zero _)
    | succ fuel ih_5 =>
      intro sm k hk hmu_5 K_5
      refine zj_iload C dX4_sumOf_5 3 rfl ?_
      refine zj_aload_n C dX4_sumOf_7 0 rfl ?_
      refine zj_get C 0 4 0 (v := .int (nI (gOd_n o))) inZ4 rfl rfl (by decide) tg_75 rfl dX4_sumOf_8 ?_
      refine zj_icmp_ge C 42 dX4_sumOf_11 (by decide) (fun c => ?_) (fun c => ?_)
      · have c_11 : (gOd_n o) ≤ k := ((nI_leI (by omega) (by omega)).mp c)
        refine zj_sub (L' := [(0, .ref a0), (2, .long sm)]) [0, 2] rfl ?_
        have e_5 : (L_X4_sumOf o h (fuel + 1) sm k) = (sm, k) := by refine (L_X4_sumOf_s o h fuel sm k).trans ?_; refine (if_pos c_11).trans ?_; rfl
        rw [e_5] at K_5
        exact K_5 
      · have c_11 : ¬ ((gOd_n o) ≤ k) := (fun q => c ((nI_leI (by omega) (by omega)).mpr q))
        refine zj_aload_n C dX4_sumOf_14 0 rfl ?_
        refine zj_get C 0 4 1 (v := .ref a1) inZ4 rfl rfl (by decide) tg_77 rfl dX4_sumOf_15 ?_
        refine zj_iload C dX4_sumOf_18 3 rfl ?_
        refine zj_iald C 1 (f := (gOd_ho o)) k (nI_clamp (by omega)) (vp_in_nI (by omega) (by omega)) rfl dX4_sumOf_20 ?_
        refine zj_iload_n C dX4_sumOf_21 1 rfl ?_
        have J_22 : ∀ (x22_0 : Int64), x22_0 = (if ((gOd_ho o) k) = h then (sm + ((((gOd_sz o) k)).toInt64)) else sm) → zJ E 5 0 0 (WO cy a0 a1 a2 a3 o) 36 [(0, .ref a0), (1, .int h), (2, .long x22_0), (4, .int (nI k))] [] := by
          intro x22_0 hx22_0
          refine zj_iinc C (j := 3) (v := (nI (k + 1))) (L' := [(4, .int (nI (k + 1))), (0, .ref a0), (1, .int h), (2, .long x22_0)]) dX4_sumOf_36 rfl (nI_1 _) (by decide) rfl ?_
          refine zj_goto C 5 dX4_sumOf_39 (by decide) ?_
          refine zj_sub (L' := [(0, .ref a0), (1, .int h), (2, .long x22_0), (4, .int (nI (k + 1)))]) [1, 2, 3, 0] rfl ?_
          have hn_hk : (k + 1) ≤ gOd_n o := (by omega)
          have hn_mu : gOd_n o - (k + 1) < fuel := (by omega)
          subst hx22_0
          have e_5 : (L_X4_sumOf o h (fuel + 1) sm k) = (L_X4_sumOf o h fuel (if ((gOd_ho o) k) = h then (sm + ((((gOd_sz o) k)).toInt64)) else sm) (k + 1)) := by refine (L_X4_sumOf_s o h fuel sm k).trans ?_; refine (if_neg c_11).trans ?_; rfl
          rw [e_5] at K_5
          exact ih_5 (if ((gOd_ho o) k) = h then (sm + ((((gOd_sz o) k)).toInt64)) else sm) (k + 1) hn_hk hn_mu K_5
        refine zj_icmp_ne C 36 dX4_sumOf_22 (by decide) (fun c => ?_) (fun c => ?_)
        · have c_22 : ¬ (((gOd_ho o) k) = h) := c
          exact J_22 sm (by simp only [if_neg c_11, if_neg c_22]; first | done | assumption)
        · have c_22 : ((gOd_ho o) k) = h := (Classical.not_not.mp c)
          refine zj_lload_n C dX4_sumOf_25 2 rfl ?_
          refine zj_aload_n C dX4_sumOf_26 0 rfl ?_
          refine zj_get C 0 4 2 (v := .ref a2) inZ4 rfl rfl (by decide) tg_80 rfl dX4_sumOf_27 ?_
          refine zj_iload C dX4_sumOf_30 3 rfl ?_
          refine zj_iald C 2 (f := (gOd_sz o)) k (nI_clamp (by omega)) (vp_in_nI (by omega) (by omega)) rfl dX4_sumOf_32 ?_
          refine zj_i2l C dX4_sumOf_33 ?_
          refine zj_ladd C dX4_sumOf_34 ?_
          refine zj_lstore_n C (L' := [(2, .long (sm + ((((gOd_sz o) k)).toInt64))), (0, .ref a0), (1, .int h), (4, .int (nI k))]) dX4_sumOf_35 rfl (by decide) rfl ?_
          refine zj_sub (L' := [(0, .ref a0), (1, .int h), (2, .long (sm + ((((gOd_sz o) k)).toInt64))), (4, .int (nI k))]) [1, 2, 0, 3] rfl ?_
          exact J_22 (sm + ((((gOd_sz o) k)).toInt64)) (by simp only [if_neg c_11, if_pos c_22]; first | done | assumption)
  have K_5 : ∀ (sm1 : Int64) (k1 : Nat), sm1 = ((L_X4_sumOf o h (gOd_n o - 0 + 1) 0 0).1) → k1 = ((L_X4_sumOf o h (gOd_n o - 0 + 1) 0 0).2) → zJ E 5 0 0 (WO cy a0 a1 a2 a3 o) 42 [(0, .ref a0), (2, .long sm1)] [] := by
    intro sm1 k1 hsm1 hk1 
    refine zj_lload_n C dX4_sumOf_42 1 rfl ?_
    subst hk1
    subst hsm1
    have e : f_X4_sumOf o h = ((L_X4_sumOf o h (gOd_n o - 0 + 1) 0 0).1) := by rfl
    rw [e] at hret
    exact hret _ _ dX4_sumOf_43
  refine zj_sub (L' := [(0, .ref a0), (1, .int h), (2, .long 0), (4, .int (nI 0))]) [2, 3, 1, 0] rfl ?_
  exact loop_5 (gOd_n o - 0 + 1) 0 0 (by omega) (Nat.lt_succ_self _) (K_5 _ _ rfl rfl)

noncomputable def L_X4_drop  : Nat → (zOd) → (Nat) → (Nat) → (zOd) × (Nat) × (Nat)
  | 0, X, kp, k => (X, kp, k)
  | fuel + 1, X, kp, k =>
    if (gOd_n X) ≤ k then
      (X, kp, k)
    else
      let x18_0 : Nat := (if ((gOd_sz X) k) ≤ 0 then kp else kp + 1)
      let x18_1 : zOd := (if ((gOd_sz X) k) ≤ 0 then X else (f_X4_write X kp ((gOd_ho X) k) ((gOd_sz X) k) ((gOd_dy X) k)))
      L_X4_drop  fuel x18_1 x18_0 (k + 1)
theorem L_X4_drop_s  (fuel : Nat) (X : zOd) (kp : Nat) (k : Nat) : L_X4_drop  (fuel + 1) X kp k = (
    if (gOd_n X) ≤ k then
      (X, kp, k)
    else
      let x18_0 : Nat := (if ((gOd_sz X) k) ≤ 0 then kp else kp + 1)
      let x18_1 : zOd := (if ((gOd_sz X) k) ≤ 0 then X else (f_X4_write X kp ((gOd_ho X) k) ((gOd_sz X) k) ((gOd_dy X) k)))
      L_X4_drop  fuel x18_1 x18_0 (k + 1)
  ) := rfl
noncomputable def f_X4_dropEmpty (o : zOd) : zOd :=
  let X1 : zOd := ((L_X4_drop  (gOd_n o - 0 + 1) o 0 0).1)
  let kp1 : Nat := ((L_X4_drop  (gOd_n o - 0 + 1) o 0 0).2.1)
  let k1 : Nat := ((L_X4_drop  (gOd_n o - 0 + 1) o 0 0).2.2)
  (sOd_n X1 kp1)
set_option maxHeartbeats 4000000 in
set_option maxRecDepth 100000 in
theorem c_X4_dropEmpty (l : Launch) (D : va_G) (cy : Nat → ClassId) (a0 a1 a2 a3 : Nat)  (o : zOd) (hn : gOd_n o ≤ 20) : zC l yX4_dropEmpty (zW yX4_dropEmpty cX4_dropEmpty 3 (Option.none : Option Jvm.ClassFile.FieldType)) { frames := 1, cells := 0, slots := 0, locals := 24 } D cy [.ref a0] (WO cy a0 a1 a2 a3 o) none (WO cy a0 a1 a2 a3 (f_X4_dropEmpty o)) := by
  refine zC_of rfl (Nat.le_of_ble_eq_true rfl) zOk_v (fun E C hret => ?_)
  show zJ E 3 0 0 (WO cy a0 a1 a2 a3 o) 0 [(0, .ref a0)] []
  refine zj_iconst C (v := (nI 0)) dX4_dropEmpty_0 (by decide) ?_
  refine zj_istore_n C (L' := [(1, .int (nI 0)), (0, .ref a0)]) dX4_dropEmpty_1 rfl (by decide) rfl ?_
  refine zj_iconst C (v := (nI 0)) dX4_dropEmpty_2 (by decide) ?_
  refine zj_istore_n C (L' := [(2, .int (nI 0)), (1, .int (nI 0)), (0, .ref a0)]) dX4_dropEmpty_3 rfl (by decide) rfl ?_
  have loop_4 : ∀ (fuel : Nat) (X : zOd) (kp : Nat) (k : Nat), (hX : gOd_n X = gOd_n o) → (hk : k ≤ gOd_n o) → (hkp : kp ≤ k) → gOd_n o - k < fuel → (zJ E 3 0 0 (WO cy a0 a1 a2 a3 ((L_X4_drop  fuel X kp k).1)) 53 [(0, .ref a0), (1, .int (nI ((L_X4_drop  fuel X kp k).2.1)))] []) → zJ E 3 0 0 (WO cy a0 a1 a2 a3 X) 4 [(0, .ref a0), (1, .int (nI kp)), (2, .int (nI k))] [] := by
    intro fuel
    induction fuel with
    | zero => intro X kp k hX hk hkp hmu; exact absurd hmu (Nat.not_lt_zero _)
    | succ fuel ih_4 =>
      intro X kp k hX hk hkp hmu_4 K_4
      refine zj_iload_n C dX4_dropEmpty_4 2 rfl ?_
      refine zj_aload_n C dX4_dropEmpty_5 0 rfl ?_
      refine zj_get C 0 4 0 (v := .int (nI (gOd_n X))) inZ4 rfl rfl (by decide) tg_75 rfl dX4_dropEmpty_6 ?_
      refine zj_icmp_ge C 53 dX4_dropEmpty_9 (by decide) (fun c => ?_) (fun c => ?_)
      · have c_9 : (gOd_n X) ≤ k := ((nI_leI (by omega) (by omega)).mp c)
        refine zj_sub (L' := [(0, .ref a0), (1, .int (nI kp))]) [0, 1] rfl ?_
        have e_4 : (L_X4_drop  (fuel + 1) X kp k) = (X, kp, k) := by refine (L_X4_drop_s  fuel X kp k).trans ?_; refine (if_pos c_9).trans ?_; rfl
        rw [e_4] at K_4
        exact K_4 
      · have c_9 : ¬ ((gOd_n X) ≤ k) := (fun q => c ((nI_leI (by omega) (by omega)).mpr q))
        refine zj_aload_n C dX4_dropEmpty_12 0 rfl ?_
        refine zj_get C 0 4 2 (v := .ref a2) inZ4 rfl rfl (by decide) tg_80 rfl dX4_dropEmpty_13 ?_
        refine zj_iload_n C dX4_dropEmpty_16 2 rfl ?_
        refine zj_iald C 2 (f := (gOd_sz X)) k (nI_clamp (by omega)) (vp_in_nI (by omega) (by omega)) rfl dX4_dropEmpty_17 ?_
        have J_18 : ∀ (x18_0 : Nat) (x18_1 : zOd), x18_0 = (if ((gOd_sz X) k) ≤ 0 then kp else kp + 1) → x18_1 = (if ((gOd_sz X) k) ≤ 0 then X else (f_X4_write X kp ((gOd_ho X) k) ((gOd_sz X) k) ((gOd_dy X) k))) → zJ E 3 0 0 (WO cy a0 a1 a2 a3 x18_1) 47 [(0, .ref a0), (1, .int (nI x18_0)), (2, .int (nI k))] [] := by
          intro x18_0 x18_1 hx18_0 hx18_1
          refine zj_iinc C (j := 2) (v := (nI (k + 1))) (L' := [(2, .int (nI (k + 1))), (0, .ref a0), (1, .int (nI x18_0))]) dX4_dropEmpty_47 rfl (nI_1 _) (by decide) rfl ?_
          refine zj_goto C 4 dX4_dropEmpty_50 (by decide) ?_
          refine zj_sub (L' := [(0, .ref a0), (1, .int (nI x18_0)), (2, .int (nI (k + 1)))]) [1, 2, 0] rfl ?_
          have hn_hX : gOd_n x18_1 = gOd_n o := (by rw [hx18_1]; split; exact hX; exact hX)
          have hn_hk : (k + 1) ≤ gOd_n o := (by omega)
          have hn_hkp : x18_0 ≤ (k + 1) := (by rw [hx18_0]; split <;> omega)
          have hn_mu : gOd_n o - (k + 1) < fuel := (by omega)
          subst hx18_1
          subst hx18_0
          have e_4 : (L_X4_drop  (fuel + 1) X kp k) = (L_X4_drop  fuel (if ((gOd_sz X) k) ≤ 0 then X else (f_X4_write X kp ((gOd_ho X) k) ((gOd_sz X) k) ((gOd_dy X) k))) (if ((gOd_sz X) k) ≤ 0 then kp else kp + 1) (k + 1)) := by refine (L_X4_drop_s  fuel X kp k).trans ?_; refine (if_neg c_9).trans ?_; rfl
          rw [e_4] at K_4
          exact ih_4 (if ((gOd_sz X) k) ≤ 0 then X else (f_X4_write X kp ((gOd_ho X) k) ((gOd_sz X) k) ((gOd_dy X) k))) (if ((gOd_sz X) k) ≤ 0 then kp else kp + 1) (k + 1) hn_hX hn_hk hn_hkp hn_mu K_4
        refine zj_if_le C 47 dX4_dropEmpty_18 (by decide) (fun c => ?_) (fun c => ?_)
        · have c_18 : ((gOd_sz X) k) ≤ 0 := c
          exact J_18 kp X (by simp only [if_neg c_9, if_pos c_18]; first | done | assumption) (by simp only [if_neg c_9, if_pos c_18]; first | done | assumption)
        · have c_18 : ¬ (((gOd_sz X) k) ≤ 0) := c
          refine zj_aload_n C dX4_dropEmpty_21 0 rfl ?_
          refine zj_iload_n C dX4_dropEmpty_22 1 rfl ?_
          refine zj_aload_n C dX4_dropEmpty_23 0 rfl ?_
          refine zj_get C 0 4 1 (v := .ref a1) inZ4 rfl rfl (by decide) tg_77 rfl dX4_dropEmpty_24 ?_
          refine zj_iload_n C dX4_dropEmpty_27 2 rfl ?_
          refine zj_iald C 1 (f := (gOd_ho X)) k (nI_clamp (by omega)) (vp_in_nI (by omega) (by omega)) rfl dX4_dropEmpty_28 ?_
          refine zj_aload_n C dX4_dropEmpty_29 0 rfl ?_
          refine zj_get C 0 4 2 (v := .ref a2) inZ4 rfl rfl (by decide) tg_80 rfl dX4_dropEmpty_30 ?_
          refine zj_iload_n C dX4_dropEmpty_33 2 rfl ?_
          refine zj_iald C 2 (f := (gOd_sz X)) k (nI_clamp (by omega)) (vp_in_nI (by omega) (by omega)) rfl dX4_dropEmpty_34 ?_
          refine zj_aload_n C dX4_dropEmpty_35 0 rfl ?_
          refine zj_get C 0 4 3 (v := .ref a3) inZ4 rfl rfl (by decide) tg_83 rfl dX4_dropEmpty_36 ?_
          refine zj_iload_n C dX4_dropEmpty_39 2 rfl ?_
          refine zj_iald C 3 (f := (gOd_dy X)) k (nI_clamp (by omega)) (vp_in_nI (by omega) (by omega)) rfl dX4_dropEmpty_40 ?_
          have M_41 := c_X4_write l D cy a0 a1 a2 a3 kp ((gOd_ho X) k) ((gOd_sz X) k) ((gOd_dy X) k) X (by omega)
          obtain ⟨T_41, hT_41⟩ : ∃ g : zOd, g = (f_X4_write X kp ((gOd_ho X) k) ((gOd_sz X) k) ((gOd_dy X) k)) := ⟨_, rfl⟩
          rw [← hT_41] at M_41
          refine zj_callV C (nn := 4) (ws' := (WO cy a0 a1 a2 a3 T_41)) (st := []) (st1 := []) 0 4 [0, 1, 2, 3] (M_41) (zg_V tg_323 tg_320 tg_322 tgp_0 tg_4) ⟨rfl, hdZ_X4_write⟩ ⟨rfl, rfl⟩ ⟨by decide, by decide⟩ rfl rfl rfl (by decide) ⟨rfl, rfl⟩ rfl rfl (Nat.le_of_ble_eq_true rfl) dX4_dropEmpty_41 rfl rfl ?_
          refine zj_iinc C (j := 1) (v := (nI (kp + 1))) (L' := [(1, .int (nI (kp + 1))), (0, .ref a0), (2, .int (nI k))]) dX4_dropEmpty_44 rfl (nI_1 _) (by decide) rfl ?_
          refine zj_sub (L' := [(0, .ref a0), (1, .int (nI (kp + 1))), (2, .int (nI k))]) [1, 0, 2] rfl ?_
          subst hT_41
          exact J_18 (kp + 1) (f_X4_write X kp ((gOd_ho X) k) ((gOd_sz X) k) ((gOd_dy X) k)) (by simp only [if_neg c_9, if_neg c_18]; first | done | assumption) (by simp only [if_neg c_9, if_neg c_18]; first | done | assumption)
  have K_4 : ∀ (X1 : zOd) (kp1 : Nat) (k1 : Nat), X1 = ((L_X4_drop  (gOd_n o - 0 + 1) o 0 0).1) → kp1 = ((L_X4_drop  (gOd_n o - 0 + 1) o 0 0).2.1) → k1 = ((L_X4_drop  (gOd_n o - 0 + 1) o 0 0).2.2) → zJ E 3 0 0 (WO cy a0 a1 a2 a3 X1) 53 [(0, .ref a0), (1, .int (nI kp1))] [] := by
    intro X1 kp1 k1 hX1 hkp1 hk1 
    refine zj_aload_n C dX4_dropEmpty_53 0 rfl ?_
    refine zj_iload_n C dX4_dropEmpty_54 1 rfl ?_
    refine zj_put C 0 4 0 (v := .int (nI kp1)) (ws' := (WO cy a0 a1 a2 a3 (sOd_n X1 kp1))) tyX4 tyX4_ok nmX4 inZ4 rfl rfl (by decide) tg_75 rfl rfl rfl (Nat.le_of_ble_eq_true rfl) dX4_dropEmpty_55 rfl ?_
    subst hk1
    subst hkp1
    subst hX1
    have e : f_X4_dropEmpty o = (sOd_n ((L_X4_drop  (gOd_n o - 0 + 1) o 0 0).1) ((L_X4_drop  (gOd_n o - 0 + 1) o 0 0).2.1)) := by rfl
    rw [e] at hret
    exact hret _ _ dX4_dropEmpty_58
  refine zj_sub (L' := [(0, .ref a0), (1, .int (nI 0)), (2, .int (nI 0))]) [2, 1, 0] rfl ?_
  exact loop_4 (gOd_n o - 0 + 1) o 0 0 rfl (by omega) (by omega) (Nat.lt_succ_self _) (K_4 _ _ _ rfl rfl rfl)

noncomputable def L_X4_bec (q : zOd) (V_5 : Nat) : Nat → (zOd) → (Nat) → (zOd) × (Nat)
  | 0, X, k => (X, k)
  | fuel + 1, X, k =>
    if (gOd_n X) ≤ k then
      (X, k)
    else
      let T_38 : zOd := (f_X4_write X k ((gOd_ho q) k) ((gOd_sz q) k) ((gOd_dy q) k))
      L_X4_bec q V_5 fuel T_38 (k + 1)
theorem L_X4_bec_s (q : zOd) (V_5 : Nat) (fuel : Nat) (X : zOd) (k : Nat) : L_X4_bec q V_5 (fuel + 1) X k = (
    if (gOd_n X) ≤ k then
      (X, k)
    else
      let T_38 : zOd := (f_X4_write X k ((gOd_ho q) k) ((gOd_sz q) k) ((gOd_dy q) k))
      L_X4_bec q V_5 fuel T_38 (k + 1)
  ) := rfl
noncomputable def f_X4_become (o : zOd) (q : zOd) : zOd :=
  let V_5 : Nat := (gOd_n q)
  let X1 : zOd := ((L_X4_bec q V_5 (gOd_n q - 0 + 1) (sOd_n o V_5) 0).1)
  let k1 : Nat := ((L_X4_bec q V_5 (gOd_n q - 0 + 1) (sOd_n o V_5) 0).2)
  X1
set_option maxHeartbeats 4000000 in
set_option maxRecDepth 100000 in
theorem c_X4_become (l : Launch) (D : va_G) (cy : Nat → ClassId) (a0 a1 a2 a3 b0 b1 b2 b3 : Nat)  (o : zOd) (q : zOd) (hn : gOd_n q ≤ 20) : zC l yX4_become (zW yX4_become cX4_become 3 (Option.none : Option Jvm.ClassFile.FieldType)) { frames := 1, cells := 0, slots := 0, locals := 24 } D cy [.ref a0, .ref b0] ((WO cy a0 a1 a2 a3 o) ++ (WO cy b0 b1 b2 b3 q)) none ((WO cy a0 a1 a2 a3 (f_X4_become o q)) ++ (WO cy b0 b1 b2 b3 q)) := by
  refine zC_of rfl (Nat.le_of_ble_eq_true rfl) zOk_v (fun E C hret => ?_)
  show zJ E 3 0 0 ((WO cy a0 a1 a2 a3 o) ++ (WO cy b0 b1 b2 b3 q)) 0 [(0, .ref a0), (1, .ref b0)] []
  refine zj_aload_n C dX4_become_0 0 rfl ?_
  refine zj_aload_n C dX4_become_1 1 rfl ?_
  refine zj_get C 4 4 0 (v := .int (nI (gOd_n q))) inZ4 rfl rfl (by decide) tg_75 rfl dX4_become_2 ?_
  obtain ⟨V_5, hV_5⟩ : ∃ g : Nat, g = (gOd_n q) := ⟨_, rfl⟩
  refine zj_topi (nI V_5) (congrArg nI hV_5.symm) ?_
  refine zj_put C 0 4 0 (v := .int (nI V_5)) (ws' := ((WO cy a0 a1 a2 a3 (sOd_n o V_5)) ++ (WO cy b0 b1 b2 b3 q))) tyX4 tyX4_ok nmX4 inZ4 rfl rfl (by decide) tg_75 rfl rfl rfl (Nat.le_of_ble_eq_true rfl) dX4_become_5 rfl ?_
  refine zj_iconst C (v := (nI 0)) dX4_become_8 (by decide) ?_
  refine zj_istore_n C (L' := [(2, .int (nI 0)), (0, .ref a0), (1, .ref b0)]) dX4_become_9 rfl (by decide) rfl ?_
  have loop_10 : ∀ (fuel : Nat) (X : zOd) (k : Nat), (hX : gOd_n X = gOd_n q) → (hk : k ≤ gOd_n q) → gOd_n q - k < fuel → (zJ E 3 0 0 ((WO cy a0 a1 a2 a3 ((L_X4_bec q V_5 fuel X k).1)) ++ (WO cy b0 b1 b2 b3 q)) 47 [(0, .ref a0)] []) → zJ E 3 0 0 ((WO cy a0 a1 a2 a3 X) ++ (WO cy b0 b1 b2 b3 q)) 10 [(0, .ref a0), (1, .ref b0), (2, .int (nI k))] [] := by
    intro fuel
    induction fuel with
    | zero => intro X k hX hk hmu; exact absurd hmu (Nat.not_lt_zero _)
    | succ fuel ih_10 =>
      intro X k hX hk hmu_10 K_10
      refine zj_iload_n C dX4_become_10 2 rfl ?_
      refine zj_aload_n C dX4_become_11 0 rfl ?_
      refine zj_get C 0 4 0 (v := .int (nI (gOd_n X))) inZ4 rfl rfl (by decide) tg_75 rfl dX4_become_12 ?_
      refine zj_icmp_ge C 47 dX4_become_15 (by decide) (fun c => ?_) (fun c => ?_)
      · have c_15 : (gOd_n X) ≤ k := ((nI_leI (by omega) (by omega)).mp c)
        refine zj_sub (L' := [(0, .ref a0)]) [0] rfl ?_
        have e_10 : (L_X4_bec q V_5 (fuel + 1) X k) = (X, k) := by refine (L_X4_bec_s q V_5 fuel X k).trans ?_; refine (if_pos c_15).trans ?_; rfl
        rw [e_10] at K_10
        exact K_10 
      · have c_15 : ¬ ((gOd_n X) ≤ k) := (fun q => c ((nI_leI (by omega) (by omega)).mpr q))
        refine zj_aload_n C dX4_become_18 0 rfl ?_
        refine zj_iload_n C dX4_become_19 2 rfl ?_
        refine zj_aload_n C dX4_become_20 1 rfl ?_
        refine zj_get C 4 4 1 (v := .ref b1) inZ4 rfl rfl (by decide) tg_77 rfl dX4_become_21 ?_
        refine zj_iload_n C dX4_become_24 2 rfl ?_
        refine zj_iald C 5 (f := (gOd_ho q)) k (nI_clamp (by omega)) (vp_in_nI (by omega) (by omega)) rfl dX4_become_25 ?_
        refine zj_aload_n C dX4_become_26 1 rfl ?_
        refine zj_get C 4 4 2 (v := .ref b2) inZ4 rfl rfl (by decide) tg_80 rfl dX4_become_27 ?_
        refine zj_iload_n C dX4_become_30 2 rfl ?_
        refine zj_iald C 6 (f := (gOd_sz q)) k (nI_clamp (by omega)) (vp_in_nI (by omega) (by omega)) rfl dX4_become_31 ?_
        refine zj_aload_n C dX4_become_32 1 rfl ?_
        refine zj_get C 4 4 3 (v := .ref b3) inZ4 rfl rfl (by decide) tg_83 rfl dX4_become_33 ?_
        refine zj_iload_n C dX4_become_36 2 rfl ?_
        refine zj_iald C 7 (f := (gOd_dy q)) k (nI_clamp (by omega)) (vp_in_nI (by omega) (by omega)) rfl dX4_become_37 ?_
        have M_38 := c_X4_write l D cy a0 a1 a2 a3 k ((gOd_ho q) k) ((gOd_sz q) k) ((gOd_dy q) k) X (by omega)
        obtain ⟨T_38, hT_38⟩ : ∃ g : zOd, g = (f_X4_write X k ((gOd_ho q) k) ((gOd_sz q) k) ((gOd_dy q) k)) := ⟨_, rfl⟩
        rw [← hT_38] at M_38
        refine zj_callV C (nn := 4) (ws' := ((WO cy a0 a1 a2 a3 T_38) ++ (WO cy b0 b1 b2 b3 q))) (st := []) (st1 := []) 0 4 [0, 1, 2, 3] (M_38) (zg_V tg_323 tg_320 tg_322 tgp_0 tg_4) ⟨rfl, hdZ_X4_write⟩ ⟨rfl, rfl⟩ ⟨by decide, by decide⟩ rfl rfl rfl (by decide) ⟨rfl, rfl⟩ rfl rfl (Nat.le_of_ble_eq_true rfl) dX4_become_38 rfl rfl ?_
        refine zj_iinc C (j := 2) (v := (nI (k + 1))) (L' := [(2, .int (nI (k + 1))), (0, .ref a0), (1, .ref b0)]) dX4_become_41 rfl (nI_1 _) (by decide) rfl ?_
        refine zj_goto C 10 dX4_become_44 (by decide) ?_
        refine zj_sub (L' := [(0, .ref a0), (1, .ref b0), (2, .int (nI (k + 1)))]) [1, 2, 0] rfl ?_
        have hn_hX : gOd_n T_38 = gOd_n q := (by rw [hT_38]; exact hX)
        have hn_hk : (k + 1) ≤ gOd_n q := (by omega)
        have hn_mu : gOd_n q - (k + 1) < fuel := (by omega)
        subst hT_38
        have e_10 : (L_X4_bec q V_5 (fuel + 1) X k) = (L_X4_bec q V_5 fuel (f_X4_write X k ((gOd_ho q) k) ((gOd_sz q) k) ((gOd_dy q) k)) (k + 1)) := by refine (L_X4_bec_s q V_5 fuel X k).trans ?_; refine (if_neg c_15).trans ?_; rfl
        rw [e_10] at K_10
        exact ih_10 (f_X4_write X k ((gOd_ho q) k) ((gOd_sz q) k) ((gOd_dy q) k)) (k + 1) hn_hX hn_hk hn_mu K_10
  have K_10 : ∀ (X1 : zOd) (k1 : Nat), X1 = ((L_X4_bec q V_5 (gOd_n q - 0 + 1) (sOd_n o V_5) 0).1) → k1 = ((L_X4_bec q V_5 (gOd_n q - 0 + 1) (sOd_n o V_5) 0).2) → zJ E 3 0 0 ((WO cy a0 a1 a2 a3 X1) ++ (WO cy b0 b1 b2 b3 q)) 47 [(0, .ref a0)] [] := by
    intro X1 k1 hX1 hk1 
    subst hk1
    subst hX1
    subst hV_5
    have e : f_X4_become o q = ((L_X4_bec q (gOd_n q) (gOd_n q - 0 + 1) (sOd_n o (gOd_n q)) 0).1) := by rfl
    rw [e] at hret
    exact hret _ _ dX4_become_47
  refine zj_sub (L' := [(0, .ref a0), (1, .ref b0), (2, .int (nI 0))]) [1, 2, 0] rfl ?_
  exact loop_10 (gOd_n q - 0 + 1) (sOd_n o V_5) 0 hV_5 (by omega) (Nat.lt_succ_self _) (K_10 _ _ rfl rfl)
