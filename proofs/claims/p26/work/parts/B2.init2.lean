/-! the constructors of the past and of the class -/

set_option maxHeartbeats 4000000 in
set_option maxRecDepth 100000 in
theorem c_X1_init (l : Launch) (D : va_G) (cy : Nat → ClassId) (a0 : Nat) : zN l yX1_init (zW yX1_init cX1_init 2 (Option.none : Option Jvm.ClassFile.FieldType)) { frames := 3, cells := 127, slots := 1407, locals := 53 } D cy [.ref a0] [(a0, .inr (1, [.null, .int 0, .int 0]))] (fun w => ∃ (h1 : Nat) (hs : Nat → Nat → Nat), w = ([WHo cy a0 h1 hs 0 0] ++ WHL cy hs (fun _ => t0)).flatten) 127 1407 := by
  refine zN_of rfl (Nat.le_of_ble_eq_true rfl) (fun E C hin hAO hret => ?_)
  show zJ E 2 0 0 ([(a0, .inr (1, [.null, .int 0, .int 0]))] : va_W) 0 [(0, .ref a0)] []
  refine zj_aload_n C dX1_init_0 0 rfl ?_
  refine zj_objInit C tg_262 ⟨Nat.le_of_ble_eq_true rfl, Nat.le_of_ble_eq_true rfl⟩ dX1_init_1 ?_
  refine zj_aload_n C dX1_init_4 0 rfl ?_
  refine zj_bipush C (v := (nI 7)) dX1_init_5 rfl ?_
  refine zj_newq C (Cn := "SwingUnits$Trust") (N' := 7) 5 rfl tg_263 hAO.2 (by decide) rfl (by decide) ⟨Nat.le_of_ble_eq_true rfl, Nat.le_of_ble_eq_true rfl⟩ dX1_init_7 (fun q0 => ?_)
  show zJ E 2 1 7 ([(a0, .inr (1, [.null, .int 0, .int 0])), (q0, .inl (cy 5, 7, .inr (.inr (.inr (.inr (fun _ => none))))))] : va_W) 10 [(0, .ref a0)] [.ref q0, .ref a0]
  refine zj_putF C hin 0 1 0 (v := .ref q0) (ws' := ([(a0, .inr (1, [.ref q0, .int 0, .int 0])), (q0, .inl (cy 5, 7, .inr (.inr (.inr (.inr (fun _ => none))))))] : va_W)) tyX1 tyX1_ok nmX1 inZ1 rfl rfl (by decide) tg_266 rfl rfl rfl rfl (Nat.le_of_ble_eq_true rfl) dX1_init_10 rfl ?_
  refine zj_iconst C (v := (nI 0)) dX1_init_13 rfl ?_
  refine zj_istore_n C (L' := [(1, .int (nI 0)), (0, .ref a0)]) dX1_init_14 rfl (by decide) rfl ?_
  refine zj_iload_n C dX1_init_15 0 rfl ?_
  refine zj_bipush C (v := (nI 6)) dX1_init_16 rfl ?_
  refine zj_icmp_gt C 40 dX1_init_18 (by decide) (fun c => absurd c (by decide)) (fun _ => ?_)
  refine zj_aload_n C dX1_init_21 1 rfl ?_
  refine zj_get C 0 1 0 (v := .ref q0) inZ1 rfl rfl (by decide) tg_266 rfl dX1_init_22 ?_
  refine zj_iload_n C dX1_init_25 0 rfl ?_
  refine zj_make C hAO (ci := 6) (mc := 17) (ms := 189) (fs := [.long 0, .long 0, .long 0, .int 0, .int 0, .int 0, .null, .null, .null, .null, .null]) (Post := fun q w => ∃ a : Nat → Nat, a 0 = q ∧ w = WT cy a t0) tyX6 tyX6_ok inZ6 tg_263 tg_20 tg_2 rfl (fun j hj => by rcases (show j = 0 ∨ j = 1 ∨ j = 2 ∨ j = 3 ∨ j = 4 ∨ j = 5 ∨ j = 6 ∨ j = 7 ∨ j = 8 ∨ j = 9 ∨ j = 10 by omega) with rfl | rfl | rfl | rfl | rfl | rfl | rfl | rfl | rfl | rfl | rfl <;> rfl) (fun q => c_X6_init l D cy q) tg_23 tg_265 tg_22 ⟨rfl, rfl⟩ (by decide +kernel) ⟨rfl, rfl⟩ ⟨Nat.le_of_ble_eq_true rfl, Nat.le_of_ble_eq_true rfl⟩ ⟨Nat.le_of_ble_eq_true rfl, Nat.le_of_ble_eq_true rfl⟩ (Nat.le_of_ble_eq_true rfl) dX1_init_26 dX1_init_29 dX1_init_30 (fun q1 w hw => ?_)
  obtain ⟨q1a, rfl, rfl⟩ := hw
  show zJ E 2 19 207 (([(a0, .inr (1, [.ref q0, .int 0, .int 0])), (q0, .inl (cy 5, 7, .inr (.inr (.inr (.inr (fun _ => none))))))] ++ (WT cy q1a t0)) : va_W) 33 [(1, .int (nI 0)), (0, .ref a0)] [.ref (q1a 0), .int (nI 0), .ref q0]
  refine zj_astq C 1 5 2 6 (f := (fun _ => none)) (v := (q1a 0)) 0 rfl (ws' := (([(a0, .inr (1, [.ref q0, .int 0, .int 0])), (q0, .inl (cy 5, 7, .inr (.inr (.inr (.inr (va_up (fun _ => none) 0 (some (q1a 0))))))))] ++ (WT cy q1a t0)) : va_W)) rfl rfl rfl rfl (vp_in_nI (by decide) (by decide)) dX1_init_33 rfl ?_
  refine zj_iinc C (j := 0) (v := nI 1) (L' := [(1, .int (nI 1)), (0, .ref a0)]) dX1_init_34 rfl rfl (by decide) rfl ?_
  refine zj_goto C 15 dX1_init_37 (by decide) ?_
  refine zj_iload_n C dX1_init_15 0 rfl ?_
  refine zj_bipush C (v := (nI 6)) dX1_init_16 rfl ?_
  refine zj_icmp_gt C 40 dX1_init_18 (by decide) (fun c => absurd c (by decide)) (fun _ => ?_)
  refine zj_aload_n C dX1_init_21 1 rfl ?_
  refine zj_get C 0 1 0 (v := .ref q0) inZ1 rfl rfl (by decide) tg_266 rfl dX1_init_22 ?_
  refine zj_iload_n C dX1_init_25 0 rfl ?_
  refine zj_make C hAO (ci := 6) (mc := 17) (ms := 189) (fs := [.long 0, .long 0, .long 0, .int 0, .int 0, .int 0, .null, .null, .null, .null, .null]) (Post := fun q w => ∃ a : Nat → Nat, a 0 = q ∧ w = WT cy a t0) tyX6 tyX6_ok inZ6 tg_263 tg_20 tg_2 rfl (fun j hj => by rcases (show j = 0 ∨ j = 1 ∨ j = 2 ∨ j = 3 ∨ j = 4 ∨ j = 5 ∨ j = 6 ∨ j = 7 ∨ j = 8 ∨ j = 9 ∨ j = 10 by omega) with rfl | rfl | rfl | rfl | rfl | rfl | rfl | rfl | rfl | rfl | rfl <;> rfl) (fun q => c_X6_init l D cy q) tg_23 tg_265 tg_22 ⟨rfl, rfl⟩ (by decide +kernel) ⟨rfl, rfl⟩ ⟨Nat.le_of_ble_eq_true rfl, Nat.le_of_ble_eq_true rfl⟩ ⟨Nat.le_of_ble_eq_true rfl, Nat.le_of_ble_eq_true rfl⟩ (Nat.le_of_ble_eq_true rfl) dX1_init_26 dX1_init_29 dX1_init_30 (fun q2 w hw => ?_)
  obtain ⟨q2a, rfl, rfl⟩ := hw
  show zJ E 2 37 407 ((([(a0, .inr (1, [.ref q0, .int 0, .int 0])), (q0, .inl (cy 5, 7, .inr (.inr (.inr (.inr (va_up (fun _ => none) 0 (some (q1a 0))))))))] ++ (WT cy q1a t0)) ++ (WT cy q2a t0)) : va_W) 33 [(1, .int (nI 1)), (0, .ref a0)] [.ref (q2a 0), .int (nI 1), .ref q0]
  refine zj_astq C 1 5 20 6 (f := (va_up (fun _ => none) 0 (some (q1a 0)))) (v := (q2a 0)) 1 rfl (ws' := ((([(a0, .inr (1, [.ref q0, .int 0, .int 0])), (q0, .inl (cy 5, 7, .inr (.inr (.inr (.inr (va_up (va_up (fun _ => none) 0 (some (q1a 0))) 1 (some (q2a 0))))))))] ++ (WT cy q1a t0)) ++ (WT cy q2a t0)) : va_W)) rfl rfl rfl rfl (vp_in_nI (by decide) (by decide)) dX1_init_33 rfl ?_
  refine zj_iinc C (j := 0) (v := nI 2) (L' := [(1, .int (nI 2)), (0, .ref a0)]) dX1_init_34 rfl rfl (by decide) rfl ?_
  refine zj_goto C 15 dX1_init_37 (by decide) ?_
  refine zj_iload_n C dX1_init_15 0 rfl ?_
  refine zj_bipush C (v := (nI 6)) dX1_init_16 rfl ?_
  refine zj_icmp_gt C 40 dX1_init_18 (by decide) (fun c => absurd c (by decide)) (fun _ => ?_)
  refine zj_aload_n C dX1_init_21 1 rfl ?_
  refine zj_get C 0 1 0 (v := .ref q0) inZ1 rfl rfl (by decide) tg_266 rfl dX1_init_22 ?_
  refine zj_iload_n C dX1_init_25 0 rfl ?_
  refine zj_make C hAO (ci := 6) (mc := 17) (ms := 189) (fs := [.long 0, .long 0, .long 0, .int 0, .int 0, .int 0, .null, .null, .null, .null, .null]) (Post := fun q w => ∃ a : Nat → Nat, a 0 = q ∧ w = WT cy a t0) tyX6 tyX6_ok inZ6 tg_263 tg_20 tg_2 rfl (fun j hj => by rcases (show j = 0 ∨ j = 1 ∨ j = 2 ∨ j = 3 ∨ j = 4 ∨ j = 5 ∨ j = 6 ∨ j = 7 ∨ j = 8 ∨ j = 9 ∨ j = 10 by omega) with rfl | rfl | rfl | rfl | rfl | rfl | rfl | rfl | rfl | rfl | rfl <;> rfl) (fun q => c_X6_init l D cy q) tg_23 tg_265 tg_22 ⟨rfl, rfl⟩ (by decide +kernel) ⟨rfl, rfl⟩ ⟨Nat.le_of_ble_eq_true rfl, Nat.le_of_ble_eq_true rfl⟩ ⟨Nat.le_of_ble_eq_true rfl, Nat.le_of_ble_eq_true rfl⟩ (Nat.le_of_ble_eq_true rfl) dX1_init_26 dX1_init_29 dX1_init_30 (fun q3 w hw => ?_)
  obtain ⟨q3a, rfl, rfl⟩ := hw
  show zJ E 2 55 607 (((([(a0, .inr (1, [.ref q0, .int 0, .int 0])), (q0, .inl (cy 5, 7, .inr (.inr (.inr (.inr (va_up (va_up (fun _ => none) 0 (some (q1a 0))) 1 (some (q2a 0))))))))] ++ (WT cy q1a t0)) ++ (WT cy q2a t0)) ++ (WT cy q3a t0)) : va_W) 33 [(1, .int (nI 2)), (0, .ref a0)] [.ref (q3a 0), .int (nI 2), .ref q0]
  refine zj_astq C 1 5 38 6 (f := (va_up (va_up (fun _ => none) 0 (some (q1a 0))) 1 (some (q2a 0)))) (v := (q3a 0)) 2 rfl (ws' := (((([(a0, .inr (1, [.ref q0, .int 0, .int 0])), (q0, .inl (cy 5, 7, .inr (.inr (.inr (.inr (va_up (va_up (va_up (fun _ => none) 0 (some (q1a 0))) 1 (some (q2a 0))) 2 (some (q3a 0))))))))] ++ (WT cy q1a t0)) ++ (WT cy q2a t0)) ++ (WT cy q3a t0)) : va_W)) rfl rfl rfl rfl (vp_in_nI (by decide) (by decide)) dX1_init_33 rfl ?_
  refine zj_iinc C (j := 0) (v := nI 3) (L' := [(1, .int (nI 3)), (0, .ref a0)]) dX1_init_34 rfl rfl (by decide) rfl ?_
  refine zj_goto C 15 dX1_init_37 (by decide) ?_
  refine zj_iload_n C dX1_init_15 0 rfl ?_
  refine zj_bipush C (v := (nI 6)) dX1_init_16 rfl ?_
  refine zj_icmp_gt C 40 dX1_init_18 (by decide) (fun c => absurd c (by decide)) (fun _ => ?_)
  refine zj_aload_n C dX1_init_21 1 rfl ?_
  refine zj_get C 0 1 0 (v := .ref q0) inZ1 rfl rfl (by decide) tg_266 rfl dX1_init_22 ?_
  refine zj_iload_n C dX1_init_25 0 rfl ?_
  refine zj_make C hAO (ci := 6) (mc := 17) (ms := 189) (fs := [.long 0, .long 0, .long 0, .int 0, .int 0, .int 0, .null, .null, .null, .null, .null]) (Post := fun q w => ∃ a : Nat → Nat, a 0 = q ∧ w = WT cy a t0) tyX6 tyX6_ok inZ6 tg_263 tg_20 tg_2 rfl (fun j hj => by rcases (show j = 0 ∨ j = 1 ∨ j = 2 ∨ j = 3 ∨ j = 4 ∨ j = 5 ∨ j = 6 ∨ j = 7 ∨ j = 8 ∨ j = 9 ∨ j = 10 by omega) with rfl | rfl | rfl | rfl | rfl | rfl | rfl | rfl | rfl | rfl | rfl <;> rfl) (fun q => c_X6_init l D cy q) tg_23 tg_265 tg_22 ⟨rfl, rfl⟩ (by decide +kernel) ⟨rfl, rfl⟩ ⟨Nat.le_of_ble_eq_true rfl, Nat.le_of_ble_eq_true rfl⟩ ⟨Nat.le_of_ble_eq_true rfl, Nat.le_of_ble_eq_true rfl⟩ (Nat.le_of_ble_eq_true rfl) dX1_init_26 dX1_init_29 dX1_init_30 (fun q4 w hw => ?_)
  obtain ⟨q4a, rfl, rfl⟩ := hw
  show zJ E 2 73 807 ((((([(a0, .inr (1, [.ref q0, .int 0, .int 0])), (q0, .inl (cy 5, 7, .inr (.inr (.inr (.inr (va_up (va_up (va_up (fun _ => none) 0 (some (q1a 0))) 1 (some (q2a 0))) 2 (some (q3a 0))))))))] ++ (WT cy q1a t0)) ++ (WT cy q2a t0)) ++ (WT cy q3a t0)) ++ (WT cy q4a t0)) : va_W) 33 [(1, .int (nI 3)), (0, .ref a0)] [.ref (q4a 0), .int (nI 3), .ref q0]
  refine zj_astq C 1 5 56 6 (f := (va_up (va_up (va_up (fun _ => none) 0 (some (q1a 0))) 1 (some (q2a 0))) 2 (some (q3a 0)))) (v := (q4a 0)) 3 rfl (ws' := ((((([(a0, .inr (1, [.ref q0, .int 0, .int 0])), (q0, .inl (cy 5, 7, .inr (.inr (.inr (.inr (va_up (va_up (va_up (va_up (fun _ => none) 0 (some (q1a 0))) 1 (some (q2a 0))) 2 (some (q3a 0))) 3 (some (q4a 0))))))))] ++ (WT cy q1a t0)) ++ (WT cy q2a t0)) ++ (WT cy q3a t0)) ++ (WT cy q4a t0)) : va_W)) rfl rfl rfl rfl (vp_in_nI (by decide) (by decide)) dX1_init_33 rfl ?_
  refine zj_iinc C (j := 0) (v := nI 4) (L' := [(1, .int (nI 4)), (0, .ref a0)]) dX1_init_34 rfl rfl (by decide) rfl ?_
  refine zj_goto C 15 dX1_init_37 (by decide) ?_
  refine zj_iload_n C dX1_init_15 0 rfl ?_
  refine zj_bipush C (v := (nI 6)) dX1_init_16 rfl ?_
  refine zj_icmp_gt C 40 dX1_init_18 (by decide) (fun c => absurd c (by decide)) (fun _ => ?_)
  refine zj_aload_n C dX1_init_21 1 rfl ?_
  refine zj_get C 0 1 0 (v := .ref q0) inZ1 rfl rfl (by decide) tg_266 rfl dX1_init_22 ?_
  refine zj_iload_n C dX1_init_25 0 rfl ?_
  refine zj_make C hAO (ci := 6) (mc := 17) (ms := 189) (fs := [.long 0, .long 0, .long 0, .int 0, .int 0, .int 0, .null, .null, .null, .null, .null]) (Post := fun q w => ∃ a : Nat → Nat, a 0 = q ∧ w = WT cy a t0) tyX6 tyX6_ok inZ6 tg_263 tg_20 tg_2 rfl (fun j hj => by rcases (show j = 0 ∨ j = 1 ∨ j = 2 ∨ j = 3 ∨ j = 4 ∨ j = 5 ∨ j = 6 ∨ j = 7 ∨ j = 8 ∨ j = 9 ∨ j = 10 by omega) with rfl | rfl | rfl | rfl | rfl | rfl | rfl | rfl | rfl | rfl | rfl <;> rfl) (fun q => c_X6_init l D cy q) tg_23 tg_265 tg_22 ⟨rfl, rfl⟩ (by decide +kernel) ⟨rfl, rfl⟩ ⟨Nat.le_of_ble_eq_true rfl, Nat.le_of_ble_eq_true rfl⟩ ⟨Nat.le_of_ble_eq_true rfl, Nat.le_of_ble_eq_true rfl⟩ (Nat.le_of_ble_eq_true rfl) dX1_init_26 dX1_init_29 dX1_init_30 (fun q5 w hw => ?_)
  obtain ⟨q5a, rfl, rfl⟩ := hw
  show zJ E 2 91 1007 (((((([(a0, .inr (1, [.ref q0, .int 0, .int 0])), (q0, .inl (cy 5, 7, .inr (.inr (.inr (.inr (va_up (va_up (va_up (va_up (fun _ => none) 0 (some (q1a 0))) 1 (some (q2a 0))) 2 (some (q3a 0))) 3 (some (q4a 0))))))))] ++ (WT cy q1a t0)) ++ (WT cy q2a t0)) ++ (WT cy q3a t0)) ++ (WT cy q4a t0)) ++ (WT cy q5a t0)) : va_W) 33 [(1, .int (nI 4)), (0, .ref a0)] [.ref (q5a 0), .int (nI 4), .ref q0]
  refine zj_astq C 1 5 74 6 (f := (va_up (va_up (va_up (va_up (fun _ => none) 0 (some (q1a 0))) 1 (some (q2a 0))) 2 (some (q3a 0))) 3 (some (q4a 0)))) (v := (q5a 0)) 4 rfl (ws' := (((((([(a0, .inr (1, [.ref q0, .int 0, .int 0])), (q0, .inl (cy 5, 7, .inr (.inr (.inr (.inr (va_up (va_up (va_up (va_up (va_up (fun _ => none) 0 (some (q1a 0))) 1 (some (q2a 0))) 2 (some (q3a 0))) 3 (some (q4a 0))) 4 (some (q5a 0))))))))] ++ (WT cy q1a t0)) ++ (WT cy q2a t0)) ++ (WT cy q3a t0)) ++ (WT cy q4a t0)) ++ (WT cy q5a t0)) : va_W)) rfl rfl rfl rfl (vp_in_nI (by decide) (by decide)) dX1_init_33 rfl ?_
  refine zj_iinc C (j := 0) (v := nI 5) (L' := [(1, .int (nI 5)), (0, .ref a0)]) dX1_init_34 rfl rfl (by decide) rfl ?_
  refine zj_goto C 15 dX1_init_37 (by decide) ?_
  refine zj_iload_n C dX1_init_15 0 rfl ?_
  refine zj_bipush C (v := (nI 6)) dX1_init_16 rfl ?_
  refine zj_icmp_gt C 40 dX1_init_18 (by decide) (fun c => absurd c (by decide)) (fun _ => ?_)
  refine zj_aload_n C dX1_init_21 1 rfl ?_
  refine zj_get C 0 1 0 (v := .ref q0) inZ1 rfl rfl (by decide) tg_266 rfl dX1_init_22 ?_
  refine zj_iload_n C dX1_init_25 0 rfl ?_
  refine zj_make C hAO (ci := 6) (mc := 17) (ms := 189) (fs := [.long 0, .long 0, .long 0, .int 0, .int 0, .int 0, .null, .null, .null, .null, .null]) (Post := fun q w => ∃ a : Nat → Nat, a 0 = q ∧ w = WT cy a t0) tyX6 tyX6_ok inZ6 tg_263 tg_20 tg_2 rfl (fun j hj => by rcases (show j = 0 ∨ j = 1 ∨ j = 2 ∨ j = 3 ∨ j = 4 ∨ j = 5 ∨ j = 6 ∨ j = 7 ∨ j = 8 ∨ j = 9 ∨ j = 10 by omega) with rfl | rfl | rfl | rfl | rfl | rfl | rfl | rfl | rfl | rfl | rfl <;> rfl) (fun q => c_X6_init l D cy q) tg_23 tg_265 tg_22 ⟨rfl, rfl⟩ (by decide +kernel) ⟨rfl, rfl⟩ ⟨Nat.le_of_ble_eq_true rfl, Nat.le_of_ble_eq_true rfl⟩ ⟨Nat.le_of_ble_eq_true rfl, Nat.le_of_ble_eq_true rfl⟩ (Nat.le_of_ble_eq_true rfl) dX1_init_26 dX1_init_29 dX1_init_30 (fun q6 w hw => ?_)
  obtain ⟨q6a, rfl, rfl⟩ := hw
  show zJ E 2 109 1207 ((((((([(a0, .inr (1, [.ref q0, .int 0, .int 0])), (q0, .inl (cy 5, 7, .inr (.inr (.inr (.inr (va_up (va_up (va_up (va_up (va_up (fun _ => none) 0 (some (q1a 0))) 1 (some (q2a 0))) 2 (some (q3a 0))) 3 (some (q4a 0))) 4 (some (q5a 0))))))))] ++ (WT cy q1a t0)) ++ (WT cy q2a t0)) ++ (WT cy q3a t0)) ++ (WT cy q4a t0)) ++ (WT cy q5a t0)) ++ (WT cy q6a t0)) : va_W) 33 [(1, .int (nI 5)), (0, .ref a0)] [.ref (q6a 0), .int (nI 5), .ref q0]
  refine zj_astq C 1 5 92 6 (f := (va_up (va_up (va_up (va_up (va_up (fun _ => none) 0 (some (q1a 0))) 1 (some (q2a 0))) 2 (some (q3a 0))) 3 (some (q4a 0))) 4 (some (q5a 0)))) (v := (q6a 0)) 5 rfl (ws' := ((((((([(a0, .inr (1, [.ref q0, .int 0, .int 0])), (q0, .inl (cy 5, 7, .inr (.inr (.inr (.inr (va_up (va_up (va_up (va_up (va_up (va_up (fun _ => none) 0 (some (q1a 0))) 1 (some (q2a 0))) 2 (some (q3a 0))) 3 (some (q4a 0))) 4 (some (q5a 0))) 5 (some (q6a 0))))))))] ++ (WT cy q1a t0)) ++ (WT cy q2a t0)) ++ (WT cy q3a t0)) ++ (WT cy q4a t0)) ++ (WT cy q5a t0)) ++ (WT cy q6a t0)) : va_W)) rfl rfl rfl rfl (vp_in_nI (by decide) (by decide)) dX1_init_33 rfl ?_
  refine zj_iinc C (j := 0) (v := nI 6) (L' := [(1, .int (nI 6)), (0, .ref a0)]) dX1_init_34 rfl rfl (by decide) rfl ?_
  refine zj_goto C 15 dX1_init_37 (by decide) ?_
  refine zj_iload_n C dX1_init_15 0 rfl ?_
  refine zj_bipush C (v := (nI 6)) dX1_init_16 rfl ?_
  refine zj_icmp_gt C 40 dX1_init_18 (by decide) (fun c => absurd c (by decide)) (fun _ => ?_)
  refine zj_aload_n C dX1_init_21 1 rfl ?_
  refine zj_get C 0 1 0 (v := .ref q0) inZ1 rfl rfl (by decide) tg_266 rfl dX1_init_22 ?_
  refine zj_iload_n C dX1_init_25 0 rfl ?_
  refine zj_make C hAO (ci := 6) (mc := 17) (ms := 189) (fs := [.long 0, .long 0, .long 0, .int 0, .int 0, .int 0, .null, .null, .null, .null, .null]) (Post := fun q w => ∃ a : Nat → Nat, a 0 = q ∧ w = WT cy a t0) tyX6 tyX6_ok inZ6 tg_263 tg_20 tg_2 rfl (fun j hj => by rcases (show j = 0 ∨ j = 1 ∨ j = 2 ∨ j = 3 ∨ j = 4 ∨ j = 5 ∨ j = 6 ∨ j = 7 ∨ j = 8 ∨ j = 9 ∨ j = 10 by omega) with rfl | rfl | rfl | rfl | rfl | rfl | rfl | rfl | rfl | rfl | rfl <;> rfl) (fun q => c_X6_init l D cy q) tg_23 tg_265 tg_22 ⟨rfl, rfl⟩ (by decide +kernel) ⟨rfl, rfl⟩ ⟨Nat.le_of_ble_eq_true rfl, Nat.le_of_ble_eq_true rfl⟩ ⟨Nat.le_of_ble_eq_true rfl, Nat.le_of_ble_eq_true rfl⟩ (Nat.le_of_ble_eq_true rfl) dX1_init_26 dX1_init_29 dX1_init_30 (fun q7 w hw => ?_)
  obtain ⟨q7a, rfl, rfl⟩ := hw
  show zJ E 2 127 1407 (((((((([(a0, .inr (1, [.ref q0, .int 0, .int 0])), (q0, .inl (cy 5, 7, .inr (.inr (.inr (.inr (va_up (va_up (va_up (va_up (va_up (va_up (fun _ => none) 0 (some (q1a 0))) 1 (some (q2a 0))) 2 (some (q3a 0))) 3 (some (q4a 0))) 4 (some (q5a 0))) 5 (some (q6a 0))))))))] ++ (WT cy q1a t0)) ++ (WT cy q2a t0)) ++ (WT cy q3a t0)) ++ (WT cy q4a t0)) ++ (WT cy q5a t0)) ++ (WT cy q6a t0)) ++ (WT cy q7a t0)) : va_W) 33 [(1, .int (nI 6)), (0, .ref a0)] [.ref (q7a 0), .int (nI 6), .ref q0]
  refine zj_astq C 1 5 110 6 (f := (va_up (va_up (va_up (va_up (va_up (va_up (fun _ => none) 0 (some (q1a 0))) 1 (some (q2a 0))) 2 (some (q3a 0))) 3 (some (q4a 0))) 4 (some (q5a 0))) 5 (some (q6a 0)))) (v := (q7a 0)) 6 rfl (ws' := (((((((([(a0, .inr (1, [.ref q0, .int 0, .int 0])), (q0, .inl (cy 5, 7, .inr (.inr (.inr (.inr (va_up (va_up (va_up (va_up (va_up (va_up (va_up (fun _ => none) 0 (some (q1a 0))) 1 (some (q2a 0))) 2 (some (q3a 0))) 3 (some (q4a 0))) 4 (some (q5a 0))) 5 (some (q6a 0))) 6 (some (q7a 0))))))))] ++ (WT cy q1a t0)) ++ (WT cy q2a t0)) ++ (WT cy q3a t0)) ++ (WT cy q4a t0)) ++ (WT cy q5a t0)) ++ (WT cy q6a t0)) ++ (WT cy q7a t0)) : va_W)) rfl rfl rfl rfl (vp_in_nI (by decide) (by decide)) dX1_init_33 rfl ?_
  refine zj_iinc C (j := 0) (v := nI 7) (L' := [(1, .int (nI 7)), (0, .ref a0)]) dX1_init_34 rfl rfl (by decide) rfl ?_
  refine zj_goto C 15 dX1_init_37 (by decide) ?_
  refine zj_iload_n C dX1_init_15 0 rfl ?_
  refine zj_bipush C (v := (nI 6)) dX1_init_16 rfl ?_
  refine zj_icmp_gt C 40 dX1_init_18 (by decide) (fun _ => ?_) (fun c => absurd (by decide) c)
  refine zj_cellq 1 (f := (va_up (va_up (va_up (va_up (va_up (va_up (va_up (fun _ => none) 0 (some (q1a 0))) 1 (some (q2a 0))) 2 (some (q3a 0))) 3 (some (q4a 0))) 4 (some (q5a 0))) 5 (some (q6a 0))) 6 (some (q7a 0)))) (g := fun k => some ((fun k => ([q1a, q2a, q3a, q4a, q5a, q6a, q7a] : List (Nat → Nat)).getD k (fun _ => 0)) k 0)) (ws' := (((((((([(a0, .inr (1, [.ref q0, .int 0, .int 0])), (q0, .inl (cy 5, 7, .inr (.inr (.inr (.inr (fun k => some ((fun k => ([q1a, q2a, q3a, q4a, q5a, q6a, q7a] : List (Nat → Nat)).getD k (fun _ => 0)) k 0)))))))] ++ (WT cy q1a t0)) ++ (WT cy q2a t0)) ++ (WT cy q3a t0)) ++ (WT cy q4a t0)) ++ (WT cy q5a t0)) ++ (WT cy q6a t0)) ++ (WT cy q7a t0)) : va_W)) rfl (fun j hj => by rcases (show j = 0 ∨ j = 1 ∨ j = 2 ∨ j = 3 ∨ j = 4 ∨ j = 5 ∨ j = 6 by omega) with rfl | rfl | rfl | rfl | rfl | rfl | rfl <;> rfl) rfl ?_
  exact hret _ _ _ ⟨q0, (fun k => ([q1a, q2a, q3a, q4a, q5a, q6a, q7a] : List (Nat → Nat)).getD k (fun _ => 0)), rfl⟩ dX1_init_40


set_option maxHeartbeats 4000000 in
set_option maxRecDepth 100000 in
theorem c_X7_init (l : Launch) (D : va_G) (cy : Nat → ClassId) (a0 : Nat) : zN l yX7_init (zW yX7_init cX7_init 2 (Option.none : Option Jvm.ClassFile.FieldType)) { frames := 4, cells := 206, slots := 2328, locals := 74 } D cy [.ref a0] [(a0, .inr (7, [.null, .null, .null, .null, .null, .null, .null]))] (fun w => ∃ (b : Nat → Nat) (d0 d1 p0 p1 h0 h1 x1 x2 : Nat) (a : Nat → Nat) (hs sl : Nat → Nat → Nat), w = ([WX0 a0 x1 x2 a b d0 p0 h0, WT cy a t0, WT cy b t0, WD cy d0 d1 dd0, WP cy p0 p1 pd0, WHo cy h0 h1 hs 0 0] ++ (WHL cy hs (fun _ => t0) ++ ([WX1 cy x1 sl] ++ (WSL cy sl (fun _ => t0) ++ [WX2 cy x2 (fun _ => 0)])))).flatten) 206 2328 := by
  refine zN_of rfl (Nat.le_of_ble_eq_true rfl) (fun E C hin hAO hret => ?_)
  show zJ E 2 0 0 ([(a0, .inr (7, [.null, .null, .null, .null, .null, .null, .null]))] : va_W) 0 [(0, .ref a0)] []
  refine zj_aload_n C dX7_init_0 0 rfl ?_
  refine zj_objInit C tg_16 ⟨Nat.le_of_ble_eq_true rfl, Nat.le_of_ble_eq_true rfl⟩ dX7_init_1 ?_
  refine zj_aload_n C dX7_init_4 0 rfl ?_
  refine zj_make C hAO (ci := 6) (mc := 17) (ms := 189) (fs := [.long 0, .long 0, .long 0, .int 0, .int 0, .int 0, .null, .null, .null, .null, .null]) (Post := fun q w => ∃ a : Nat → Nat, a 0 = q ∧ w = WT cy a t0) tyX6 tyX6_ok inZ6 tg_19 tg_20 tg_2 rfl (fun j hj => by rcases (show j = 0 ∨ j = 1 ∨ j = 2 ∨ j = 3 ∨ j = 4 ∨ j = 5 ∨ j = 6 ∨ j = 7 ∨ j = 8 ∨ j = 9 ∨ j = 10 by omega) with rfl | rfl | rfl | rfl | rfl | rfl | rfl | rfl | rfl | rfl | rfl <;> rfl) (fun q => c_X6_init l D cy q) tg_23 tg_21 tg_22 ⟨rfl, rfl⟩ (by decide +kernel) ⟨rfl, rfl⟩ ⟨Nat.le_of_ble_eq_true rfl, Nat.le_of_ble_eq_true rfl⟩ ⟨Nat.le_of_ble_eq_true rfl, Nat.le_of_ble_eq_true rfl⟩ (Nat.le_of_ble_eq_true rfl) dX7_init_5 dX7_init_8 dX7_init_9 (fun q0 w hw => ?_)
  obtain ⟨q0a, rfl, rfl⟩ := hw
  show zJ E 2 18 200 (([(a0, .inr (7, [.null, .null, .null, .null, .null, .null, .null]))] ++ (WT cy q0a t0)) : va_W) 12 [(0, .ref a0)] [.ref (q0a 0), .ref a0]
  refine zj_putF C hin 0 7 0 (v := .ref (q0a 0)) (ws' := (([(a0, .inr (7, [.ref (q0a 0), .null, .null, .null, .null, .null, .null]))] ++ (WT cy q0a t0)) : va_W)) tyX7 tyX7_ok nmX7 inZ7 rfl rfl (by decide) tg_277 rfl rfl rfl rfl (Nat.le_of_ble_eq_true rfl) dX7_init_12 rfl ?_
  refine zj_aload_n C dX7_init_15 0 rfl ?_
  refine zj_make C hAO (ci := 6) (mc := 17) (ms := 189) (fs := [.long 0, .long 0, .long 0, .int 0, .int 0, .int 0, .null, .null, .null, .null, .null]) (Post := fun q w => ∃ a : Nat → Nat, a 0 = q ∧ w = WT cy a t0) tyX6 tyX6_ok inZ6 tg_19 tg_20 tg_2 rfl (fun j hj => by rcases (show j = 0 ∨ j = 1 ∨ j = 2 ∨ j = 3 ∨ j = 4 ∨ j = 5 ∨ j = 6 ∨ j = 7 ∨ j = 8 ∨ j = 9 ∨ j = 10 by omega) with rfl | rfl | rfl | rfl | rfl | rfl | rfl | rfl | rfl | rfl | rfl <;> rfl) (fun q => c_X6_init l D cy q) tg_23 tg_21 tg_22 ⟨rfl, rfl⟩ (by decide +kernel) ⟨rfl, rfl⟩ ⟨Nat.le_of_ble_eq_true rfl, Nat.le_of_ble_eq_true rfl⟩ ⟨Nat.le_of_ble_eq_true rfl, Nat.le_of_ble_eq_true rfl⟩ (Nat.le_of_ble_eq_true rfl) dX7_init_16 dX7_init_19 dX7_init_20 (fun q1 w hw => ?_)
  obtain ⟨q1a, rfl, rfl⟩ := hw
  show zJ E 2 36 400 ((([(a0, .inr (7, [.ref (q0a 0), .null, .null, .null, .null, .null, .null]))] ++ (WT cy q0a t0)) ++ (WT cy q1a t0)) : va_W) 23 [(0, .ref a0)] [.ref (q1a 0), .ref a0]
  refine zj_putF C hin 0 7 1 (v := .ref (q1a 0)) (ws' := ((([(a0, .inr (7, [.ref (q0a 0), .ref (q1a 0), .null, .null, .null, .null, .null]))] ++ (WT cy q0a t0)) ++ (WT cy q1a t0)) : va_W)) tyX7 tyX7_ok nmX7 inZ7 rfl rfl (by decide) tg_278 rfl rfl rfl rfl (Nat.le_of_ble_eq_true rfl) dX7_init_23 rfl ?_
  refine zj_aload_n C dX7_init_26 0 rfl ?_
  refine zj_make C hAO (ci := 0) (mc := 1) (ms := 20) (fs := [.long 0, .long 0, .long 0, .long 0, .long 0, .int 0, .null]) (Post := fun q w => ∃ d1 : Nat, w = WD cy q d1 dd0) tyX0 tyX0_ok inZ0 tg_191 tg_192 tg_6 rfl (fun j hj => by rcases (show j = 0 ∨ j = 1 ∨ j = 2 ∨ j = 3 ∨ j = 4 ∨ j = 5 ∨ j = 6 by omega) with rfl | rfl | rfl | rfl | rfl | rfl | rfl <;> rfl) (fun q => c_X0_init l D cy q) tg_195 tg_193 tg_194 ⟨rfl, rfl⟩ (by decide +kernel) ⟨rfl, rfl⟩ ⟨Nat.le_of_ble_eq_true rfl, Nat.le_of_ble_eq_true rfl⟩ ⟨Nat.le_of_ble_eq_true rfl, Nat.le_of_ble_eq_true rfl⟩ (Nat.le_of_ble_eq_true rfl) dX7_init_27 dX7_init_30 dX7_init_31 (fun q2 w hw => ?_)
  obtain ⟨q2a, rfl⟩ := hw
  show zJ E 2 38 427 (((([(a0, .inr (7, [.ref (q0a 0), .ref (q1a 0), .null, .null, .null, .null, .null]))] ++ (WT cy q0a t0)) ++ (WT cy q1a t0)) ++ (WD cy q2 q2a dd0)) : va_W) 34 [(0, .ref a0)] [.ref q2, .ref a0]
  refine zj_putF C hin 0 7 2 (v := .ref q2) (ws' := (((([(a0, .inr (7, [.ref (q0a 0), .ref (q1a 0), .ref q2, .null, .null, .null, .null]))] ++ (WT cy q0a t0)) ++ (WT cy q1a t0)) ++ (WD cy q2 q2a dd0)) : va_W)) tyX7 tyX7_ok nmX7 inZ7 rfl rfl (by decide) tg_279 rfl rfl rfl rfl (Nat.le_of_ble_eq_true rfl) dX7_init_34 rfl ?_
  refine zj_aload_n C dX7_init_37 0 rfl ?_
  refine zj_make C hAO (ci := 5) (mc := 1) (ms := 80) (fs := [.int 0, .null, .int 0, .int 0, .int 0, .int 0, .int 0]) (Post := fun q w => ∃ p1 : Nat, w = WP cy q p1 pd0) tyX5 tyX5_ok inZ5 tg_223 tg_224 tg_7 rfl (fun j hj => by rcases (show j = 0 ∨ j = 1 ∨ j = 2 ∨ j = 3 ∨ j = 4 ∨ j = 5 ∨ j = 6 by omega) with rfl | rfl | rfl | rfl | rfl | rfl | rfl <;> rfl) (fun q => c_X5_init l D cy q) tg_227 tg_225 tg_226 ⟨rfl, rfl⟩ (by decide +kernel) ⟨rfl, rfl⟩ ⟨Nat.le_of_ble_eq_true rfl, Nat.le_of_ble_eq_true rfl⟩ ⟨Nat.le_of_ble_eq_true rfl, Nat.le_of_ble_eq_true rfl⟩ (Nat.le_of_ble_eq_true rfl) dX7_init_38 dX7_init_41 dX7_init_42 (fun q3 w hw => ?_)
  obtain ⟨q3a, rfl⟩ := hw
  show zJ E 2 40 514 ((((([(a0, .inr (7, [.ref (q0a 0), .ref (q1a 0), .ref q2, .null, .null, .null, .null]))] ++ (WT cy q0a t0)) ++ (WT cy q1a t0)) ++ (WD cy q2 q2a dd0)) ++ (WP cy q3 q3a pd0)) : va_W) 45 [(0, .ref a0)] [.ref q3, .ref a0]
  refine zj_putF C hin 0 7 3 (v := .ref q3) (ws' := ((((([(a0, .inr (7, [.ref (q0a 0), .ref (q1a 0), .ref q2, .ref q3, .null, .null, .null]))] ++ (WT cy q0a t0)) ++ (WT cy q1a t0)) ++ (WD cy q2 q2a dd0)) ++ (WP cy q3 q3a pd0)) : va_W)) tyX7 tyX7_ok nmX7 inZ7 rfl rfl (by decide) tg_280 rfl rfl rfl rfl (Nat.le_of_ble_eq_true rfl) dX7_init_45 rfl ?_
  refine zj_aload_n C dX7_init_48 0 rfl ?_
  refine zj_make C hAO (ci := 1) (mc := 127) (ms := 1407) (fs := [.null, .int 0, .int 0]) (Post := fun q w => ∃ (h1 : Nat) (hs : Nat → Nat → Nat), w = ([WHo cy q h1 hs 0 0] ++ WHL cy hs (fun _ => t0)).flatten) tyX1 tyX1_ok inZ1 tg_257 tg_258 tg_8 rfl (fun j hj => by rcases (show j = 0 ∨ j = 1 ∨ j = 2 by omega) with rfl | rfl | rfl <;> rfl) (fun q => c_X1_init l D cy q) tg_261 tg_259 tg_260 ⟨rfl, rfl⟩ (by decide +kernel) ⟨rfl, rfl⟩ ⟨Nat.le_of_ble_eq_true rfl, Nat.le_of_ble_eq_true rfl⟩ ⟨Nat.le_of_ble_eq_true rfl, Nat.le_of_ble_eq_true rfl⟩ (Nat.le_of_ble_eq_true rfl) dX7_init_49 dX7_init_52 dX7_init_53 (fun q4 w hw => ?_)
  obtain ⟨q4a, q4s, rfl⟩ := hw
  show zJ E 2 168 1924 (((((([(a0, .inr (7, [.ref (q0a 0), .ref (q1a 0), .ref q2, .ref q3, .null, .null, .null]))] ++ (WT cy q0a t0)) ++ (WT cy q1a t0)) ++ (WD cy q2 q2a dd0)) ++ (WP cy q3 q3a pd0)) ++ (([WHo cy q4 q4a q4s 0 0] ++ WHL cy q4s (fun _ => t0)).flatten)) : va_W) 56 [(0, .ref a0)] [.ref q4, .ref a0]
  refine zj_putF C hin 0 7 4 (v := .ref q4) (ws' := (((((([(a0, .inr (7, [.ref (q0a 0), .ref (q1a 0), .ref q2, .ref q3, .ref q4, .null, .null]))] ++ (WT cy q0a t0)) ++ (WT cy q1a t0)) ++ (WD cy q2 q2a dd0)) ++ (WP cy q3 q3a pd0)) ++ (([WHo cy q4 q4a q4s 0 0] ++ WHL cy q4s (fun _ => t0)).flatten)) : va_W)) tyX7 tyX7_ok nmX7 inZ7 rfl rfl (by decide) tg_281 rfl rfl rfl rfl (Nat.le_of_ble_eq_true rfl) dX7_init_56 rfl ?_
  refine zj_aload_n C dX7_init_59 0 rfl ?_
  refine zj_iconst C (v := (nI 2)) dX7_init_60 rfl ?_
  refine zj_newq C (Cn := "SwingUnits$Trust") (N' := 2) 5 rfl tg_19 hAO.2 (by decide) rfl (by decide) ⟨Nat.le_of_ble_eq_true rfl, Nat.le_of_ble_eq_true rfl⟩ dX7_init_61 (fun q5 => ?_)
  show zJ E 2 169 1926 ((((((([(a0, .inr (7, [.ref (q0a 0), .ref (q1a 0), .ref q2, .ref q3, .ref q4, .null, .null]))] ++ (WT cy q0a t0)) ++ (WT cy q1a t0)) ++ (WD cy q2 q2a dd0)) ++ (WP cy q3 q3a pd0)) ++ (([WHo cy q4 q4a q4s 0 0] ++ WHL cy q4s (fun _ => t0)).flatten)) ++ [(q5, .inl (cy 5, 2, .inr (.inr (.inr (.inr (fun _ => none))))))]) : va_W) 64 [(0, .ref a0)] [.ref q5, .ref a0]
  refine zj_putF C hin 0 7 5 (v := .ref q5) (ws' := ((((((([(a0, .inr (7, [.ref (q0a 0), .ref (q1a 0), .ref q2, .ref q3, .ref q4, .ref q5, .null]))] ++ (WT cy q0a t0)) ++ (WT cy q1a t0)) ++ (WD cy q2 q2a dd0)) ++ (WP cy q3 q3a pd0)) ++ (([WHo cy q4 q4a q4s 0 0] ++ WHL cy q4s (fun _ => t0)).flatten)) ++ [(q5, .inl (cy 5, 2, .inr (.inr (.inr (.inr (fun _ => none))))))]) : va_W)) tyX7 tyX7_ok nmX7 inZ7 rfl rfl (by decide) tg_282 rfl rfl rfl rfl (Nat.le_of_ble_eq_true rfl) dX7_init_64 rfl ?_
  refine zj_iconst C (v := (nI 0)) dX7_init_67 rfl ?_
  refine zj_istore_n C (L' := [(1, .int (nI 0)), (0, .ref a0)]) dX7_init_68 rfl (by decide) rfl ?_
  refine zj_iload_n C dX7_init_69 0 rfl ?_
  refine zj_iconst C (v := (nI 2)) dX7_init_70 rfl ?_
  refine zj_icmp_ge C 93 dX7_init_71 (by decide) (fun c => absurd c (by decide)) (fun _ => ?_)
  refine zj_aload_n C dX7_init_74 1 rfl ?_
  refine zj_get C 0 7 5 (v := .ref q5) inZ7 rfl rfl (by decide) tg_282 rfl dX7_init_75 ?_
  refine zj_iload_n C dX7_init_78 0 rfl ?_
  refine zj_make C hAO (ci := 6) (mc := 17) (ms := 189) (fs := [.long 0, .long 0, .long 0, .int 0, .int 0, .int 0, .null, .null, .null, .null, .null]) (Post := fun q w => ∃ a : Nat → Nat, a 0 = q ∧ w = WT cy a t0) tyX6 tyX6_ok inZ6 tg_19 tg_20 tg_2 rfl (fun j hj => by rcases (show j = 0 ∨ j = 1 ∨ j = 2 ∨ j = 3 ∨ j = 4 ∨ j = 5 ∨ j = 6 ∨ j = 7 ∨ j = 8 ∨ j = 9 ∨ j = 10 by omega) with rfl | rfl | rfl | rfl | rfl | rfl | rfl | rfl | rfl | rfl | rfl <;> rfl) (fun q => c_X6_init l D cy q) tg_23 tg_21 tg_22 ⟨rfl, rfl⟩ (by decide +kernel) ⟨rfl, rfl⟩ ⟨Nat.le_of_ble_eq_true rfl, Nat.le_of_ble_eq_true rfl⟩ ⟨Nat.le_of_ble_eq_true rfl, Nat.le_of_ble_eq_true rfl⟩ (Nat.le_of_ble_eq_true rfl) dX7_init_79 dX7_init_82 dX7_init_83 (fun q6 w hw => ?_)
  obtain ⟨q6a, rfl, rfl⟩ := hw
  show zJ E 2 187 2126 (((((((([(a0, .inr (7, [.ref (q0a 0), .ref (q1a 0), .ref q2, .ref q3, .ref q4, .ref q5, .null]))] ++ (WT cy q0a t0)) ++ (WT cy q1a t0)) ++ (WD cy q2 q2a dd0)) ++ (WP cy q3 q3a pd0)) ++ (([WHo cy q4 q4a q4s 0 0] ++ WHL cy q4s (fun _ => t0)).flatten)) ++ [(q5, .inl (cy 5, 2, .inr (.inr (.inr (.inr (fun _ => none))))))]) ++ (WT cy q6a t0)) : va_W) 86 [(1, .int (nI 0)), (0, .ref a0)] [.ref (q6a 0), .int (nI 0), .ref q5]
  refine zj_astq C 169 5 170 6 (f := (fun _ => none)) (v := (q6a 0)) 0 rfl (ws' := (((((((([(a0, .inr (7, [.ref (q0a 0), .ref (q1a 0), .ref q2, .ref q3, .ref q4, .ref q5, .null]))] ++ (WT cy q0a t0)) ++ (WT cy q1a t0)) ++ (WD cy q2 q2a dd0)) ++ (WP cy q3 q3a pd0)) ++ (([WHo cy q4 q4a q4s 0 0] ++ WHL cy q4s (fun _ => t0)).flatten)) ++ [(q5, .inl (cy 5, 2, .inr (.inr (.inr (.inr (va_up (fun _ => none) 0 (some (q6a 0))))))))]) ++ (WT cy q6a t0)) : va_W)) rfl rfl rfl rfl (vp_in_nI (by decide) (by decide)) dX7_init_86 rfl ?_
  refine zj_iinc C (j := 0) (v := nI 1) (L' := [(1, .int (nI 1)), (0, .ref a0)]) dX7_init_87 rfl rfl (by decide) rfl ?_
  refine zj_goto C 69 dX7_init_90 (by decide) ?_
  refine zj_iload_n C dX7_init_69 0 rfl ?_
  refine zj_iconst C (v := (nI 2)) dX7_init_70 rfl ?_
  refine zj_icmp_ge C 93 dX7_init_71 (by decide) (fun c => absurd c (by decide)) (fun _ => ?_)
  refine zj_aload_n C dX7_init_74 1 rfl ?_
  refine zj_get C 0 7 5 (v := .ref q5) inZ7 rfl rfl (by decide) tg_282 rfl dX7_init_75 ?_
  refine zj_iload_n C dX7_init_78 0 rfl ?_
  refine zj_make C hAO (ci := 6) (mc := 17) (ms := 189) (fs := [.long 0, .long 0, .long 0, .int 0, .int 0, .int 0, .null, .null, .null, .null, .null]) (Post := fun q w => ∃ a : Nat → Nat, a 0 = q ∧ w = WT cy a t0) tyX6 tyX6_ok inZ6 tg_19 tg_20 tg_2 rfl (fun j hj => by rcases (show j = 0 ∨ j = 1 ∨ j = 2 ∨ j = 3 ∨ j = 4 ∨ j = 5 ∨ j = 6 ∨ j = 7 ∨ j = 8 ∨ j = 9 ∨ j = 10 by omega) with rfl | rfl | rfl | rfl | rfl | rfl | rfl | rfl | rfl | rfl | rfl <;> rfl) (fun q => c_X6_init l D cy q) tg_23 tg_21 tg_22 ⟨rfl, rfl⟩ (by decide +kernel) ⟨rfl, rfl⟩ ⟨Nat.le_of_ble_eq_true rfl, Nat.le_of_ble_eq_true rfl⟩ ⟨Nat.le_of_ble_eq_true rfl, Nat.le_of_ble_eq_true rfl⟩ (Nat.le_of_ble_eq_true rfl) dX7_init_79 dX7_init_82 dX7_init_83 (fun q7 w hw => ?_)
  obtain ⟨q7a, rfl, rfl⟩ := hw
  show zJ E 2 205 2326 ((((((((([(a0, .inr (7, [.ref (q0a 0), .ref (q1a 0), .ref q2, .ref q3, .ref q4, .ref q5, .null]))] ++ (WT cy q0a t0)) ++ (WT cy q1a t0)) ++ (WD cy q2 q2a dd0)) ++ (WP cy q3 q3a pd0)) ++ (([WHo cy q4 q4a q4s 0 0] ++ WHL cy q4s (fun _ => t0)).flatten)) ++ [(q5, .inl (cy 5, 2, .inr (.inr (.inr (.inr (va_up (fun _ => none) 0 (some (q6a 0))))))))]) ++ (WT cy q6a t0)) ++ (WT cy q7a t0)) : va_W) 86 [(1, .int (nI 1)), (0, .ref a0)] [.ref (q7a 0), .int (nI 1), .ref q5]
  refine zj_astq C 169 5 188 6 (f := (va_up (fun _ => none) 0 (some (q6a 0)))) (v := (q7a 0)) 1 rfl (ws' := ((((((((([(a0, .inr (7, [.ref (q0a 0), .ref (q1a 0), .ref q2, .ref q3, .ref q4, .ref q5, .null]))] ++ (WT cy q0a t0)) ++ (WT cy q1a t0)) ++ (WD cy q2 q2a dd0)) ++ (WP cy q3 q3a pd0)) ++ (([WHo cy q4 q4a q4s 0 0] ++ WHL cy q4s (fun _ => t0)).flatten)) ++ [(q5, .inl (cy 5, 2, .inr (.inr (.inr (.inr (va_up (va_up (fun _ => none) 0 (some (q6a 0))) 1 (some (q7a 0))))))))]) ++ (WT cy q6a t0)) ++ (WT cy q7a t0)) : va_W)) rfl rfl rfl rfl (vp_in_nI (by decide) (by decide)) dX7_init_86 rfl ?_
  refine zj_iinc C (j := 0) (v := nI 2) (L' := [(1, .int (nI 2)), (0, .ref a0)]) dX7_init_87 rfl rfl (by decide) rfl ?_
  refine zj_goto C 69 dX7_init_90 (by decide) ?_
  refine zj_iload_n C dX7_init_69 0 rfl ?_
  refine zj_iconst C (v := (nI 2)) dX7_init_70 rfl ?_
  refine zj_icmp_ge C 93 dX7_init_71 (by decide) (fun _ => ?_) (fun c => absurd (by decide) c)
  refine zj_aload_n C dX7_init_93 1 rfl ?_
  refine zj_iconst C (v := (nI 2)) dX7_init_94 rfl ?_
  refine zj_newa C (atype := .boolean) (N' := 2) (a0 := (2, .inl (fun _ => 0))) 3 rfl rfl tg_299 (fun _ => rfl) (by decide) rfl (by decide) ⟨Nat.le_of_ble_eq_true rfl, Nat.le_of_ble_eq_true rfl⟩ dX7_init_95 (fun q8 => ?_)
  show zJ E 2 206 2328 (((((((((([(a0, .inr (7, [.ref (q0a 0), .ref (q1a 0), .ref q2, .ref q3, .ref q4, .ref q5, .null]))] ++ (WT cy q0a t0)) ++ (WT cy q1a t0)) ++ (WD cy q2 q2a dd0)) ++ (WP cy q3 q3a pd0)) ++ (([WHo cy q4 q4a q4s 0 0] ++ WHL cy q4s (fun _ => t0)).flatten)) ++ [(q5, .inl (cy 5, 2, .inr (.inr (.inr (.inr (va_up (va_up (fun _ => none) 0 (some (q6a 0))) 1 (some (q7a 0))))))))]) ++ (WT cy q6a t0)) ++ (WT cy q7a t0)) ++ [(q8, .inl (cy 3, 2, .inl (fun _ => 0)))]) : va_W) 97 [(1, .int (nI 2)), (0, .ref a0)] [.ref q8, .ref a0]
  refine zj_putF C hin 0 7 6 (v := .ref q8) (ws' := (((((((((([(a0, .inr (7, [.ref (q0a 0), .ref (q1a 0), .ref q2, .ref q3, .ref q4, .ref q5, .ref q8]))] ++ (WT cy q0a t0)) ++ (WT cy q1a t0)) ++ (WD cy q2 q2a dd0)) ++ (WP cy q3 q3a pd0)) ++ (([WHo cy q4 q4a q4s 0 0] ++ WHL cy q4s (fun _ => t0)).flatten)) ++ [(q5, .inl (cy 5, 2, .inr (.inr (.inr (.inr (va_up (va_up (fun _ => none) 0 (some (q6a 0))) 1 (some (q7a 0))))))))]) ++ (WT cy q6a t0)) ++ (WT cy q7a t0)) ++ [(q8, .inl (cy 3, 2, .inl (fun _ => 0)))]) : va_W)) tyX7 tyX7_ok nmX7 inZ7 rfl rfl (by decide) tg_283 rfl rfl rfl rfl (Nat.le_of_ble_eq_true rfl) dX7_init_97 rfl ?_
  refine zj_cellq 169 (f := (va_up (va_up (fun _ => none) 0 (some (q6a 0))) 1 (some (q7a 0)))) (g := fun k => some ((fun k => ([q6a, q7a] : List (Nat → Nat)).getD k (fun _ => 0)) k 0)) (ws' := (((((((((([(a0, .inr (7, [.ref (q0a 0), .ref (q1a 0), .ref q2, .ref q3, .ref q4, .ref q5, .ref q8]))] ++ (WT cy q0a t0)) ++ (WT cy q1a t0)) ++ (WD cy q2 q2a dd0)) ++ (WP cy q3 q3a pd0)) ++ (([WHo cy q4 q4a q4s 0 0] ++ WHL cy q4s (fun _ => t0)).flatten)) ++ [(q5, .inl (cy 5, 2, .inr (.inr (.inr (.inr (fun k => some ((fun k => ([q6a, q7a] : List (Nat → Nat)).getD k (fun _ => 0)) k 0)))))))]) ++ (WT cy q6a t0)) ++ (WT cy q7a t0)) ++ [(q8, .inl (cy 3, 2, .inl (fun _ => 0)))]) : va_W)) rfl (fun j hj => by rcases (show j = 0 ∨ j = 1 by omega) with rfl | rfl <;> rfl) rfl ?_
  exact hret _ _ _ ⟨q1a, q2, q2a, q3, q3a, q4, q4a, q5, q8, q0a, q4s, (fun k => ([q6a, q7a] : List (Nat → Nat)).getD k (fun _ => 0)), rfl⟩ dX7_init_100
