noncomputable def f_X6_makeUnits (t : zTr) (h : Nat) (un : Int64) (am : Int64) (ofu : Int64) : zTr :=
  let V_18 : Int64 := ((gTr_cash t) + am)
  let V_29 : Int64 := ((gHd_bought (gTr_hd t h)) + am)
  let V_39 : Int64 := ((gHd_new (gTr_hd t h)) + un)
  let V_57 : Int64 := (if V_18 < ((gTr_pool t) + ((un * ofu) / 1000)) then V_18 else ((gTr_pool t) + ((un * ofu) / 1000)))
  let V_68 : Int64 := ((gTr_even t) + ((un * ofu) / 1000))
  (sTr_hd (sTr_even (sTr_pool (sTr_cash t V_18) V_57) V_68) (zup (gTr_hd t) h (sHd_bought (sHd_new (gTr_hd t h) V_39) V_29)))
set_option maxHeartbeats 4000000 in
set_option maxRecDepth 100000 in
theorem c_X6_makeUnits (l : Launch) (D : va_G) (cy : Nat → ClassId) (a : Nat → Nat) (h : Nat) (un : Int64) (am : Int64) (ofu : Int64) (t : zTr) (hh : h < 6) : zC l yX6_makeUnits (zW yX6_makeUnits cX6_makeUnits 10 (Option.none : Option Jvm.ClassFile.FieldType)) { frames := 1, cells := 0, slots := 0, locals := 16 } D cy [.ref (a 0), .ref (a (12 + h)), .long un, .long am, .long ofu] (WT cy a t) none (WT cy a (f_X6_makeUnits t h un am ofu)) := by
  refine zC_of rfl (Nat.le_of_ble_eq_true rfl) zOk_v (fun E C hret => ?_)
  show zJ E 10 0 0 (WT cy a t) 0 [(0, .ref (a 0)), (1, .ref (a (12 + h))), (2, .long un), (4, .long am), (6, .long ofu)] []
  refine zj_lload_n C dX6_makeUnits_0 2 rfl ?_
  refine zj_lload C dX6_makeUnits_1 4 rfl ?_
  refine zj_lmul C dX6_makeUnits_3 ?_
  refine zj_ldc2 C dX6_makeUnits_4 tg_402 ?_
  refine zj_ldiv C dX6_makeUnits_7 (by decide) ?_
  refine zj_lstore C (L' := [(8, .long ((un * ofu) / 1000)), (0, .ref (a 0)), (1, .ref (a (12 + h))), (2, .long un), (4, .long am), (6, .long ofu)]) dX6_makeUnits_8 (by decide) rfl ?_
  refine zj_aload_n C dX6_makeUnits_10 1 rfl ?_
  refine zj_dup C dX6_makeUnits_11 rfl ?_
  refine zj_get C 0 6 0 (v := .long (gTr_cash t)) inZ6 rfl rfl (by decide) tg_139 rfl dX6_makeUnits_12 ?_
  refine zj_lload C dX6_makeUnits_15 4 rfl ?_
  refine zj_ladd C dX6_makeUnits_17 ?_
  refine zj_toplg (fun V_18 hV_18 => ?_)
  refine zj_put C 0 6 0 (v := .long V_18) (ws' := (WT cy a (sTr_cash t V_18))) tyX6 tyX6_ok nmX6 inZ6 rfl rfl (by decide) tg_139 rfl rfl rfl (Nat.le_of_ble_eq_true rfl) dX6_makeUnits_18 rfl ?_
  refine zj_aload_n C dX6_makeUnits_21 2 rfl ?_
  refine zj_dup C dX6_makeUnits_22 rfl ?_
  refine zj_get C (12 + h) 2 2 (v := .long (gHd_bought (gTr_hd t h))) inZ2 (WT_h (by omega)) rfl (by decide) tg_40 rfl dX6_makeUnits_23 ?_
  refine zj_lload C dX6_makeUnits_26 4 rfl ?_
  refine zj_ladd C dX6_makeUnits_28 ?_
  refine zj_toplg (fun V_29 hV_29 => ?_)
  refine zj_put C (12 + h) 2 2 (v := .long V_29) (ws' := (WT cy a (sTr_hd (sTr_cash t V_18) (zup (gTr_hd t) h (sHd_bought (gTr_hd t h) V_29))))) tyX2 tyX2_ok nmX2 inZ2 (WT_h (by omega)) rfl (by decide) tg_40 rfl rfl rfl (Nat.le_of_ble_eq_true rfl) dX6_makeUnits_29 (WT_set (sHd_bought (gTr_hd t h) V_29) (by omega)) ?_
  refine zj_aload_n C dX6_makeUnits_32 2 rfl ?_
  refine zj_dup C dX6_makeUnits_33 rfl ?_
  refine zj_get C (12 + h) 2 1 (v := .long (gHd_new (gTr_hd t h))) inZ2 (WT_hz (by omega)) rfl (by decide) tg_36 rfl dX6_makeUnits_34 ?_
  refine zj_lload_n C dX6_makeUnits_37 3 rfl ?_
  refine zj_ladd C dX6_makeUnits_38 ?_
  refine zj_toplg (fun V_39 hV_39 => ?_)
  refine zj_put C (12 + h) 2 1 (v := .long V_39) (ws' := (WT cy a (sTr_hd (sTr_cash t V_18) (zup (gTr_hd t) h (sHd_bought (sHd_new (gTr_hd t h) V_39) V_29))))) tyX2 tyX2_ok nmX2 inZ2 (WT_hz (by omega)) rfl (by decide) tg_36 rfl rfl rfl (Nat.le_of_ble_eq_true rfl) dX6_makeUnits_39 (WT_setz (sHd_bought (sHd_new (gTr_hd t h) V_39) V_29) (by omega)) ?_
  refine zj_aload_n C dX6_makeUnits_42 1 rfl ?_
  refine zj_aload_n C dX6_makeUnits_43 1 rfl ?_
  refine zj_get C 0 6 1 (v := .long (gTr_pool t)) inZ6 rfl rfl (by decide) tg_142 rfl dX6_makeUnits_44 ?_
  refine zj_lload C dX6_makeUnits_47 0 rfl ?_
  refine zj_ladd C dX6_makeUnits_49 ?_
  refine zj_aload_n C dX6_makeUnits_50 1 rfl ?_
  refine zj_get C 0 6 0 (v := .long V_18) inZ6 rfl rfl (by decide) tg_139 rfl dX6_makeUnits_51 ?_
  refine zj_mmin C (x := ((gTr_pool t) + ((un * ofu) / 1000))) (y := V_18) tg_411 ⟨by decide, Nat.le_of_ble_eq_true rfl⟩ dX6_makeUnits_54 ?_
  refine zj_toplg (fun V_57 hV_57 => ?_)
  refine zj_put C 0 6 1 (v := .long V_57) (ws' := (WT cy a (sTr_hd (sTr_pool (sTr_cash t V_18) V_57) (zup (gTr_hd t) h (sHd_bought (sHd_new (gTr_hd t h) V_39) V_29))))) tyX6 tyX6_ok nmX6 inZ6 rfl rfl (by decide) tg_142 rfl rfl rfl (Nat.le_of_ble_eq_true rfl) dX6_makeUnits_57 rfl ?_
  refine zj_aload_n C dX6_makeUnits_60 1 rfl ?_
  refine zj_dup C dX6_makeUnits_61 rfl ?_
  refine zj_get C 0 6 2 (v := .long (gTr_even t)) inZ6 rfl rfl (by decide) tg_144 rfl dX6_makeUnits_62 ?_
  refine zj_lload C dX6_makeUnits_65 0 rfl ?_
  refine zj_ladd C dX6_makeUnits_67 ?_
  refine zj_toplg (fun V_68 hV_68 => ?_)
  refine zj_put C 0 6 2 (v := .long V_68) (ws' := (WT cy a (sTr_hd (sTr_even (sTr_pool (sTr_cash t V_18) V_57) V_68) (zup (gTr_hd t) h (sHd_bought (sHd_new (gTr_hd t h) V_39) V_29))))) tyX6 tyX6_ok nmX6 inZ6 rfl rfl (by decide) tg_144 rfl rfl rfl (Nat.le_of_ble_eq_true rfl) dX6_makeUnits_68 rfl ?_
  subst hV_68
  subst hV_57
  subst hV_39
  subst hV_29
  subst hV_18
  have e : f_X6_makeUnits t h un am ofu = (sTr_hd (sTr_even (sTr_pool (sTr_cash t ((gTr_cash t) + am)) (if ((gTr_cash t) + am) < ((gTr_pool t) + ((un * ofu) / 1000)) then ((gTr_cash t) + am) else ((gTr_pool t) + ((un * ofu) / 1000)))) ((gTr_even t) + ((un * ofu) / 1000))) (zup (gTr_hd t) h (sHd_bought (sHd_new (gTr_hd t h) ((gHd_new (gTr_hd t h)) + un)) ((gHd_bought (gTr_hd t h)) + am)))) := by rfl
  rw [e] at hret
  exact hret _ _ dX6_makeUnits_71

noncomputable def f_X6_takeUnits (t : zTr) (h : Nat) (un : Int64) (am : Int64) (ofu : Int64) : zTr :=
  let R_1 : Int64 := (f_X6_newUnits t)
  let V_30 : Int64 := ((gTr_cash t) - am)
  let V_41 : Int64 := ((gHd_paid (gTr_hd t h)) + am)
  let V_52 : Int64 := ((gHd_old (gTr_hd t h)) - (if (gHd_old (gTr_hd t h)) < un then (gHd_old (gTr_hd t h)) else un))
  let V_63 : Int64 := ((gHd_new (gTr_hd t h)) - (un - (if (gHd_old (gTr_hd t h)) < un then (gHd_old (gTr_hd t h)) else un)))
  let V_91 : Int64 := (if V_30 < (if 0 < ((gTr_pool t) - ((un * ofu) / 1000)) then ((gTr_pool t) - ((un * ofu) / 1000)) else 0) then V_30 else (if 0 < ((gTr_pool t) - ((un * ofu) / 1000)) then ((gTr_pool t) - ((un * ofu) / 1000)) else 0))
  let x97_0 : Int64 := (if R_1 ≤ 0 then (gTr_even t) else ((gTr_even t) - (((un - (if (gHd_old (gTr_hd t h)) < un then (gHd_old (gTr_hd t h)) else un)) * (gTr_even t)) / R_1)))
  (sTr_hd (sTr_even (sTr_pool (sTr_cash t V_30) V_91) x97_0) (zup (gTr_hd t) h (sHd_paid (sHd_new (sHd_old (gTr_hd t h) V_52) V_63) V_41)))
set_option maxHeartbeats 4000000 in
set_option maxRecDepth 100000 in
theorem c_X6_takeUnits (l : Launch) (D : va_G) (cy : Nat → ClassId) (a : Nat → Nat) (h : Nat) (un : Int64) (am : Int64) (ofu : Int64) (t : zTr) (hh : h < 6) : zC l yX6_takeUnits (zW yX6_takeUnits cX6_takeUnits 14 (Option.none : Option Jvm.ClassFile.FieldType)) { frames := 1, cells := 0, slots := 0, locals := 23 } D cy [.ref (a 0), .ref (a (12 + h)), .long un, .long am, .long ofu] (WT cy a t) none (WT cy a (f_X6_takeUnits t h un am ofu)) := by
  refine zC_of rfl (Nat.le_of_ble_eq_true rfl) zOk_v (fun E C hret => ?_)
  show zJ E 14 0 0 (WT cy a t) 0 [(0, .ref (a 0)), (1, .ref (a (12 + h))), (2, .long un), (4, .long am), (6, .long ofu)] []
  refine zj_aload_n C dX6_takeUnits_0 0 rfl ?_
  have M_1 := c_X6_newUnits l D cy a  t 
  obtain ⟨R_1, hR_1⟩ : ∃ g : Int64, g = (f_X6_newUnits t) := ⟨_, rfl⟩
  rw [← hR_1] at M_1
  refine zj_callVB C (nn := 18) (ws' := (WT cy a t)) (st := []) (st1 := [.long R_1]) ([] : va_W) ([] : va_W) 0 6 (M_1) (zg_V tg_410 tg_407 tg_408 tg_409 tg_2) ⟨rfl, hdZ_X6_newUnits⟩ ⟨rfl, rfl⟩ ⟨by decide, by decide⟩ rfl rfl (List.append_nil _).symm ⟨rfl, rfl⟩ rfl rfl (Nat.le_of_ble_eq_true rfl) dX6_takeUnits_1 (List.append_nil _) rfl ?_
  refine zj_lstore C (L' := [(8, .long R_1), (0, .ref (a 0)), (1, .ref (a (12 + h))), (2, .long un), (4, .long am), (6, .long ofu)]) dX6_takeUnits_4 (by decide) rfl ?_
  refine zj_lload_n C dX6_takeUnits_6 3 rfl ?_
  refine zj_aload_n C dX6_takeUnits_7 2 rfl ?_
  refine zj_get C (12 + h) 2 0 (v := .long (gHd_old (gTr_hd t h))) inZ2 (WT_h (by omega)) rfl (by decide) tg_34 rfl dX6_takeUnits_8 ?_
  refine zj_mmin C (x := un) (y := (gHd_old (gTr_hd t h))) tg_411 ⟨by decide, Nat.le_of_ble_eq_true rfl⟩ dX6_takeUnits_11 ?_
  refine zj_lstore C (L' := [(10, .long (if (gHd_old (gTr_hd t h)) < un then (gHd_old (gTr_hd t h)) else un)), (8, .long R_1), (0, .ref (a 0)), (1, .ref (a (12 + h))), (2, .long un), (4, .long am), (6, .long ofu)]) dX6_takeUnits_14 (by decide) rfl ?_
  refine zj_lload_n C dX6_takeUnits_16 4 rfl ?_
  refine zj_lload C dX6_takeUnits_17 0 rfl ?_
  refine zj_lsub C dX6_takeUnits_19 ?_
  refine zj_lstore C (L' := [(12, .long (un - (if (gHd_old (gTr_hd t h)) < un then (gHd_old (gTr_hd t h)) else un))), (10, .long (if (gHd_old (gTr_hd t h)) < un then (gHd_old (gTr_hd t h)) else un)), (8, .long R_1), (0, .ref (a 0)), (1, .ref (a (12 + h))), (2, .long un), (4, .long am), (6, .long ofu)]) dX6_takeUnits_20 (by decide) rfl ?_
  refine zj_aload_n C dX6_takeUnits_22 3 rfl ?_
  refine zj_dup C dX6_takeUnits_23 rfl ?_
  refine zj_get C 0 6 0 (v := .long (gTr_cash t)) inZ6 rfl rfl (by decide) tg_139 rfl dX6_takeUnits_24 ?_
  refine zj_lload C dX6_takeUnits_27 6 rfl ?_
  refine zj_lsub C dX6_takeUnits_29 ?_
  refine zj_toplg (fun V_30 hV_30 => ?_)
  refine zj_put C 0 6 0 (v := .long V_30) (ws' := (WT cy a (sTr_cash t V_30))) tyX6 tyX6_ok nmX6 inZ6 rfl rfl (by decide) tg_139 rfl rfl rfl (Nat.le_of_ble_eq_true rfl) dX6_takeUnits_30 rfl ?_
  refine zj_aload_n C dX6_takeUnits_33 4 rfl ?_
  refine zj_dup C dX6_takeUnits_34 rfl ?_
  refine zj_get C (12 + h) 2 3 (v := .long (gHd_paid (gTr_hd t h))) inZ2 (WT_h (by omega)) rfl (by decide) tg_43 rfl dX6_takeUnits_35 ?_
  refine zj_lload C dX6_takeUnits_38 6 rfl ?_
  refine zj_ladd C dX6_takeUnits_40 ?_
  refine zj_toplg (fun V_41 hV_41 => ?_)
  refine zj_put C (12 + h) 2 3 (v := .long V_41) (ws' := (WT cy a (sTr_hd (sTr_cash t V_30) (zup (gTr_hd t) h (sHd_paid (gTr_hd t h) V_41))))) tyX2 tyX2_ok nmX2 inZ2 (WT_h (by omega)) rfl (by decide) tg_43 rfl rfl rfl (Nat.le_of_ble_eq_true rfl) dX6_takeUnits_41 (WT_set (sHd_paid (gTr_hd t h) V_41) (by omega)) ?_
  refine zj_aload_n C dX6_takeUnits_44 4 rfl ?_
  refine zj_dup C dX6_takeUnits_45 rfl ?_
  refine zj_get C (12 + h) 2 0 (v := .long (gHd_old (gTr_hd t h))) inZ2 (WT_hz (by omega)) rfl (by decide) tg_34 rfl dX6_takeUnits_46 ?_
  refine zj_lload C dX6_takeUnits_49 1 rfl ?_
  refine zj_lsub C dX6_takeUnits_51 ?_
  refine zj_toplg (fun V_52 hV_52 => ?_)
  refine zj_put C (12 + h) 2 0 (v := .long V_52) (ws' := (WT cy a (sTr_hd (sTr_cash t V_30) (zup (gTr_hd t) h (sHd_paid (sHd_old (gTr_hd t h) V_52) V_41))))) tyX2 tyX2_ok nmX2 inZ2 (WT_hz (by omega)) rfl (by decide) tg_34 rfl rfl rfl (Nat.le_of_ble_eq_true rfl) dX6_takeUnits_52 (WT_setz (sHd_paid (sHd_old (gTr_hd t h) V_52) V_41) (by omega)) ?_
  refine zj_aload_n C dX6_takeUnits_55 4 rfl ?_
  refine zj_dup C dX6_takeUnits_56 rfl ?_
  refine zj_get C (12 + h) 2 1 (v := .long (gHd_new (gTr_hd t h))) inZ2 (WT_hz (by omega)) rfl (by decide) tg_36 rfl dX6_takeUnits_57 ?_
  refine zj_lload C dX6_takeUnits_60 0 rfl ?_
  refine zj_lsub C dX6_takeUnits_62 ?_
  refine zj_toplg (fun V_63 hV_63 => ?_)
  refine zj_put C (12 + h) 2 1 (v := .long V_63) (ws' := (WT cy a (sTr_hd (sTr_cash t V_30) (zup (gTr_hd t) h (sHd_paid (sHd_new (sHd_old (gTr_hd t h) V_52) V_63) V_41))))) tyX2 tyX2_ok nmX2 inZ2 (WT_hz (by omega)) rfl (by decide) tg_36 rfl rfl rfl (Nat.le_of_ble_eq_true rfl) dX6_takeUnits_63 (WT_setz (sHd_paid (sHd_new (sHd_old (gTr_hd t h) V_52) V_63) V_41) (by omega)) ?_
  refine zj_aload_n C dX6_takeUnits_66 3 rfl ?_
  refine zj_aload_n C dX6_takeUnits_67 3 rfl ?_
  refine zj_get C 0 6 1 (v := .long (gTr_pool t)) inZ6 rfl rfl (by decide) tg_142 rfl dX6_takeUnits_68 ?_
  refine zj_lload_n C dX6_takeUnits_71 5 rfl ?_
  refine zj_lload C dX6_takeUnits_72 7 rfl ?_
  refine zj_lmul C dX6_takeUnits_74 ?_
  refine zj_ldc2 C dX6_takeUnits_75 tg_402 ?_
  refine zj_ldiv C dX6_takeUnits_78 (by decide) ?_
  refine zj_lsub C dX6_takeUnits_79 ?_
  refine zj_lconst C (v := 0) dX6_takeUnits_80 (by decide) ?_
  refine zj_mmax C (x := ((gTr_pool t) - ((un * ofu) / 1000))) (y := 0) tg_414 ⟨by decide, Nat.le_of_ble_eq_true rfl⟩ dX6_takeUnits_81 ?_
  refine zj_aload_n C dX6_takeUnits_84 3 rfl ?_
  refine zj_get C 0 6 0 (v := .long V_30) inZ6 rfl rfl (by decide) tg_139 rfl dX6_takeUnits_85 ?_
  refine zj_mmin C (x := (if 0 < ((gTr_pool t) - ((un * ofu) / 1000)) then ((gTr_pool t) - ((un * ofu) / 1000)) else 0)) (y := V_30) tg_411 ⟨by decide, Nat.le_of_ble_eq_true rfl⟩ dX6_takeUnits_88 ?_
  refine zj_toplg (fun V_91 hV_91 => ?_)
  refine zj_put C 0 6 1 (v := .long V_91) (ws' := (WT cy a (sTr_hd (sTr_pool (sTr_cash t V_30) V_91) (zup (gTr_hd t) h (sHd_paid (sHd_new (sHd_old (gTr_hd t h) V_52) V_63) V_41))))) tyX6 tyX6_ok nmX6 inZ6 rfl rfl (by decide) tg_142 rfl rfl rfl (Nat.le_of_ble_eq_true rfl) dX6_takeUnits_91 rfl ?_
  refine zj_lload C dX6_takeUnits_94 2 rfl ?_
  refine zj_lconst C (v := 0) dX6_takeUnits_96 (by decide) ?_
  have J_97 : ∀ (x97_0 : Int64), x97_0 = (if R_1 ≤ 0 then (gTr_even t) else ((gTr_even t) - (((un - (if (gHd_old (gTr_hd t h)) < un then (gHd_old (gTr_hd t h)) else un)) * (gTr_even t)) / R_1))) → zJ E 14 0 0 (WT cy a (sTr_hd (sTr_even (sTr_pool (sTr_cash t V_30) V_91) x97_0) (zup (gTr_hd t) h (sHd_paid (sHd_new (sHd_old (gTr_hd t h) V_52) V_63) V_41)))) 120 [(12, .long (un - (if (gHd_old (gTr_hd t h)) < un then (gHd_old (gTr_hd t h)) else un))), (10, .long (if (gHd_old (gTr_hd t h)) < un then (gHd_old (gTr_hd t h)) else un)), (8, .long R_1), (0, .ref (a 0)), (1, .ref (a (12 + h))), (2, .long un), (4, .long am), (6, .long ofu)] [] := by
    intro x97_0 hx97_0
    subst hx97_0
    subst hV_91
    subst hV_63
    subst hV_52
    subst hV_41
    subst hV_30
    subst hR_1
    have e : f_X6_takeUnits t h un am ofu = (sTr_hd (sTr_even (sTr_pool (sTr_cash t ((gTr_cash t) - am)) (if ((gTr_cash t) - am) < (if 0 < ((gTr_pool t) - ((un * ofu) / 1000)) then ((gTr_pool t) - ((un * ofu) / 1000)) else 0) then ((gTr_cash t) - am) else (if 0 < ((gTr_pool t) - ((un * ofu) / 1000)) then ((gTr_pool t) - ((un * ofu) / 1000)) else 0))) (if (f_X6_newUnits t) ≤ 0 then (gTr_even t) else ((gTr_even t) - (((un - (if (gHd_old (gTr_hd t h)) < un then (gHd_old (gTr_hd t h)) else un)) * (gTr_even t)) / (f_X6_newUnits t))))) (zup (gTr_hd t) h (sHd_paid (sHd_new (sHd_old (gTr_hd t h) ((gHd_old (gTr_hd t h)) - (if (gHd_old (gTr_hd t h)) < un then (gHd_old (gTr_hd t h)) else un))) ((gHd_new (gTr_hd t h)) - (un - (if (gHd_old (gTr_hd t h)) < un then (gHd_old (gTr_hd t h)) else un)))) ((gHd_paid (gTr_hd t h)) + am)))) := by rfl
    rw [e] at hret
    exact hret _ _ dX6_takeUnits_120
  refine zj_lcmp_le C 120 dX6_takeUnits_97 dX6_takeUnits_98 (by decide) (fun c => ?_) (fun c => ?_)
  · have c_97 : R_1 ≤ 0 := c
    exact J_97 (gTr_even t) (by simp only [if_pos c_97]; first | done | assumption)
  · have c_97 : ¬ (R_1 ≤ 0) := c
    refine zj_aload_n C dX6_takeUnits_101 3 rfl ?_
    refine zj_dup C dX6_takeUnits_102 rfl ?_
    refine zj_get C 0 6 2 (v := .long (gTr_even t)) inZ6 rfl rfl (by decide) tg_144 rfl dX6_takeUnits_103 ?_
    refine zj_lload C dX6_takeUnits_106 0 rfl ?_
    refine zj_aload_n C dX6_takeUnits_108 3 rfl ?_
    refine zj_get C 0 6 2 (v := .long (gTr_even t)) inZ6 rfl rfl (by decide) tg_144 rfl dX6_takeUnits_109 ?_
    refine zj_lmul C dX6_takeUnits_112 ?_
    refine zj_lload C dX6_takeUnits_113 2 rfl ?_
    refine zj_ldiv C dX6_takeUnits_115 (zne_le c_97) ?_
    refine zj_lsub C dX6_takeUnits_116 ?_
    refine zj_toplg (fun V_117 hV_117 => ?_)
    refine zj_put C 0 6 2 (v := .long V_117) (ws' := (WT cy a (sTr_hd (sTr_even (sTr_pool (sTr_cash t V_30) V_91) V_117) (zup (gTr_hd t) h (sHd_paid (sHd_new (sHd_old (gTr_hd t h) V_52) V_63) V_41))))) tyX6 tyX6_ok nmX6 inZ6 rfl rfl (by decide) tg_144 rfl rfl rfl (Nat.le_of_ble_eq_true rfl) dX6_takeUnits_117 rfl ?_
    subst hV_117
    exact J_97 ((gTr_even t) - (((un - (if (gHd_old (gTr_hd t h)) < un then (gHd_old (gTr_hd t h)) else un)) * (gTr_even t)) / R_1)) (by simp only [if_neg c_97]; first | done | assumption)
