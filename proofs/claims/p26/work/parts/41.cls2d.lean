noncomputable def L_X6_pay (t : zTr) (x12_0 : Int64) (R_1 : Int64) (R_6 : Int64) : Nat → (Nat → zHd) → (Int64) → (Nat) → (Nat → zHd) × (Int64) × (Nat)
  | 0, hd0, al, j => (hd0, al, j)
  | fuel + 1, hd0, al, j =>
    if 6 ≤ j then
      (hd0, al, j)
    else
      let R_56 : Int64 := (f_X2_units (hd0 j))
      let V_76 : Int64 := ((gHd_inc (hd0 j)) + ((R_56 * R_1) / 1000))
      let V_103 : Int64 := ((gHd_eve (hd0 j)) + (if ((R_56 * R_1) / 1000) < (((gHd_new (hd0 j)) * x12_0) / 1000) then ((R_56 * R_1) / 1000) else (((gHd_new (hd0 j)) * x12_0) / 1000)))
      let V_118 : Int64 := ((gHd_old (hd0 j)) + (gHd_new (hd0 j)))
      L_X6_pay t x12_0 R_1 R_6 fuel (zup hd0 j (sHd_eve (sHd_inc (sHd_new (sHd_old (hd0 j) V_118) 0) V_76) V_103)) (al + ((R_56 * R_1) / 1000)) (j + 1)
theorem L_X6_pay_s (t : zTr) (x12_0 : Int64) (R_1 : Int64) (R_6 : Int64) (fuel : Nat) (hd0 : Nat → zHd) (al : Int64) (j : Nat) : L_X6_pay t x12_0 R_1 R_6 (fuel + 1) hd0 al j = (
    if 6 ≤ j then
      (hd0, al, j)
    else
      let R_56 : Int64 := (f_X2_units (hd0 j))
      let V_76 : Int64 := ((gHd_inc (hd0 j)) + ((R_56 * R_1) / 1000))
      let V_103 : Int64 := ((gHd_eve (hd0 j)) + (if ((R_56 * R_1) / 1000) < (((gHd_new (hd0 j)) * x12_0) / 1000) then ((R_56 * R_1) / 1000) else (((gHd_new (hd0 j)) * x12_0) / 1000)))
      let V_118 : Int64 := ((gHd_old (hd0 j)) + (gHd_new (hd0 j)))
      L_X6_pay t x12_0 R_1 R_6 fuel (zup hd0 j (sHd_eve (sHd_inc (sHd_new (sHd_old (hd0 j) V_118) 0) V_76) V_103)) (al + ((R_56 * R_1) / 1000)) (j + 1)
  ) := rfl
noncomputable def f_X6_payIncome (t : zTr) : Int32 × zTr :=
  let R_1 : Int64 := (f_X6_unitIncome t)
  let R_6 : Int64 := (f_X6_newUnits t)
  let x12_0 : Int64 := (if R_6 ≤ 0 then 0 else ((1000 * (gTr_even t)) / R_6))
  let hd1 : Nat → zHd := ((L_X6_pay t x12_0 R_1 R_6 (6 - 0 + 1) (gTr_hd t) 0 0).1)
  let al1 : Int64 := ((L_X6_pay t x12_0 R_1 R_6 (6 - 0 + 1) (gTr_hd t) 0 0).2.1)
  let j1 : Nat := ((L_X6_pay t x12_0 R_1 R_6 (6 - 0 + 1) (gTr_hd t) 0 0).2.2)
  let V_148 : Int64 := ((gTr_cash t) - al1)
  let V_159 : Int64 := ((gTr_pool t) - al1)
  (((al1).toInt32), (sTr_hd (sTr_even (sTr_pool (sTr_cash t V_148) V_159) 0) hd1))
set_option maxHeartbeats 4000000 in
set_option maxRecDepth 100000 in
theorem c_X6_payIncome (l : Launch) (D : va_G) (cy : Nat → ClassId) (a : Nat → Nat)  (t : zTr)  : zC l yX6_payIncome (zW yX6_payIncome cX6_payIncome 13 (Option.some Jvm.ClassFile.FieldType.int)) { frames := 3, cells := 0, slots := 0, locals := 65 } D cy [.ref (a 0)] (WT cy a t) (some (.int ((f_X6_payIncome t).1))) (WT cy a ((f_X6_payIncome t).2)) := by
  refine zC_of rfl (Nat.le_of_ble_eq_true rfl) (zOk_i _) (fun E C hret => ?_)
  show zJ E 13 0 0 (WT cy a t) 0 [(0, .ref (a 0))] []
  refine zj_aload_n C dX6_payIncome_0 0 rfl ?_
  have M_1 := c_X6_unitIncome l D cy a  t 
  obtain ⟨R_1, hR_1⟩ : ∃ g : Int64, g = (f_X6_unitIncome t) := ⟨_, rfl⟩
  rw [← hR_1] at M_1
  refine zj_callVB C (nn := 18) (ws' := (WT cy a t)) (st := []) (st1 := [.long R_1]) ([] : va_W) ([] : va_W) 0 6 (M_1) (zg_V tg_401 tg_398 tg_399 tg_400 tg_2) ⟨rfl, hdZ_X6_unitIncome⟩ ⟨rfl, rfl⟩ ⟨by decide, by decide⟩ rfl rfl (List.append_nil _).symm ⟨rfl, rfl⟩ rfl rfl (Nat.le_of_ble_eq_true rfl) dX6_payIncome_1 (List.append_nil _) rfl ?_
  refine zj_lstore_n C (L' := [(1, .long R_1), (0, .ref (a 0))]) dX6_payIncome_4 rfl (by decide) rfl ?_
  refine zj_aload_n C dX6_payIncome_5 1 rfl ?_
  have M_6 := c_X6_newUnits l D cy a  t 
  obtain ⟨R_6, hR_6⟩ : ∃ g : Int64, g = (f_X6_newUnits t) := ⟨_, rfl⟩
  rw [← hR_6] at M_6
  refine zj_callVB C (nn := 18) (ws' := (WT cy a t)) (st := []) (st1 := [.long R_6]) ([] : va_W) ([] : va_W) 0 6 (M_6) (zg_V tg_410 tg_407 tg_408 tg_409 tg_2) ⟨rfl, hdZ_X6_newUnits⟩ ⟨rfl, rfl⟩ ⟨by decide, by decide⟩ rfl rfl (List.append_nil _).symm ⟨rfl, rfl⟩ rfl rfl (Nat.le_of_ble_eq_true rfl) dX6_payIncome_6 (List.append_nil _) rfl ?_
  refine zj_lstore_n C (L' := [(3, .long R_6), (1, .long R_1), (0, .ref (a 0))]) dX6_payIncome_9 rfl (by decide) rfl ?_
  refine zj_lload_n C dX6_payIncome_10 0 rfl ?_
  refine zj_lconst C (v := 0) dX6_payIncome_11 (by decide) ?_
  have J_12 : ∀ (x12_0 : Int64), x12_0 = (if R_6 ≤ 0 then 0 else ((1000 * (gTr_even t)) / R_6)) → zJ E 13 0 0 (WT cy a t) 30 [(3, .long R_6), (1, .long R_1), (0, .ref (a 0))] [.long x12_0] := by
    intro x12_0 hx12_0
    refine zj_lstore C (L' := [(5, .long x12_0), (3, .long R_6), (1, .long R_1), (0, .ref (a 0))]) dX6_payIncome_30 (by decide) rfl ?_
    refine zj_lconst C (v := 0) dX6_payIncome_32 (by decide) ?_
    refine zj_lstore C (L' := [(7, .long 0), (5, .long x12_0), (3, .long R_6), (1, .long R_1), (0, .ref (a 0))]) dX6_payIncome_33 (by decide) rfl ?_
    refine zj_iconst C (v := (nI 0)) dX6_payIncome_35 (by decide) ?_
    refine zj_istore C (L' := [(9, .int (nI 0)), (7, .long 0), (5, .long x12_0), (3, .long R_6), (1, .long R_1), (0, .ref (a 0))]) dX6_payIncome_36 (by decide) rfl ?_
    have loop_38 : ∀ (fuel : Nat) (hd0 : Nat → zHd) (al : Int64) (j : Nat), (hj : j ≤ 6) → 6 - j < fuel → (zJ E 13 0 0 (WT cy a (sTr_hd t ((L_X6_pay t x12_0 R_1 R_6 fuel hd0 al j).1))) 140 [(0, .ref (a 0)), (7, .long ((L_X6_pay t x12_0 R_1 R_6 fuel hd0 al j).2.1))] []) → zJ E 13 0 0 (WT cy a (sTr_hd t hd0)) 38 [(0, .ref (a 0)), (1, .long R_1), (3, .long R_6), (5, .long x12_0), (7, .long al), (9, .int (nI j))] [] := by
      intro fuel
      induction fuel with
      | zero => intro hd0 al j hj hmu; exact absurd hmu (Nat.not_lt_zero _)
      | succ fuel ih_38 =>
        intro hd0 al j hj hmu_38 K_38
        refine zj_iload C dX6_payIncome_38 5 rfl ?_
        refine zj_bipush C (v := (nI 6)) dX6_payIncome_40 (by decide) ?_
        refine zj_icmp_ge C 140 dX6_payIncome_42 (by decide) (fun c => ?_) (fun c => ?_)
        · have c_42 : 6 ≤ j := ((nI_leI (by omega) (by omega)).mp c)
          refine zj_sub (L' := [(0, .ref (a 0)), (7, .long al)]) [0, 4] rfl ?_
          have e_38 : (L_X6_pay t x12_0 R_1 R_6 (fuel + 1) hd0 al j) = (hd0, al, j) := by refine (L_X6_pay_s t x12_0 R_1 R_6 fuel hd0 al j).trans ?_; refine (if_pos c_42).trans ?_; rfl
          rw [e_38] at K_38
          exact K_38 
        · have c_42 : ¬ (6 ≤ j) := (fun q => c ((nI_leI (by omega) (by omega)).mpr q))
          refine zj_aload_n C dX6_payIncome_45 0 rfl ?_
          refine zj_get C 0 6 7 (v := .ref (a 2)) inZ6 rfl rfl (by decide) tg_156 rfl dX6_payIncome_46 ?_
          refine zj_iload C dX6_payIncome_49 5 rfl ?_
          refine zj_aald C 2 4 (f := (fun k => some (a (12 + k)))) (b := (a (12 + j))) j (nI_clamp (by omega)) (vp_in_nI (by omega) (by omega)) rfl rfl rfl dX6_payIncome_51 ?_
          refine zj_astore C (L' := [(10, .ref (a (12 + j))), (0, .ref (a 0)), (1, .long R_1), (3, .long R_6), (5, .long x12_0), (7, .long al), (9, .int (nI j))]) dX6_payIncome_52 (by decide) rfl ?_
          refine zj_aload C dX6_payIncome_54 0 rfl ?_
          have M_56 := c_X2_units l D cy (a (12 + j))  (hd0 j) 
          obtain ⟨R_56, hR_56⟩ : ∃ g : Int64, g = (f_X2_units (hd0 j)) := ⟨_, rfl⟩
          rw [← hR_56] at M_56
          refine zj_callV C (nn := 1) (ws' := (WT cy a (sTr_hd t hd0))) (st := []) (st1 := [.long R_56]) (12 + j) 2 [(12 + j)] (M_56) (zg_V tg_381 tg_378 tg_379 tg_380 tg_3) ⟨rfl, hdZ_X2_units⟩ ⟨rfl, rfl⟩ ⟨by decide, by decide⟩ (WT_h (by omega)) rfl (WT_hC (by omega)) rfl ⟨rfl, rfl⟩ rfl rfl (Nat.le_of_ble_eq_true rfl) dX6_payIncome_56 (WT_same (by omega)) rfl ?_
          refine zj_lload_n C dX6_payIncome_59 2 rfl ?_
          refine zj_lmul C dX6_payIncome_60 ?_
          refine zj_ldc2 C dX6_payIncome_61 tg_402 ?_
          refine zj_ldiv C dX6_payIncome_64 (by decide) ?_
          refine zj_lstore C (L' := [(11, .long ((R_56 * R_1) / 1000)), (10, .ref (a (12 + j))), (0, .ref (a 0)), (1, .long R_1), (3, .long R_6), (5, .long x12_0), (7, .long al), (9, .int (nI j))]) dX6_payIncome_65 (by decide) rfl ?_
          refine zj_aload C dX6_payIncome_67 1 rfl ?_
          refine zj_dup C dX6_payIncome_69 rfl ?_
          refine zj_get C (12 + j) 2 4 (v := .long (gHd_inc (hd0 j))) inZ2 (WT_h (by omega)) rfl (by decide) tg_46 rfl dX6_payIncome_70 ?_
          refine zj_lload C dX6_payIncome_73 0 rfl ?_
          refine zj_ladd C dX6_payIncome_75 ?_
          refine zj_toplg (fun V_76 hV_76 => ?_)
          refine zj_put C (12 + j) 2 4 (v := .long V_76) (ws' := (WT cy a (sTr_hd t (zup hd0 j (sHd_inc (hd0 j) V_76))))) tyX2 tyX2_ok nmX2 inZ2 (WT_h (by omega)) rfl (by decide) tg_46 rfl rfl rfl (Nat.le_of_ble_eq_true rfl) dX6_payIncome_76 (WT_set (sHd_inc (hd0 j) V_76) (by omega)) ?_
          refine zj_aload C dX6_payIncome_79 1 rfl ?_
          refine zj_dup C dX6_payIncome_81 rfl ?_
          refine zj_get C (12 + j) 2 5 (v := .long (gHd_eve (hd0 j))) inZ2 (WT_hz (by omega)) rfl (by decide) tg_49 rfl dX6_payIncome_82 ?_
          refine zj_aload C dX6_payIncome_85 1 rfl ?_
          refine zj_get C (12 + j) 2 1 (v := .long (gHd_new (hd0 j))) inZ2 (WT_hz (by omega)) rfl (by decide) tg_36 rfl dX6_payIncome_87 ?_
          refine zj_lload C dX6_payIncome_90 5 rfl ?_
          refine zj_lmul C dX6_payIncome_92 ?_
          refine zj_ldc2 C dX6_payIncome_93 tg_402 ?_
          refine zj_ldiv C dX6_payIncome_96 (by decide) ?_
          refine zj_lload C dX6_payIncome_97 0 rfl ?_
          refine zj_mmin C (x := (((gHd_new (hd0 j)) * x12_0) / 1000)) (y := ((R_56 * R_1) / 1000)) tg_411 ⟨by decide, Nat.le_of_ble_eq_true rfl⟩ dX6_payIncome_99 ?_
          refine zj_ladd C dX6_payIncome_102 ?_
          refine zj_toplg (fun V_103 hV_103 => ?_)
          refine zj_put C (12 + j) 2 5 (v := .long V_103) (ws' := (WT cy a (sTr_hd t (zup hd0 j (sHd_eve (sHd_inc (hd0 j) V_76) V_103))))) tyX2 tyX2_ok nmX2 inZ2 (WT_hz (by omega)) rfl (by decide) tg_49 rfl rfl rfl (Nat.le_of_ble_eq_true rfl) dX6_payIncome_103 (WT_setz (sHd_eve (sHd_inc (hd0 j) V_76) V_103) (by omega)) ?_
          refine zj_aload C dX6_payIncome_106 1 rfl ?_
          refine zj_dup C dX6_payIncome_108 rfl ?_
          refine zj_get C (12 + j) 2 0 (v := .long (gHd_old (hd0 j))) inZ2 (WT_hz (by omega)) rfl (by decide) tg_34 rfl dX6_payIncome_109 ?_
          refine zj_aload C dX6_payIncome_112 1 rfl ?_
          refine zj_get C (12 + j) 2 1 (v := .long (gHd_new (hd0 j))) inZ2 (WT_hz (by omega)) rfl (by decide) tg_36 rfl dX6_payIncome_114 ?_
          refine zj_ladd C dX6_payIncome_117 ?_
          refine zj_toplg (fun V_118 hV_118 => ?_)
          refine zj_put C (12 + j) 2 0 (v := .long V_118) (ws' := (WT cy a (sTr_hd t (zup hd0 j (sHd_eve (sHd_inc (sHd_old (hd0 j) V_118) V_76) V_103))))) tyX2 tyX2_ok nmX2 inZ2 (WT_hz (by omega)) rfl (by decide) tg_34 rfl rfl rfl (Nat.le_of_ble_eq_true rfl) dX6_payIncome_118 (WT_setz (sHd_eve (sHd_inc (sHd_old (hd0 j) V_118) V_76) V_103) (by omega)) ?_
          refine zj_aload C dX6_payIncome_121 1 rfl ?_
          refine zj_lconst C (v := 0) dX6_payIncome_123 (by decide) ?_
          refine zj_put C (12 + j) 2 1 (v := .long 0) (ws' := (WT cy a (sTr_hd t (zup hd0 j (sHd_eve (sHd_inc (sHd_new (sHd_old (hd0 j) V_118) 0) V_76) V_103))))) tyX2 tyX2_ok nmX2 inZ2 (WT_hz (by omega)) rfl (by decide) tg_36 rfl rfl rfl (Nat.le_of_ble_eq_true rfl) dX6_payIncome_124 (WT_setz (sHd_eve (sHd_inc (sHd_new (sHd_old (hd0 j) V_118) 0) V_76) V_103) (by omega)) ?_
          refine zj_lload C dX6_payIncome_127 6 rfl ?_
          refine zj_lload C dX6_payIncome_129 0 rfl ?_
          refine zj_ladd C dX6_payIncome_131 ?_
          refine zj_lstore C (L' := [(7, .long (al + ((R_56 * R_1) / 1000))), (11, .long ((R_56 * R_1) / 1000)), (10, .ref (a (12 + j))), (0, .ref (a 0)), (1, .long R_1), (3, .long R_6), (5, .long x12_0), (9, .int (nI j))]) dX6_payIncome_132 (by decide) rfl ?_
          refine zj_iinc C (j := 7) (v := (nI (j + 1))) (L' := [(9, .int (nI (j + 1))), (7, .long (al + ((R_56 * R_1) / 1000))), (11, .long ((R_56 * R_1) / 1000)), (10, .ref (a (12 + j))), (0, .ref (a 0)), (1, .long R_1), (3, .long R_6), (5, .long x12_0)]) dX6_payIncome_134 rfl (nI_1 _) (by decide) rfl ?_
          refine zj_goto C 38 dX6_payIncome_137 (by decide) ?_
          refine zj_sub (L' := [(0, .ref (a 0)), (1, .long R_1), (3, .long R_6), (5, .long x12_0), (7, .long (al + ((R_56 * R_1) / 1000))), (9, .int (nI (j + 1)))]) [4, 5, 6, 7, 1, 0] rfl ?_
          have hn_hj : (j + 1) ≤ 6 := (by omega)
          have hn_mu : 6 - (j + 1) < fuel := (by omega)
          subst hV_118
          subst hV_103
          subst hV_76
          subst hR_56
          have e_38 : (L_X6_pay t x12_0 R_1 R_6 (fuel + 1) hd0 al j) = (L_X6_pay t x12_0 R_1 R_6 fuel (zup hd0 j (sHd_eve (sHd_inc (sHd_new (sHd_old (hd0 j) ((gHd_old (hd0 j)) + (gHd_new (hd0 j)))) 0) ((gHd_inc (hd0 j)) + (((f_X2_units (hd0 j)) * R_1) / 1000))) ((gHd_eve (hd0 j)) + (if (((f_X2_units (hd0 j)) * R_1) / 1000) < (((gHd_new (hd0 j)) * x12_0) / 1000) then (((f_X2_units (hd0 j)) * R_1) / 1000) else (((gHd_new (hd0 j)) * x12_0) / 1000))))) (al + (((f_X2_units (hd0 j)) * R_1) / 1000)) (j + 1)) := by refine (L_X6_pay_s t x12_0 R_1 R_6 fuel hd0 al j).trans ?_; refine (if_neg c_42).trans ?_; rfl
          rw [e_38] at K_38
          exact ih_38 (zup hd0 j (sHd_eve (sHd_inc (sHd_new (sHd_old (hd0 j) ((gHd_old (hd0 j)) + (gHd_new (hd0 j)))) 0) ((gHd_inc (hd0 j)) + (((f_X2_units (hd0 j)) * R_1) / 1000))) ((gHd_eve (hd0 j)) + (if (((f_X2_units (hd0 j)) * R_1) / 1000) < (((gHd_new (hd0 j)) * x12_0) / 1000) then (((f_X2_units (hd0 j)) * R_1) / 1000) else (((gHd_new (hd0 j)) * x12_0) / 1000))))) (al + (((f_X2_units (hd0 j)) * R_1) / 1000)) (j + 1) hn_hj hn_mu K_38
    have K_38 : ∀ (hd1 : Nat → zHd) (al1 : Int64) (j1 : Nat), hd1 = ((L_X6_pay t x12_0 R_1 R_6 (6 - 0 + 1) (gTr_hd t) 0 0).1) → al1 = ((L_X6_pay t x12_0 R_1 R_6 (6 - 0 + 1) (gTr_hd t) 0 0).2.1) → j1 = ((L_X6_pay t x12_0 R_1 R_6 (6 - 0 + 1) (gTr_hd t) 0 0).2.2) → zJ E 13 0 0 (WT cy a (sTr_hd t hd1)) 140 [(0, .ref (a 0)), (7, .long al1)] [] := by
      intro hd1 al1 j1 hhd1 hal1 hj1 
      refine zj_aload_n C dX6_payIncome_140 0 rfl ?_
      refine zj_dup C dX6_payIncome_141 rfl ?_
      refine zj_get C 0 6 0 (v := .long (gTr_cash t)) inZ6 rfl rfl (by decide) tg_139 rfl dX6_payIncome_142 ?_
      refine zj_lload C dX6_payIncome_145 1 rfl ?_
      refine zj_lsub C dX6_payIncome_147 ?_
      refine zj_toplg (fun V_148 hV_148 => ?_)
      refine zj_put C 0 6 0 (v := .long V_148) (ws' := (WT cy a (sTr_hd (sTr_cash t V_148) hd1))) tyX6 tyX6_ok nmX6 inZ6 rfl rfl (by decide) tg_139 rfl rfl rfl (Nat.le_of_ble_eq_true rfl) dX6_payIncome_148 rfl ?_
      refine zj_aload_n C dX6_payIncome_151 0 rfl ?_
      refine zj_dup C dX6_payIncome_152 rfl ?_
      refine zj_get C 0 6 1 (v := .long (gTr_pool t)) inZ6 rfl rfl (by decide) tg_142 rfl dX6_payIncome_153 ?_
      refine zj_lload C dX6_payIncome_156 1 rfl ?_
      refine zj_lsub C dX6_payIncome_158 ?_
      refine zj_toplg (fun V_159 hV_159 => ?_)
      refine zj_put C 0 6 1 (v := .long V_159) (ws' := (WT cy a (sTr_hd (sTr_pool (sTr_cash t V_148) V_159) hd1))) tyX6 tyX6_ok nmX6 inZ6 rfl rfl (by decide) tg_142 rfl rfl rfl (Nat.le_of_ble_eq_true rfl) dX6_payIncome_159 rfl ?_
      refine zj_aload_n C dX6_payIncome_162 0 rfl ?_
      refine zj_lconst C (v := 0) dX6_payIncome_163 (by decide) ?_
      refine zj_put C 0 6 2 (v := .long 0) (ws' := (WT cy a (sTr_hd (sTr_even (sTr_pool (sTr_cash t V_148) V_159) 0) hd1))) tyX6 tyX6_ok nmX6 inZ6 rfl rfl (by decide) tg_144 rfl rfl rfl (Nat.le_of_ble_eq_true rfl) dX6_payIncome_164 rfl ?_
      refine zj_lload C dX6_payIncome_167 1 rfl ?_
      refine zj_l2i C dX6_payIncome_169 ?_
      subst hV_159
      subst hV_148
      subst hj1
      subst hal1
      subst hhd1
      subst hx12_0
      subst hR_6
      subst hR_1
      have e : f_X6_payIncome t = (((((L_X6_pay t (if (f_X6_newUnits t) ≤ 0 then 0 else ((1000 * (gTr_even t)) / (f_X6_newUnits t))) (f_X6_unitIncome t) (f_X6_newUnits t) (6 - 0 + 1) (gTr_hd t) 0 0).2.1)).toInt32), (sTr_hd (sTr_even (sTr_pool (sTr_cash t ((gTr_cash t) - ((L_X6_pay t (if (f_X6_newUnits t) ≤ 0 then 0 else ((1000 * (gTr_even t)) / (f_X6_newUnits t))) (f_X6_unitIncome t) (f_X6_newUnits t) (6 - 0 + 1) (gTr_hd t) 0 0).2.1))) ((gTr_pool t) - ((L_X6_pay t (if (f_X6_newUnits t) ≤ 0 then 0 else ((1000 * (gTr_even t)) / (f_X6_newUnits t))) (f_X6_unitIncome t) (f_X6_newUnits t) (6 - 0 + 1) (gTr_hd t) 0 0).2.1))) 0) ((L_X6_pay t (if (f_X6_newUnits t) ≤ 0 then 0 else ((1000 * (gTr_even t)) / (f_X6_newUnits t))) (f_X6_unitIncome t) (f_X6_newUnits t) (6 - 0 + 1) (gTr_hd t) 0 0).1))) := by rfl
      rw [e] at hret
      exact hret _ _ dX6_payIncome_170
    refine zj_sub (L' := [(0, .ref (a 0)), (1, .long R_1), (3, .long R_6), (5, .long x12_0), (7, .long 0), (9, .int (nI 0))]) [5, 4, 3, 2, 1, 0] rfl ?_
    refine zj_eq (ws' := (WT cy a (sTr_hd t (gTr_hd t)))) rfl rfl rfl rfl ?_
    exact loop_38 (6 - 0 + 1) (gTr_hd t) 0 0 (by omega) (Nat.lt_succ_self _) (K_38 _ _ _ rfl rfl rfl)
  refine zj_lcmp_le C 29 dX6_payIncome_12 dX6_payIncome_13 (by decide) (fun c => ?_) (fun c => ?_)
  · have c_12 : R_6 ≤ 0 := c
    refine zj_lconst C (v := 0) dX6_payIncome_29 (by decide) ?_
    exact J_12 0 (by simp only [if_pos c_12]; first | done | assumption)
  · have c_12 : ¬ (R_6 ≤ 0) := c
    refine zj_ldc2 C dX6_payIncome_16 tg_402 ?_
    refine zj_aload_n C dX6_payIncome_19 2 rfl ?_
    refine zj_get C 0 6 2 (v := .long (gTr_even t)) inZ6 rfl rfl (by decide) tg_144 rfl dX6_payIncome_20 ?_
    refine zj_lmul C dX6_payIncome_23 ?_
    refine zj_lload_n C dX6_payIncome_24 0 rfl ?_
    refine zj_ldiv C dX6_payIncome_25 (zne_le c_12) ?_
    refine zj_goto C 30 dX6_payIncome_26 (by decide) ?_
    exact J_12 ((1000 * (gTr_even t)) / R_6) (by simp only [if_neg c_12]; first | done | assumption)
