noncomputable def f_X5_start (x : zPd) : zPd :=
  (sPd_at x 0)
set_option maxHeartbeats 4000000 in
set_option maxRecDepth 100000 in
theorem c_X5_start (l : Launch) (D : va_G) (cy : Nat → ClassId) (p0 p1 : Nat)  (x : zPd)  : zC l yX5_start (zW yX5_start cX5_start 1 (Option.none : Option Jvm.ClassFile.FieldType)) { frames := 0, cells := 0, slots := 0, locals := 0 } D cy [.ref p0] (WP cy p0 p1 x) none (WP cy p0 p1 (f_X5_start x)) := by
  refine zC_of rfl (Nat.le_of_ble_eq_true rfl) zOk_v (fun E C hret => ?_)
  show zJ E 1 0 0 (WP cy p0 p1 x) 0 [(0, .ref p0)] []
  refine zj_aload_n C dX5_start_0 0 rfl ?_
  refine zj_iconst C (v := (nI 0)) dX5_start_1 (by decide) ?_
  refine zj_put C 0 5 2 (v := .int (nI 0)) (ws' := (WP cy p0 p1 (sPd_at x 0))) tyX5 tyX5_ok nmX5 inZ5 rfl rfl (by decide) tg_232 rfl rfl rfl (Nat.le_of_ble_eq_true rfl) dX5_start_2 rfl ?_
  have e : f_X5_start x = (sPd_at x 0) := by rfl
  rw [e] at hret
  exact hret _ _ dX5_start_5

noncomputable def f_X5_empty (x : zPd) : Nat × zPd :=
  ((gPd_n x), (sPd_n x 0))
set_option maxHeartbeats 4000000 in
set_option maxRecDepth 100000 in
theorem c_X5_empty (l : Launch) (D : va_G) (cy : Nat → ClassId) (p0 p1 : Nat)  (x : zPd)  : zC l yX5_empty (zW yX5_empty cX5_empty 2 (Option.some Jvm.ClassFile.FieldType.int)) { frames := 0, cells := 0, slots := 0, locals := 0 } D cy [.ref p0] (WP cy p0 p1 x) (some (.int (nI ((f_X5_empty x).1)))) (WP cy p0 p1 ((f_X5_empty x).2)) := by
  refine zC_of rfl (Nat.le_of_ble_eq_true rfl) (zOk_i _) (fun E C hret => ?_)
  show zJ E 2 0 0 (WP cy p0 p1 x) 0 [(0, .ref p0)] []
  refine zj_aload_n C dX5_empty_0 0 rfl ?_
  refine zj_get C 0 5 0 (v := .int (nI (gPd_n x))) inZ5 rfl rfl (by decide) tg_229 rfl dX5_empty_1 ?_
  refine zj_istore_n C (L' := [(1, .int (nI (gPd_n x))), (0, .ref p0)]) dX5_empty_4 rfl (by decide) rfl ?_
  refine zj_aload_n C dX5_empty_5 1 rfl ?_
  refine zj_iconst C (v := (nI 0)) dX5_empty_6 (by decide) ?_
  refine zj_put C 0 5 0 (v := .int (nI 0)) (ws' := (WP cy p0 p1 (sPd_n x 0))) tyX5 tyX5_ok nmX5 inZ5 rfl rfl (by decide) tg_229 rfl rfl rfl (Nat.le_of_ble_eq_true rfl) dX5_empty_7 rfl ?_
  refine zj_iload_n C dX5_empty_10 0 rfl ?_
  have e : f_X5_empty x = ((gPd_n x), (sPd_n x 0)) := by rfl
  rw [e] at hret
  exact hret _ _ dX5_empty_11

noncomputable def L_X5_fault (T_1 : zPd) : Nat → (zPd) → (Nat) → (Bool) × (Int32) × (zPd) × (Nat)
  | 0, X, k => (false, 0, X, k)
  | fuel + 1, X, k =>
    if 80 ≤ k then
      (false, 0, X, k)
    else
      let T_13 : zPd := ((f_X5_readOrder X).2)
      let R_13_1 : Bool := ((f_X5_readOrder X).1)
      if R_13_1 = false then
        (true, (nI (gPd_at T_13)), T_13, k)
      else
        if (gPd_at T_13) < (gPd_n T_13) then
          let T_41 : zPd := ((f_X5_skip T_13 (nI 59)).2)
          let R_41_1 : Bool := ((f_X5_skip T_13 (nI 59)).1)
          if R_41_1 = false then
            (true, (nI (gPd_at T_41)), T_41, k)
          else
            L_X5_fault T_1 fuel T_41 (k + 1)
        else
          (true, (-6), T_13, k)
theorem L_X5_fault_s (T_1 : zPd) (fuel : Nat) (X : zPd) (k : Nat) : L_X5_fault T_1 (fuel + 1) X k = (
    if 80 ≤ k then
      (false, 0, X, k)
    else
      let T_13 : zPd := ((f_X5_readOrder X).2)
      let R_13_1 : Bool := ((f_X5_readOrder X).1)
      if R_13_1 = false then
        (true, (nI (gPd_at T_13)), T_13, k)
      else
        if (gPd_at T_13) < (gPd_n T_13) then
          let T_41 : zPd := ((f_X5_skip T_13 (nI 59)).2)
          let R_41_1 : Bool := ((f_X5_skip T_13 (nI 59)).1)
          if R_41_1 = false then
            (true, (nI (gPd_at T_41)), T_41, k)
          else
            L_X5_fault T_1 fuel T_41 (k + 1)
        else
          (true, (-6), T_13, k)
  ) := rfl
noncomputable def f_X5_findFault (x : zPd) : Int32 × zPd := zsl (
  let T_1 : zPd := (f_X5_start x)
  let fl_6 : Bool := ((L_X5_fault T_1 (80 - 0 + 1) T_1 0).1)
  let rv_6 : Int32 := ((L_X5_fault T_1 (80 - 0 + 1) T_1 0).2.1)
  let X1 : zPd := ((L_X5_fault T_1 (80 - 0 + 1) T_1 0).2.2.1)
  let k1 : Nat := ((L_X5_fault T_1 (80 - 0 + 1) T_1 0).2.2.2)
  if fl_6 = true then
    (rv_6, X1)
  else
    ((nI (gPd_at X1)), X1)
  )
set_option maxHeartbeats 4000000 in
set_option maxRecDepth 100000 in
theorem c_X5_findFault (l : Launch) (D : va_G) (cy : Nat → ClassId) (p0 p1 : Nat)  (x : zPd) (hn : gPd_n x ≤ 80) (hsg : ∀ i, zch (gPd_sg x i)) : zC l yX5_findFault (zW yX5_findFault cX5_findFault 2 (Option.some Jvm.ClassFile.FieldType.int)) { frames := 5, cells := 0, slots := 0, locals := 105 } D cy [.ref p0] (WP cy p0 p1 x) (some (.int ((f_X5_findFault x).1))) (WP cy p0 p1 ((f_X5_findFault x).2)) := by
  refine zC_of rfl (Nat.le_of_ble_eq_true rfl) (zOk_i _) (fun E C hret => ?_)
  show zJ E 2 0 0 (WP cy p0 p1 x) 0 [(0, .ref p0)] []
  refine zj_aload_n C dX5_findFault_0 0 rfl ?_
  have M_1 := c_X5_start l D cy p0 p1  x 
  obtain ⟨T_1, hT_1⟩ : ∃ g : zPd, g = (f_X5_start x) := ⟨_, rfl⟩
  rw [← hT_1] at M_1
  refine zj_callV C (nn := 2) (ws' := (WP cy p0 p1 T_1)) (st := []) (st1 := []) 0 5 [0, 1] (M_1) (zg_V tg_606 tg_603 tg_604 tg_605 tg_7) ⟨rfl, hdZ_X5_start⟩ ⟨rfl, rfl⟩ ⟨by decide, by decide⟩ rfl rfl rfl (by decide) ⟨rfl, rfl⟩ rfl rfl (Nat.le_of_ble_eq_true rfl) dX5_findFault_1 rfl rfl ?_
  have z1 : zpd T_1 := by { rw [hT_1]; exact ⟨hn, Nat.zero_le _, hsg⟩ }
  refine zj_iconst C (v := (nI 0)) dX5_findFault_4 (by decide) ?_
  refine zj_istore_n C (L' := [(1, .int (nI 0)), (0, .ref p0)]) dX5_findFault_5 rfl (by decide) rfl ?_
  have loop_6 : ∀ (fuel : Nat) (X : zPd) (k : Nat), (hk : k ≤ 80) → (hzX : zpd X) → 80 - k < fuel → (((L_X5_fault T_1 fuel X k).1) = false → zJ E 2 0 0 (WP cy p0 p1 ((L_X5_fault T_1 fuel X k).2.2.1)) 58 [(0, .ref p0)] []) → (((L_X5_fault T_1 fuel X k).1) = true → zR E cX5_findFault 2 (some (.int ((L_X5_fault T_1 fuel X k).2.1))) (WP cy p0 p1 ((L_X5_fault T_1 fuel X k).2.2.1))) → zJ E 2 0 0 (WP cy p0 p1 X) 6 [(0, .ref p0), (1, .int (nI k))] [] := by
    intro fuel
    induction fuel with
    | zero => intro X k hk hzX hmu; exact absurd hmu (Nat.not_lt_zero _)
    | succ fuel ih_6 =>
      intro X k hk hzX hmu_6 K_6 R_6
      refine zj_iload_n C dX5_findFault_6 1 rfl ?_
      refine zj_bipush C (v := (nI 80)) dX5_findFault_7 (by decide) ?_
      refine zj_icmp_ge C 58 dX5_findFault_9 (by decide) (fun c => ?_) (fun c => ?_)
      · have c_9 : 80 ≤ k := ((nI_leI (by omega) (by omega)).mp c)
        refine zj_sub (L' := [(0, .ref p0)]) [0] rfl ?_
        have e_6 : (L_X5_fault T_1 (fuel + 1) X k) = (false, 0, X, k) := by refine (L_X5_fault_s T_1 fuel X k).trans ?_; refine (if_pos c_9).trans ?_; rfl
        rw [e_6] at K_6 R_6
        exact K_6 rfl 
      · have c_9 : ¬ (80 ≤ k) := (fun q => c ((nI_leI (by omega) (by omega)).mpr q))
        refine zj_aload_n C dX5_findFault_12 0 rfl ?_
        have M_13 := c_X5_readOrder l D cy p0 p1  X hzX
        obtain ⟨T_13, hT_13⟩ : ∃ g : zPd, g = ((f_X5_readOrder X).2) := ⟨_, rfl⟩
        rw [← hT_13] at M_13
        obtain ⟨R_13_1, hR_13_1⟩ : ∃ g : Bool, g = ((f_X5_readOrder X).1) := ⟨_, rfl⟩
        rw [← hR_13_1] at M_13
        refine zj_callV C (nn := 2) (ws' := (WP cy p0 p1 T_13)) (st := []) (st1 := [.int (zB R_13_1)]) 0 5 [0, 1] (M_13) (zg_V tg_610 tg_607 tg_608 tg_609 tg_7) ⟨rfl, hdZ_X5_readOrder⟩ ⟨rfl, rfl⟩ ⟨by decide, by decide⟩ rfl rfl rfl (by decide) ⟨rfl, rfl⟩ rfl rfl (Nat.le_of_ble_eq_true rfl) dX5_findFault_13 rfl rfl ?_
        have z13 : zpd T_13 := by { rw [hT_13]; exact zpd_of hzX (zk_order hzX) }; have z13a := z13.1; have z13b := z13.2.1
        refine zj_if_ne C 24 dX5_findFault_16 (by decide) (fun c => ?_) (fun c => ?_)
        · have c_16 : ¬ (R_13_1 = false) := (zB_neq c)
          refine zj_aload_n C dX5_findFault_24 0 rfl ?_
          refine zj_get C 0 5 2 (v := .int (nI (gPd_at T_13))) inZ5 rfl rfl (by decide) tg_232 rfl dX5_findFault_25 ?_
          refine zj_aload_n C dX5_findFault_28 0 rfl ?_
          refine zj_get C 0 5 0 (v := .int (nI (gPd_n T_13))) inZ5 rfl rfl (by decide) tg_229 rfl dX5_findFault_29 ?_
          refine zj_icmp_lt C 38 dX5_findFault_32 (by decide) (fun c => ?_) (fun c => ?_)
          · have c_32 : (gPd_at T_13) < (gPd_n T_13) := ((nI_ltI (by omega) (by omega)).mp c)
            refine zj_aload_n C dX5_findFault_38 0 rfl ?_
            refine zj_bipush C (v := (nI 59)) dX5_findFault_39 (by decide) ?_
            have M_41 := c_X5_skip l D cy p0 p1 (nI 59) T_13 (by decide) z13
            obtain ⟨T_41, hT_41⟩ : ∃ g : zPd, g = ((f_X5_skip T_13 (nI 59)).2) := ⟨_, rfl⟩
            rw [← hT_41] at M_41
            obtain ⟨R_41_1, hR_41_1⟩ : ∃ g : Bool, g = ((f_X5_skip T_13 (nI 59)).1) := ⟨_, rfl⟩
            rw [← hR_41_1] at M_41
            refine zj_callV C (nn := 2) (ws' := (WP cy p0 p1 T_41)) (st := []) (st1 := [.int (zB R_41_1)]) 0 5 [0, 1] (M_41) (zg_V tg_627 tg_624 tg_625 tg_626 tg_7) ⟨rfl, hdZ_X5_skip⟩ ⟨rfl, rfl⟩ ⟨by decide, by decide⟩ rfl rfl rfl (by decide) ⟨rfl, rfl⟩ rfl rfl (Nat.le_of_ble_eq_true rfl) dX5_findFault_41 rfl rfl ?_
            have z41 : zpd T_41 := by { rw [hT_41]; exact zpd_of z13 (zk_skip (by decide) z13) }
            refine zj_if_ne C 52 dX5_findFault_44 (by decide) (fun c => ?_) (fun c => ?_)
            · have c_44 : ¬ (R_41_1 = false) := (zB_neq c)
              refine zj_iinc C (j := 1) (v := (nI (k + 1))) (L' := [(1, .int (nI (k + 1))), (0, .ref p0)]) dX5_findFault_52 rfl (nI_1 _) (by decide) rfl ?_
              refine zj_goto C 6 dX5_findFault_55 (by decide) ?_
              refine zj_sub (L' := [(0, .ref p0), (1, .int (nI (k + 1)))]) [1, 0] rfl ?_
              have hn_hk : (k + 1) ≤ 80 := (by omega)
              have hn_hzX : zpd T_41 := z41
              have hn_mu : 80 - (k + 1) < fuel := (by omega)
              subst hR_41_1
              subst hT_41
              subst hR_13_1
              subst hT_13
              have e_6 : (L_X5_fault T_1 (fuel + 1) X k) = (L_X5_fault T_1 fuel ((f_X5_skip ((f_X5_readOrder X).2) (nI 59)).2) (k + 1)) := by refine (L_X5_fault_s T_1 fuel X k).trans ?_; refine (if_neg c_9).trans ?_; refine (if_neg c_16).trans ?_; refine (if_pos c_32).trans ?_; refine (if_neg c_44).trans ?_; rfl
              rw [e_6] at K_6 R_6
              exact ih_6 ((f_X5_skip ((f_X5_readOrder X).2) (nI 59)).2) (k + 1) hn_hk hn_hzX hn_mu K_6 R_6
            · have c_44 : R_41_1 = false := (zB_eq (Classical.not_not.mp c))
              refine zj_aload_n C dX5_findFault_47 0 rfl ?_
              refine zj_get C 0 5 2 (v := .int (nI (gPd_at T_41))) inZ5 rfl rfl (by decide) tg_232 rfl dX5_findFault_48 ?_
              subst hR_41_1
              subst hT_41
              subst hR_13_1
              subst hT_13
              have e_6 : (L_X5_fault T_1 (fuel + 1) X k) = (true, (nI (gPd_at ((f_X5_skip ((f_X5_readOrder X).2) (nI 59)).2))), ((f_X5_skip ((f_X5_readOrder X).2) (nI 59)).2), k) := by refine (L_X5_fault_s T_1 fuel X k).trans ?_; refine (if_neg c_9).trans ?_; refine (if_neg c_16).trans ?_; refine (if_pos c_32).trans ?_; refine (if_pos c_44).trans ?_; rfl
              rw [e_6] at K_6 R_6
              exact R_6 rfl _ _ dX5_findFault_51
          · have c_32 : ¬ ((gPd_at T_13) < (gPd_n T_13)) := (fun q => c ((nI_ltI (by omega) (by omega)).mpr q))
            refine zj_bipush C (v := (-6)) dX5_findFault_35 (by decide) ?_
            subst hR_13_1
            subst hT_13
            have e_6 : (L_X5_fault T_1 (fuel + 1) X k) = (true, (-6), ((f_X5_readOrder X).2), k) := by refine (L_X5_fault_s T_1 fuel X k).trans ?_; refine (if_neg c_9).trans ?_; refine (if_neg c_16).trans ?_; refine (if_neg c_32).trans ?_; rfl
            rw [e_6] at K_6 R_6
            exact R_6 rfl _ _ dX5_findFault_37
        · have c_16 : R_13_1 = false := (zB_eq (Classical.not_not.mp c))
          refine zj_aload_n C dX5_findFault_19 0 rfl ?_
          refine zj_get C 0 5 2 (v := .int (nI (gPd_at T_13))) inZ5 rfl rfl (by decide) tg_232 rfl dX5_findFault_20 ?_
          subst hR_13_1
          subst hT_13
          have e_6 : (L_X5_fault T_1 (fuel + 1) X k) = (true, (nI (gPd_at ((f_X5_readOrder X).2))), ((f_X5_readOrder X).2), k) := by refine (L_X5_fault_s T_1 fuel X k).trans ?_; refine (if_neg c_9).trans ?_; refine (if_pos c_16).trans ?_; rfl
          rw [e_6] at K_6 R_6
          exact R_6 rfl _ _ dX5_findFault_23
  have K_6 : ∀ (fl_6 : Bool) (rv_6 : Int32) (X1 : zPd) (k1 : Nat), fl_6 = ((L_X5_fault T_1 (80 - 0 + 1) T_1 0).1) → rv_6 = ((L_X5_fault T_1 (80 - 0 + 1) T_1 0).2.1) → X1 = ((L_X5_fault T_1 (80 - 0 + 1) T_1 0).2.2.1) → k1 = ((L_X5_fault T_1 (80 - 0 + 1) T_1 0).2.2.2) → fl_6 = false → zJ E 2 0 0 (WP cy p0 p1 X1) 58 [(0, .ref p0)] [] := by
    intro fl_6 rv_6 X1 k1 hfl_6 hrv_6 hX1 hk1 hfl_6_0 
    have c_fl6 : ¬ fl_6 = true := by rw [hfl_6_0]; decide
    refine zj_aload_n C dX5_findFault_58 0 rfl ?_
    refine zj_get C 0 5 2 (v := .int (nI (gPd_at X1))) inZ5 rfl rfl (by decide) tg_232 rfl dX5_findFault_59 ?_
    subst hk1
    subst hX1
    subst hrv_6
    subst hfl_6
    subst hT_1
    have e : f_X5_findFault x = ((nI (gPd_at ((L_X5_fault (f_X5_start x) (80 - 0 + 1) (f_X5_start x) 0).2.2.1))), ((L_X5_fault (f_X5_start x) (80 - 0 + 1) (f_X5_start x) 0).2.2.1)) := by refine (zsl_e _).trans ?_; refine (if_neg c_fl6).trans ?_; rfl
    rw [e] at hret
    exact hret _ _ dX5_findFault_62
  have R_6 : (((L_X5_fault T_1 (80 - 0 + 1) T_1 0).1) = true → zR E cX5_findFault 2 (some (.int ((L_X5_fault T_1 (80 - 0 + 1) T_1 0).2.1))) (WP cy p0 p1 ((L_X5_fault T_1 (80 - 0 + 1) T_1 0).2.2.1))) := by
    intro hfl
    subst hT_1
    have e : f_X5_findFault x = (((L_X5_fault (f_X5_start x) (80 - 0 + 1) (f_X5_start x) 0).2.1), ((L_X5_fault (f_X5_start x) (80 - 0 + 1) (f_X5_start x) 0).2.2.1)) := by refine (zsl_e _).trans ?_; refine (if_pos hfl).trans ?_; rfl
    rw [e] at hret
    exact hret
  refine zj_sub (L' := [(0, .ref p0), (1, .int (nI 0))]) [1, 0] rfl ?_
  exact loop_6 (80 - 0 + 1) T_1 0 (by omega) z1 (Nat.lt_succ_self _) (K_6 _ _ _ _ rfl rfl rfl rfl) R_6

noncomputable def L_X5_app (ch : Int64) : Nat → (zPd) → (Nat) → (zPd) × (Nat)
  | 0, X, j => (X, j)
  | fuel + 1, X, j =>
    if j = 0 then
      (X, j)
    else
      if 80 ≤ (gPd_n X) then
        (X, j)
      else
        let V_40 : Int32 := ((((((ch.toUInt64 >>> ((nI (8 * (j - 1))).toInt64.toUInt64 &&& Int64.toUInt64 63)).toInt64 &&& 255)).toInt32)).toUInt32 % 65536).toInt32
        let V_48 : Nat := (gPd_n X) + 1
        L_X5_app ch fuel (sPd_sg (sPd_n X V_48) (upd (gPd_sg X) (gPd_n X) V_40)) (j - 1)
theorem L_X5_app_s (ch : Int64) (fuel : Nat) (X : zPd) (j : Nat) : L_X5_app ch (fuel + 1) X j = (
    if j = 0 then
      (X, j)
    else
      if 80 ≤ (gPd_n X) then
        (X, j)
      else
        let V_40 : Int32 := ((((((ch.toUInt64 >>> ((nI (8 * (j - 1))).toInt64.toUInt64 &&& Int64.toUInt64 63)).toInt64 &&& 255)).toInt32)).toUInt32 % 65536).toInt32
        let V_48 : Nat := (gPd_n X) + 1
        L_X5_app ch fuel (sPd_sg (sPd_n X V_48) (upd (gPd_sg X) (gPd_n X) V_40)) (j - 1)
  ) := rfl
noncomputable def f_X5_append (x : zPd) (ch : Int64) (cnt : Nat) : zPd :=
  let X1 : zPd := ((L_X5_app ch (cnt + 1) x cnt).1)
  let j1 : Nat := ((L_X5_app ch (cnt + 1) x cnt).2)
  X1
set_option maxHeartbeats 4000000 in
set_option maxRecDepth 100000 in
theorem c_X5_append (l : Launch) (D : va_G) (cy : Nat → ClassId) (p0 p1 : Nat) (ch : Int64) (cnt : Nat) (x : zPd) (hn : gPd_n x ≤ 80) (hc1 : 1 ≤ cnt) (hc8 : cnt ≤ 8) : zC l yX5_append (zW yX5_append cX5_append 5 (Option.none : Option Jvm.ClassFile.FieldType)) { frames := 0, cells := 0, slots := 0, locals := 0 } D cy [.ref p0, .long ch, .int (nI cnt)] (WP cy p0 p1 x) none (WP cy p0 p1 (f_X5_append x ch cnt)) := by
  refine zC_of rfl (Nat.le_of_ble_eq_true rfl) zOk_v (fun E C hret => ?_)
  show zJ E 5 0 0 (WP cy p0 p1 x) 0 [(0, .ref p0), (1, .long ch), (3, .int (nI cnt))] []
  refine zj_iload_n C dX5_append_0 2 rfl ?_
  refine zj_iconst C (v := (nI 1)) dX5_append_1 (by decide) ?_
  refine zj_isub C dX5_append_2 ?_
  refine zj_istore C (L' := [(4, .int ((nI cnt) - (nI 1))), (0, .ref p0), (1, .long ch), (3, .int (nI cnt))]) dX5_append_3 (by decide) rfl ?_
  have loop_5 : ∀ (fuel : Nat) (X : zPd) (j : Nat), (hj : j ≤ 8) → (hX : gPd_n X ≤ 80) → j < fuel → (zJ E 5 0 0 (WP cy p0 p1 ((L_X5_app ch fuel X j).1)) 57 [(0, .ref p0)] []) → zJ E 5 0 0 (WP cy p0 p1 X) 5 [(0, .ref p0), (1, .long ch), (4, .int ((nI j) - (nI 1)))] [] := by
    intro fuel
    induction fuel with
    | zero => intro X j hj hX hmu; exact absurd hmu (Nat.not_lt_zero _)
    | succ fuel ih_5 =>
      intro X j hj hX hmu_5 K_5
      refine zj_iload C dX5_append_5 2 rfl ?_
      refine zj_if_lt C 57 dX5_append_7 (by decide) (fun c => ?_) (fun c => ?_)
      · have c_7 : j = 0 := ((zI_m1lt (by omega)).mp c)
        refine zj_sub (L' := [(0, .ref p0)]) [0] rfl ?_
        have e_5 : (L_X5_app ch (fuel + 1) X j) = (X, j) := by refine (L_X5_app_s ch fuel X j).trans ?_; refine (if_pos c_7).trans ?_; rfl
        rw [e_5] at K_5
        exact K_5 
      · have c_7 : ¬ (j = 0) := (fun q => c ((zI_m1lt (by omega)).mpr q))
        refine zj_aload_n C dX5_append_10 0 rfl ?_
        refine zj_get C 0 5 0 (v := .int (nI (gPd_n X))) inZ5 rfl rfl (by decide) tg_229 rfl dX5_append_11 ?_
        refine zj_bipush C (v := (nI 80)) dX5_append_14 (by decide) ?_
        refine zj_icmp_ge C 57 dX5_append_16 (by decide) (fun c => ?_) (fun c => ?_)
        · have c_16 : 80 ≤ (gPd_n X) := ((nI_leI (by omega) (by omega)).mp c)
          refine zj_sub (L' := [(0, .ref p0)]) [0] rfl ?_
          have e_5 : (L_X5_app ch (fuel + 1) X j) = (X, j) := by refine (L_X5_app_s ch fuel X j).trans ?_; refine (if_neg c_7).trans ?_; refine (if_pos c_16).trans ?_; rfl
          rw [e_5] at K_5
          exact K_5 
        · have c_16 : ¬ (80 ≤ (gPd_n X)) := (fun q => c ((nI_leI (by omega) (by omega)).mpr q))
          refine zj_aload_n C dX5_append_19 0 rfl ?_
          refine zj_get C 0 5 1 (v := .ref p1) inZ5 rfl rfl (by decide) tg_231 rfl dX5_append_20 ?_
          refine zj_aload_n C dX5_append_23 0 rfl ?_
          refine zj_get C 0 5 0 (v := .int (nI (gPd_n X))) inZ5 rfl rfl (by decide) tg_229 rfl dX5_append_24 ?_
          refine zj_lload_n C dX5_append_27 1 rfl ?_
          refine zj_bipush C (v := (nI 8)) dX5_append_28 (by decide) ?_
          refine zj_iload C dX5_append_30 2 rfl ?_
          refine zj_topi (nI (j - 1)) (pk_sub (by omega)) ?_
          refine zj_imul C dX5_append_32 ?_
          refine zj_topi (nI (8 * (j - 1))) (pk_mul _ _) ?_
          refine zj_lushr C (v := (ch.toUInt64 >>> ((nI (8 * (j - 1))).toInt64.toUInt64 &&& Int64.toUInt64 63)).toInt64) dX5_append_33 rfl ?_
          refine zj_ldc2 C dX5_append_34 tg_580 ?_
          refine zj_land C dX5_append_37 ?_
          refine zj_l2i C dX5_append_38 ?_
          refine zj_i2c C dX5_append_39 ?_
          refine zj_topig (fun V_40 hV_40 => ?_)
          refine zj_cast C 1 (f := (gPd_sg X)) (ws' := (WP cy p0 p1 (sPd_sg X (upd (gPd_sg X) (gPd_n X) V_40)))) (gPd_n X) (nI_clamp (by omega)) (vp_in_nI (by omega) (by omega)) rfl (by rw [hV_40]; exact zch_c _) dX5_append_40 rfl ?_
          refine zj_aload_n C dX5_append_41 0 rfl ?_
          refine zj_dup C dX5_append_42 rfl ?_
          refine zj_get C 0 5 0 (v := .int (nI (gPd_n X))) inZ5 rfl rfl (by decide) tg_229 rfl dX5_append_43 ?_
          refine zj_iconst C (v := (nI 1)) dX5_append_46 (by decide) ?_
          refine zj_iadd C dX5_append_47 ?_
          refine zj_topi (nI ((gPd_n X) + 1)) (nI_add _ _) ?_
          obtain ⟨V_48, hV_48⟩ : ∃ g : Nat, g = (gPd_n X) + 1 := ⟨_, rfl⟩
          refine zj_topi (nI V_48) (congrArg nI hV_48.symm) ?_
          refine zj_put C 0 5 0 (v := .int (nI V_48)) (ws' := (WP cy p0 p1 (sPd_sg (sPd_n X V_48) (upd (gPd_sg X) (gPd_n X) V_40)))) tyX5 tyX5_ok nmX5 inZ5 rfl rfl (by decide) tg_229 rfl rfl rfl (Nat.le_of_ble_eq_true rfl) dX5_append_48 rfl ?_
          refine zj_iinc C (j := 2) (v := ((nI (j - 1)) - (nI 1))) (L' := [(4, .int ((nI (j - 1)) - (nI 1))), (0, .ref p0), (1, .long ch)]) dX5_append_51 rfl (zI_m2 c_7) (by decide) rfl ?_
          refine zj_goto C 5 dX5_append_54 (by decide) ?_
          refine zj_sub (L' := [(0, .ref p0), (1, .long ch), (4, .int ((nI (j - 1)) - (nI 1)))]) [1, 2, 0] rfl ?_
          have hn_hj : (j - 1) ≤ 8 := (by omega)
          have hn_hX : gPd_n (sPd_sg (sPd_n X V_48) (upd (gPd_sg X) (gPd_n X) V_40)) ≤ 80 := (by show V_48 ≤ 80; omega)
          have hn_mu : (j - 1) < fuel := (by omega)
          subst hV_48
          subst hV_40
          have e_5 : (L_X5_app ch (fuel + 1) X j) = (L_X5_app ch fuel (sPd_sg (sPd_n X ((gPd_n X) + 1)) (upd (gPd_sg X) (gPd_n X) (((((((ch.toUInt64 >>> ((nI (8 * (j - 1))).toInt64.toUInt64 &&& Int64.toUInt64 63)).toInt64 &&& 255)).toInt32)).toUInt32 % 65536).toInt32))) (j - 1)) := by refine (L_X5_app_s ch fuel X j).trans ?_; refine (if_neg c_7).trans ?_; refine (if_neg c_16).trans ?_; rfl
          rw [e_5] at K_5
          exact ih_5 (sPd_sg (sPd_n X ((gPd_n X) + 1)) (upd (gPd_sg X) (gPd_n X) (((((((ch.toUInt64 >>> ((nI (8 * (j - 1))).toInt64.toUInt64 &&& Int64.toUInt64 63)).toInt64 &&& 255)).toInt32)).toUInt32 % 65536).toInt32))) (j - 1) hn_hj hn_hX hn_mu K_5
  have K_5 : ∀ (X1 : zPd) (j1 : Nat), X1 = ((L_X5_app ch (cnt + 1) x cnt).1) → j1 = ((L_X5_app ch (cnt + 1) x cnt).2) → zJ E 5 0 0 (WP cy p0 p1 X1) 57 [(0, .ref p0)] [] := by
    intro X1 j1 hX1 hj1 
    subst hj1
    subst hX1
    have e : f_X5_append x ch cnt = ((L_X5_app ch (cnt + 1) x cnt).1) := by rfl
    rw [e] at hret
    exact hret _ _ dX5_append_57
  refine zj_sub (L' := [(0, .ref p0), (1, .long ch), (4, .int ((nI cnt) - (nI 1)))]) [1, 2, 0] rfl ?_
  exact loop_5 (cnt + 1) x cnt (by omega) hn (Nat.lt_succ_self _) (K_5 _ _ rfl rfl)

noncomputable def L_X5_cnt  : Nat → (Int64) → (Nat) → (Bool) × (Nat) × (Int64) × (Nat)
  | 0, rest, k => (false, 0, rest, k)
  | fuel + 1, rest, k =>
    if 8 ≤ k then
      (false, 0, rest, k)
    else
      if rest = 0 then
        (false, 0, rest, k)
      else
        if (rest &&& 255) < 33 then
          (true, 0, rest, k)
        else
          if (rest &&& 255) ≤ 126 then
            L_X5_cnt  fuel ((rest.toUInt64 >>> 8).toInt64) (k + 1)
          else
            (true, 0, rest, k)
theorem L_X5_cnt_s  (fuel : Nat) (rest : Int64) (k : Nat) : L_X5_cnt  (fuel + 1) rest k = (
    if 8 ≤ k then
      (false, 0, rest, k)
    else
      if rest = 0 then
        (false, 0, rest, k)
      else
        if (rest &&& 255) < 33 then
          (true, 0, rest, k)
        else
          if (rest &&& 255) ≤ 126 then
            L_X5_cnt  fuel ((rest.toUInt64 >>> 8).toInt64) (k + 1)
          else
            (true, 0, rest, k)
  ) := rfl
noncomputable def f_X5_countCharacters (ch : Int64) : Nat :=
  let fl_5 : Bool := ((L_X5_cnt  (8 - 0 + 1) ch 0).1)
  let rv_5 : Nat := ((L_X5_cnt  (8 - 0 + 1) ch 0).2.1)
  let rest1 : Int64 := ((L_X5_cnt  (8 - 0 + 1) ch 0).2.2.1)
  let k1 : Nat := ((L_X5_cnt  (8 - 0 + 1) ch 0).2.2.2)
  if fl_5 = true then
    rv_5
  else
    k1
set_option maxHeartbeats 4000000 in
set_option maxRecDepth 100000 in
theorem c_X5_countCharacters (l : Launch) (D : va_G) (cy : Nat → ClassId)  (ch : Int64)   : zC l yX5_countCharacters (zW yX5_countCharacters cX5_countCharacters 7 (Option.some Jvm.ClassFile.FieldType.int)) { frames := 0, cells := 0, slots := 0, locals := 0 } D cy [.long ch] ([] : va_W) (some (.int (nI (f_X5_countCharacters ch)))) ([] : va_W) := by
  refine zC_of rfl (Nat.le_of_ble_eq_true rfl) (zOk_i _) (fun E C hret => ?_)
  show zJ E 7 0 0 ([] : va_W) 0 [(0, .long ch)] []
  refine zj_lload_n C dX5_countCharacters_0 0 rfl ?_
  refine zj_lstore_n C (L' := [(2, .long ch), (0, .long ch)]) dX5_countCharacters_1 rfl (by decide) rfl ?_
  refine zj_iconst C (v := (nI 0)) dX5_countCharacters_2 (by decide) ?_
  refine zj_istore C (L' := [(4, .int (nI 0)), (2, .long ch), (0, .long ch)]) dX5_countCharacters_3 (by decide) rfl ?_
  have loop_5 : ∀ (fuel : Nat) (rest : Int64) (k : Nat), (hk : k ≤ 8) → 8 - k < fuel → (((L_X5_cnt  fuel rest k).1) = false → zJ E 7 0 0 ([] : va_W) 56 [(4, .int (nI ((L_X5_cnt  fuel rest k).2.2.2)))] []) → (((L_X5_cnt  fuel rest k).1) = true → zR E cX5_countCharacters 7 (some (.int (nI ((L_X5_cnt  fuel rest k).2.1)))) ([] : va_W)) → zJ E 7 0 0 ([] : va_W) 5 [(2, .long rest), (4, .int (nI k))] [] := by
    intro fuel
    induction fuel with
    | zero => intro rest k hk hmu; exact absurd hmu (Nat.not_lt_zero _)
    | succ fuel ih_5 =>
      intro rest k hk hmu_5 K_5 R_5
      refine zj_iload C dX5_countCharacters_5 1 rfl ?_
      refine zj_bipush C (v := (nI 8)) dX5_countCharacters_7 (by decide) ?_
      refine zj_icmp_ge C 56 dX5_countCharacters_9 (by decide) (fun c => ?_) (fun c => ?_)
      · have c_9 : 8 ≤ k := ((nI_leI (by omega) (by omega)).mp c)
        refine zj_sub (L' := [(4, .int (nI k))]) [1] rfl ?_
        have e_5 : (L_X5_cnt  (fuel + 1) rest k) = (false, 0, rest, k) := by refine (L_X5_cnt_s  fuel rest k).trans ?_; refine (if_pos c_9).trans ?_; rfl
        rw [e_5] at K_5 R_5
        exact K_5 rfl 
      · have c_9 : ¬ (8 ≤ k) := (fun q => c ((nI_leI (by omega) (by omega)).mpr q))
        refine zj_lload_n C dX5_countCharacters_12 0 rfl ?_
        refine zj_lconst C (v := 0) dX5_countCharacters_13 (by decide) ?_
        refine zj_lcmp_eq C 56 dX5_countCharacters_14 dX5_countCharacters_15 (by decide) (fun c => ?_) (fun c => ?_)
        · have c_14 : rest = 0 := c
          refine zj_sub (L' := [(4, .int (nI k))]) [1] rfl ?_
          have e_5 : (L_X5_cnt  (fuel + 1) rest k) = (false, 0, rest, k) := by refine (L_X5_cnt_s  fuel rest k).trans ?_; refine (if_neg c_9).trans ?_; refine (if_pos c_14).trans ?_; rfl
          rw [e_5] at K_5 R_5
          exact K_5 rfl 
        · have c_14 : ¬ (rest = 0) := c
          refine zj_lload_n C dX5_countCharacters_18 0 rfl ?_
          refine zj_ldc2 C dX5_countCharacters_19 tg_580 ?_
          refine zj_land C dX5_countCharacters_22 ?_
          refine zj_lstore C (L' := [(5, .long (rest &&& 255)), (2, .long rest), (4, .int (nI k))]) dX5_countCharacters_23 (by decide) rfl ?_
          refine zj_lload C dX5_countCharacters_25 0 rfl ?_
          refine zj_ldc2 C dX5_countCharacters_27 tg_581 ?_
          refine zj_lcmp_lt C 43 dX5_countCharacters_30 dX5_countCharacters_31 (by decide) (fun c => ?_) (fun c => ?_)
          · have c_30 : (rest &&& 255) < 33 := c
            refine zj_iconst C (v := (nI 0)) dX5_countCharacters_43 (by decide) ?_
            have e_5 : (L_X5_cnt  (fuel + 1) rest k) = (true, 0, rest, k) := by refine (L_X5_cnt_s  fuel rest k).trans ?_; refine (if_neg c_9).trans ?_; refine (if_neg c_14).trans ?_; refine (if_pos c_30).trans ?_; rfl
            rw [e_5] at K_5 R_5
            exact R_5 rfl _ _ dX5_countCharacters_44
          · have c_30 : ¬ ((rest &&& 255) < 33) := c
            refine zj_lload C dX5_countCharacters_34 0 rfl ?_
            refine zj_ldc2 C dX5_countCharacters_36 tg_582 ?_
            refine zj_lcmp_le C 45 dX5_countCharacters_39 dX5_countCharacters_40 (by decide) (fun c => ?_) (fun c => ?_)
            · have c_39 : (rest &&& 255) ≤ 126 := c
              refine zj_lload_n C dX5_countCharacters_45 1 rfl ?_
              refine zj_bipush C (v := (nI 8)) dX5_countCharacters_46 (by decide) ?_
              refine zj_lushr C (v := (rest.toUInt64 >>> 8).toInt64) dX5_countCharacters_48 (zsh_r _) ?_
              refine zj_lstore_n C (L' := [(2, .long (rest.toUInt64 >>> 8).toInt64), (5, .long (rest &&& 255)), (4, .int (nI k))]) dX5_countCharacters_49 rfl (by decide) rfl ?_
              refine zj_iinc C (j := 2) (v := (nI (k + 1))) (L' := [(4, .int (nI (k + 1))), (2, .long (rest.toUInt64 >>> 8).toInt64), (5, .long (rest &&& 255))]) dX5_countCharacters_50 rfl (nI_1 _) (by decide) rfl ?_
              refine zj_goto C 5 dX5_countCharacters_53 (by decide) ?_
              refine zj_sub (L' := [(2, .long (rest.toUInt64 >>> 8).toInt64), (4, .int (nI (k + 1)))]) [1, 0] rfl ?_
              have hn_hk : (k + 1) ≤ 8 := (by omega)
              have hn_mu : 8 - (k + 1) < fuel := (by omega)
              have e_5 : (L_X5_cnt  (fuel + 1) rest k) = (L_X5_cnt  fuel ((rest.toUInt64 >>> 8).toInt64) (k + 1)) := by refine (L_X5_cnt_s  fuel rest k).trans ?_; refine (if_neg c_9).trans ?_; refine (if_neg c_14).trans ?_; refine (if_neg c_30).trans ?_; refine (if_pos c_39).trans ?_; rfl
              rw [e_5] at K_5 R_5
              exact ih_5 ((rest.toUInt64 >>> 8).toInt64) (k + 1) hn_hk hn_mu K_5 R_5
            · have c_39 : ¬ ((rest &&& 255) ≤ 126) := c
              refine zj_iconst C (v := (nI 0)) dX5_countCharacters_43 (by decide) ?_
              have e_5 : (L_X5_cnt  (fuel + 1) rest k) = (true, 0, rest, k) := by refine (L_X5_cnt_s  fuel rest k).trans ?_; refine (if_neg c_9).trans ?_; refine (if_neg c_14).trans ?_; refine (if_neg c_30).trans ?_; refine (if_neg c_39).trans ?_; rfl
              rw [e_5] at K_5 R_5
              exact R_5 rfl _ _ dX5_countCharacters_44
  have K_5 : ∀ (fl_5 : Bool) (rv_5 : Nat) (rest1 : Int64) (k1 : Nat), fl_5 = ((L_X5_cnt  (8 - 0 + 1) ch 0).1) → rv_5 = ((L_X5_cnt  (8 - 0 + 1) ch 0).2.1) → rest1 = ((L_X5_cnt  (8 - 0 + 1) ch 0).2.2.1) → k1 = ((L_X5_cnt  (8 - 0 + 1) ch 0).2.2.2) → fl_5 = false → zJ E 7 0 0 ([] : va_W) 56 [(4, .int (nI k1))] [] := by
    intro fl_5 rv_5 rest1 k1 hfl_5 hrv_5 hrest1 hk1 hfl_5_0 
    have c_fl5 : ¬ fl_5 = true := by rw [hfl_5_0]; decide
    refine zj_iload C dX5_countCharacters_56 0 rfl ?_
    subst hk1
    subst hrest1
    subst hrv_5
    subst hfl_5
    have e : f_X5_countCharacters ch = ((L_X5_cnt  (8 - 0 + 1) ch 0).2.2.2) := by refine (if_neg c_fl5).trans ?_; rfl
    rw [e] at hret
    exact hret _ _ dX5_countCharacters_58
  have R_5 : (((L_X5_cnt  (8 - 0 + 1) ch 0).1) = true → zR E cX5_countCharacters 7 (some (.int (nI ((L_X5_cnt  (8 - 0 + 1) ch 0).2.1)))) ([] : va_W)) := by
    intro hfl
    have e : f_X5_countCharacters ch = ((L_X5_cnt  (8 - 0 + 1) ch 0).2.1) := by refine (if_pos hfl).trans ?_; rfl
    rw [e] at hret
    exact hret
  refine zj_sub (L' := [(2, .long ch), (4, .int (nI 0))]) [1, 0] rfl ?_
  exact loop_5 (8 - 0 + 1) ch 0 (by omega) (Nat.lt_succ_self _) (K_5 _ _ _ _ rfl rfl rfl rfl) R_5
