noncomputable def L_X5_num (x : zPd) (gr : Int32) (R_1 : Int32) (V_18 : Nat) (R_22 : Int32) : Nat → (Nat) → (Int32) → (Int32) → (Bool) × (Int32) × (Nat) × (Int32) × (Int32)
  | 0, q, val, dg => (false, 0, q, val, dg)
  | fuel + 1, q, val, dg =>
    if dg < 0 then
      (false, 0, q, val, dg)
    else
      if (gPd_n x) ≤ q then
        (false, 0, q, val, dg)
      else
        if val = 0 then
          (true, (-1), q, val, dg)
        else
          if (((nI 10) * val) + dg) ≤ gr then
            let V_71 : Nat := q + 1
            let R_75 : Int32 := (f_X5_digitAt (sPd_at x V_71))
            L_X5_num x gr R_1 V_18 R_22 fuel V_71 (((nI 10) * val) + dg) R_75
          else
            (true, (-1), q, val, dg)
theorem L_X5_num_s (x : zPd) (gr : Int32) (R_1 : Int32) (V_18 : Nat) (R_22 : Int32) (fuel : Nat) (q : Nat) (val : Int32) (dg : Int32) : L_X5_num x gr R_1 V_18 R_22 (fuel + 1) q val dg = (
    if dg < 0 then
      (false, 0, q, val, dg)
    else
      if (gPd_n x) ≤ q then
        (false, 0, q, val, dg)
      else
        if val = 0 then
          (true, (-1), q, val, dg)
        else
          if (((nI 10) * val) + dg) ≤ gr then
            let V_71 : Nat := q + 1
            let R_75 : Int32 := (f_X5_digitAt (sPd_at x V_71))
            L_X5_num x gr R_1 V_18 R_22 fuel V_71 (((nI 10) * val) + dg) R_75
          else
            (true, (-1), q, val, dg)
  ) := rfl
noncomputable def f_X5_readNumber (x : zPd) (gr : Int32) : Int32 × zPd := zsl (
  let R_1 : Int32 := (f_X5_digitAt x)
  if 0 ≤ R_1 then
    let V_18 : Nat := (gPd_at x) + 1
    let R_22 : Int32 := (f_X5_digitAt (sPd_at x V_18))
    let fl_26 : Bool := ((L_X5_num x gr R_1 V_18 R_22 (gPd_n x - V_18 + 1) V_18 R_1 R_22).1)
    let rv_26 : Int32 := ((L_X5_num x gr R_1 V_18 R_22 (gPd_n x - V_18 + 1) V_18 R_1 R_22).2.1)
    let q1 : Nat := ((L_X5_num x gr R_1 V_18 R_22 (gPd_n x - V_18 + 1) V_18 R_1 R_22).2.2.1)
    let val1 : Int32 := ((L_X5_num x gr R_1 V_18 R_22 (gPd_n x - V_18 + 1) V_18 R_1 R_22).2.2.2.1)
    let dg1 : Int32 := ((L_X5_num x gr R_1 V_18 R_22 (gPd_n x - V_18 + 1) V_18 R_1 R_22).2.2.2.2)
    if fl_26 = true then
      (rv_26, (sPd_at x q1))
    else
      (val1, (sPd_at x q1))
  else
    ((-1), x)
  )
set_option maxHeartbeats 4000000 in
set_option maxRecDepth 100000 in
theorem c_X5_readNumber (l : Launch) (D : va_G) (cy : Nat → ClassId) (p0 p1 : Nat) (gr : Int32) (x : zPd) (hz : zpd x) : zC l yX5_readNumber (zW yX5_readNumber cX5_readNumber 4 (Option.some Jvm.ClassFile.FieldType.int)) { frames := 2, cells := 0, slots := 0, locals := 42 } D cy [.ref p0, .int gr] (WP cy p0 p1 x) (some (.int ((f_X5_readNumber x gr).1))) (WP cy p0 p1 ((f_X5_readNumber x gr).2)) := by
  refine zC_of rfl (Nat.le_of_ble_eq_true rfl) (zOk_i _) (fun E C hret => ?_)
  have hn := hz.1
  show zJ E 4 0 0 (WP cy p0 p1 x) 0 [(0, .ref p0), (1, .int gr)] []
  refine zj_aload_n C dX5_readNumber_0 0 rfl ?_
  have M_1 := c_X5_digitAt l D cy p0 p1  x hz
  obtain ⟨R_1, hR_1⟩ : ∃ g : Int32, g = (f_X5_digitAt x) := ⟨_, rfl⟩
  rw [← hR_1] at M_1
  refine zj_callV C (nn := 2) (ws' := (WP cy p0 p1 x)) (st := []) (st1 := [.int R_1]) 0 5 [0, 1] (M_1) (zg_V tg_622 tg_619 tg_621 tgp_10 tg_7) ⟨rfl, hdZ_X5_digitAt⟩ ⟨rfl, rfl⟩ ⟨by decide, by decide⟩ rfl rfl rfl (by decide) ⟨rfl, rfl⟩ rfl rfl (Nat.le_of_ble_eq_true rfl) dX5_readNumber_1 rfl rfl ?_
  refine zj_istore_n C (L' := [(2, .int R_1), (0, .ref p0), (1, .int gr)]) dX5_readNumber_4 rfl (by decide) rfl ?_
  refine zj_iload_n C dX5_readNumber_5 0 rfl ?_
  refine zj_if_ge C 11 dX5_readNumber_6 (by decide) (fun c => ?_) (fun c => ?_)
  · have c_6 : 0 ≤ R_1 := c
    refine zj_aload_n C dX5_readNumber_11 1 rfl ?_
    refine zj_dup C dX5_readNumber_12 rfl ?_
    refine zj_get C 0 5 2 (v := .int (nI (gPd_at x))) inZ5 rfl rfl (by decide) tg_232 rfl dX5_readNumber_13 ?_
    refine zj_iconst C (v := (nI 1)) dX5_readNumber_16 (by decide) ?_
    refine zj_iadd C dX5_readNumber_17 ?_
    refine zj_topi (nI ((gPd_at x) + 1)) (nI_add _ _) ?_
    obtain ⟨V_18, hV_18⟩ : ∃ g : Nat, g = (gPd_at x) + 1 := ⟨_, rfl⟩
    refine zj_topi (nI V_18) (congrArg nI hV_18.symm) ?_
    refine zj_put C 0 5 2 (v := .int (nI V_18)) (ws' := (WP cy p0 p1 (sPd_at x V_18))) tyX5 tyX5_ok nmX5 inZ5 rfl rfl (by decide) tg_232 rfl rfl rfl (Nat.le_of_ble_eq_true rfl) dX5_readNumber_18 rfl ?_
    refine zj_aload_n C dX5_readNumber_21 1 rfl ?_
    have M_22 := c_X5_digitAt l D cy p0 p1  (sPd_at x V_18) ⟨hz.1, (by show V_18 ≤ gPd_n x; have r := xdig_lt (x := x) (by rw [← hR_1]; exact c_6); omega), hz.2.2⟩
    obtain ⟨R_22, hR_22⟩ : ∃ g : Int32, g = (f_X5_digitAt (sPd_at x V_18)) := ⟨_, rfl⟩
    rw [← hR_22] at M_22
    refine zj_callV C (nn := 2) (ws' := (WP cy p0 p1 (sPd_at x V_18))) (st := []) (st1 := [.int R_22]) 0 5 [0, 1] (M_22) (zg_V tg_622 tg_619 tg_621 tgp_10 tg_7) ⟨rfl, hdZ_X5_digitAt⟩ ⟨rfl, rfl⟩ ⟨by decide, by decide⟩ rfl rfl rfl (by decide) ⟨rfl, rfl⟩ rfl rfl (Nat.le_of_ble_eq_true rfl) dX5_readNumber_22 rfl rfl ?_
    refine zj_istore_n C (L' := [(3, .int R_22), (2, .int R_1), (0, .ref p0), (1, .int gr)]) dX5_readNumber_25 rfl (by decide) rfl ?_
    have loop_26 : ∀ (fuel : Nat) (q : Nat) (val : Int32) (dg : Int32), (hp : q ≤ gPd_n x) → gPd_n x - q < fuel → (((L_X5_num x gr R_1 V_18 R_22 fuel q val dg).1) = false → zJ E 4 0 0 (WP cy p0 p1 (sPd_at x ((L_X5_num x gr R_1 V_18 R_22 fuel q val dg).2.2.1))) 82 [(2, .int ((L_X5_num x gr R_1 V_18 R_22 fuel q val dg).2.2.2.1))] []) → (((L_X5_num x gr R_1 V_18 R_22 fuel q val dg).1) = true → zR E cX5_readNumber 4 (some (.int ((L_X5_num x gr R_1 V_18 R_22 fuel q val dg).2.1))) (WP cy p0 p1 (sPd_at x ((L_X5_num x gr R_1 V_18 R_22 fuel q val dg).2.2.1)))) → zJ E 4 0 0 (WP cy p0 p1 (sPd_at x q)) 26 [(0, .ref p0), (1, .int gr), (2, .int val), (3, .int dg)] [] := by
      intro fuel
      induction fuel with
      | zero => intro q val dg hp hmu; exact absurd hmu (Nat.not_lt_zero _)
      | succ fuel ih_26 =>
        intro q val dg hp hmu_26 K_26 R_26
        refine zj_iload_n C dX5_readNumber_26 3 rfl ?_
        refine zj_if_lt C 82 dX5_readNumber_27 (by decide) (fun c => ?_) (fun c => ?_)
        · have c_27 : dg < 0 := c
          refine zj_sub (L' := [(2, .int val)]) [2] rfl ?_
          have e_26 : (L_X5_num x gr R_1 V_18 R_22 (fuel + 1) q val dg) = (false, 0, q, val, dg) := by refine (L_X5_num_s x gr R_1 V_18 R_22 fuel q val dg).trans ?_; refine (if_pos c_27).trans ?_; rfl
          rw [e_26] at K_26 R_26
          exact K_26 rfl 
        · have c_27 : ¬ (dg < 0) := c
          refine zj_aload_n C dX5_readNumber_30 0 rfl ?_
          refine zj_get C 0 5 2 (v := .int (nI q)) inZ5 rfl rfl (by decide) tg_232 rfl dX5_readNumber_31 ?_
          refine zj_aload_n C dX5_readNumber_34 0 rfl ?_
          refine zj_get C 0 5 0 (v := .int (nI (gPd_n x))) inZ5 rfl rfl (by decide) tg_229 rfl dX5_readNumber_35 ?_
          refine zj_icmp_ge C 82 dX5_readNumber_38 (by decide) (fun c => ?_) (fun c => ?_)
          · have c_38 : (gPd_n x) ≤ q := ((nI_leI (by omega) (by omega)).mp c)
            refine zj_sub (L' := [(2, .int val)]) [2] rfl ?_
            have e_26 : (L_X5_num x gr R_1 V_18 R_22 (fuel + 1) q val dg) = (false, 0, q, val, dg) := by refine (L_X5_num_s x gr R_1 V_18 R_22 fuel q val dg).trans ?_; refine (if_neg c_27).trans ?_; refine (if_pos c_38).trans ?_; rfl
            rw [e_26] at K_26 R_26
            exact K_26 rfl 
          · have c_38 : ¬ ((gPd_n x) ≤ q) := (fun q => c ((nI_leI (by omega) (by omega)).mpr q))
            refine zj_iload_n C dX5_readNumber_41 2 rfl ?_
            refine zj_if_eq C 55 dX5_readNumber_42 (by decide) (fun c => ?_) (fun c => ?_)
            · have c_42 : val = 0 := c
              refine zj_iconst C (v := (-1)) dX5_readNumber_55 (by decide) ?_
              have e_26 : (L_X5_num x gr R_1 V_18 R_22 (fuel + 1) q val dg) = (true, (-1), q, val, dg) := by refine (L_X5_num_s x gr R_1 V_18 R_22 fuel q val dg).trans ?_; refine (if_neg c_27).trans ?_; refine (if_neg c_38).trans ?_; refine (if_pos c_42).trans ?_; rfl
              rw [e_26] at K_26 R_26
              exact R_26 rfl _ _ dX5_readNumber_56
            · have c_42 : ¬ (val = 0) := c
              refine zj_bipush C (v := (nI 10)) dX5_readNumber_45 (by decide) ?_
              refine zj_iload_n C dX5_readNumber_47 2 rfl ?_
              refine zj_imul C dX5_readNumber_48 ?_
              refine zj_iload_n C dX5_readNumber_49 3 rfl ?_
              refine zj_iadd C dX5_readNumber_50 ?_
              refine zj_iload_n C dX5_readNumber_51 1 rfl ?_
              refine zj_icmp_le C 57 dX5_readNumber_52 (by decide) (fun c => ?_) (fun c => ?_)
              · have c_52 : (((nI 10) * val) + dg) ≤ gr := c
                refine zj_bipush C (v := (nI 10)) dX5_readNumber_57 (by decide) ?_
                refine zj_iload_n C dX5_readNumber_59 2 rfl ?_
                refine zj_imul C dX5_readNumber_60 ?_
                refine zj_iload_n C dX5_readNumber_61 3 rfl ?_
                refine zj_iadd C dX5_readNumber_62 ?_
                refine zj_istore_n C (L' := [(2, .int (((nI 10) * val) + dg)), (0, .ref p0), (1, .int gr), (3, .int dg)]) dX5_readNumber_63 rfl (by decide) rfl ?_
                refine zj_aload_n C dX5_readNumber_64 1 rfl ?_
                refine zj_dup C dX5_readNumber_65 rfl ?_
                refine zj_get C 0 5 2 (v := .int (nI q)) inZ5 rfl rfl (by decide) tg_232 rfl dX5_readNumber_66 ?_
                refine zj_iconst C (v := (nI 1)) dX5_readNumber_69 (by decide) ?_
                refine zj_iadd C dX5_readNumber_70 ?_
                refine zj_topi (nI (q + 1)) (nI_add _ _) ?_
                obtain ⟨V_71, hV_71⟩ : ∃ g : Nat, g = q + 1 := ⟨_, rfl⟩
                refine zj_topi (nI V_71) (congrArg nI hV_71.symm) ?_
                refine zj_put C 0 5 2 (v := .int (nI V_71)) (ws' := (WP cy p0 p1 (sPd_at x V_71))) tyX5 tyX5_ok nmX5 inZ5 rfl rfl (by decide) tg_232 rfl rfl rfl (Nat.le_of_ble_eq_true rfl) dX5_readNumber_71 rfl ?_
                refine zj_aload_n C dX5_readNumber_74 1 rfl ?_
                have M_75 := c_X5_digitAt l D cy p0 p1  (sPd_at x V_71) ⟨hz.1, (by show V_71 ≤ gPd_n x; omega), hz.2.2⟩
                obtain ⟨R_75, hR_75⟩ : ∃ g : Int32, g = (f_X5_digitAt (sPd_at x V_71)) := ⟨_, rfl⟩
                rw [← hR_75] at M_75
                refine zj_callV C (nn := 2) (ws' := (WP cy p0 p1 (sPd_at x V_71))) (st := []) (st1 := [.int R_75]) 0 5 [0, 1] (M_75) (zg_V tg_622 tg_619 tg_621 tgp_10 tg_7) ⟨rfl, hdZ_X5_digitAt⟩ ⟨rfl, rfl⟩ ⟨by decide, by decide⟩ rfl rfl rfl (by decide) ⟨rfl, rfl⟩ rfl rfl (Nat.le_of_ble_eq_true rfl) dX5_readNumber_75 rfl rfl ?_
                refine zj_istore_n C (L' := [(3, .int R_75), (2, .int (((nI 10) * val) + dg)), (0, .ref p0), (1, .int gr)]) dX5_readNumber_78 rfl (by decide) rfl ?_
                refine zj_goto C 26 dX5_readNumber_79 (by decide) ?_
                refine zj_sub (L' := [(0, .ref p0), (1, .int gr), (2, .int (((nI 10) * val) + dg)), (3, .int R_75)]) [2, 3, 1, 0] rfl ?_
                have hn_hp : V_71 ≤ gPd_n x := (by omega)
                have hn_mu : gPd_n x - V_71 < fuel := (by omega)
                subst hR_75
                subst hV_71
                have e_26 : (L_X5_num x gr R_1 V_18 R_22 (fuel + 1) q val dg) = (L_X5_num x gr R_1 V_18 R_22 fuel (q + 1) (((nI 10) * val) + dg) (f_X5_digitAt (sPd_at x (q + 1)))) := by refine (L_X5_num_s x gr R_1 V_18 R_22 fuel q val dg).trans ?_; refine (if_neg c_27).trans ?_; refine (if_neg c_38).trans ?_; refine (if_neg c_42).trans ?_; refine (if_pos c_52).trans ?_; rfl
                rw [e_26] at K_26 R_26
                exact ih_26 (q + 1) (((nI 10) * val) + dg) (f_X5_digitAt (sPd_at x (q + 1))) hn_hp hn_mu K_26 R_26
              · have c_52 : ¬ ((((nI 10) * val) + dg) ≤ gr) := c
                refine zj_iconst C (v := (-1)) dX5_readNumber_55 (by decide) ?_
                have e_26 : (L_X5_num x gr R_1 V_18 R_22 (fuel + 1) q val dg) = (true, (-1), q, val, dg) := by refine (L_X5_num_s x gr R_1 V_18 R_22 fuel q val dg).trans ?_; refine (if_neg c_27).trans ?_; refine (if_neg c_38).trans ?_; refine (if_neg c_42).trans ?_; refine (if_neg c_52).trans ?_; rfl
                rw [e_26] at K_26 R_26
                exact R_26 rfl _ _ dX5_readNumber_56
    have K_26 : ∀ (fl_26 : Bool) (rv_26 : Int32) (q1 : Nat) (val1 : Int32) (dg1 : Int32), fl_26 = ((L_X5_num x gr R_1 V_18 R_22 (gPd_n x - V_18 + 1) V_18 R_1 R_22).1) → rv_26 = ((L_X5_num x gr R_1 V_18 R_22 (gPd_n x - V_18 + 1) V_18 R_1 R_22).2.1) → q1 = ((L_X5_num x gr R_1 V_18 R_22 (gPd_n x - V_18 + 1) V_18 R_1 R_22).2.2.1) → val1 = ((L_X5_num x gr R_1 V_18 R_22 (gPd_n x - V_18 + 1) V_18 R_1 R_22).2.2.2.1) → dg1 = ((L_X5_num x gr R_1 V_18 R_22 (gPd_n x - V_18 + 1) V_18 R_1 R_22).2.2.2.2) → fl_26 = false → zJ E 4 0 0 (WP cy p0 p1 (sPd_at x q1)) 82 [(2, .int val1)] [] := by
      intro fl_26 rv_26 q1 val1 dg1 hfl_26 hrv_26 hq1 hval1 hdg1 hfl_26_0 
      have c_fl26 : ¬ fl_26 = true := by rw [hfl_26_0]; decide
      refine zj_iload_n C dX5_readNumber_82 0 rfl ?_
      subst hdg1
      subst hval1
      subst hq1
      subst hrv_26
      subst hfl_26
      subst hR_22
      subst hV_18
      subst hR_1
      have e : f_X5_readNumber x gr = (((L_X5_num x gr (f_X5_digitAt x) ((gPd_at x) + 1) (f_X5_digitAt (sPd_at x ((gPd_at x) + 1))) (gPd_n x - ((gPd_at x) + 1) + 1) ((gPd_at x) + 1) (f_X5_digitAt x) (f_X5_digitAt (sPd_at x ((gPd_at x) + 1)))).2.2.2.1), (sPd_at x ((L_X5_num x gr (f_X5_digitAt x) ((gPd_at x) + 1) (f_X5_digitAt (sPd_at x ((gPd_at x) + 1))) (gPd_n x - ((gPd_at x) + 1) + 1) ((gPd_at x) + 1) (f_X5_digitAt x) (f_X5_digitAt (sPd_at x ((gPd_at x) + 1)))).2.2.1))) := by refine (zsl_e _).trans ?_; refine (if_pos c_6).trans ?_; refine (if_neg c_fl26).trans ?_; rfl
      rw [e] at hret
      exact hret _ _ dX5_readNumber_83
    have R_26 : (((L_X5_num x gr R_1 V_18 R_22 (gPd_n x - V_18 + 1) V_18 R_1 R_22).1) = true → zR E cX5_readNumber 4 (some (.int ((L_X5_num x gr R_1 V_18 R_22 (gPd_n x - V_18 + 1) V_18 R_1 R_22).2.1))) (WP cy p0 p1 (sPd_at x ((L_X5_num x gr R_1 V_18 R_22 (gPd_n x - V_18 + 1) V_18 R_1 R_22).2.2.1)))) := by
      intro hfl
      subst hR_22
      subst hV_18
      subst hR_1
      have e : f_X5_readNumber x gr = (((L_X5_num x gr (f_X5_digitAt x) ((gPd_at x) + 1) (f_X5_digitAt (sPd_at x ((gPd_at x) + 1))) (gPd_n x - ((gPd_at x) + 1) + 1) ((gPd_at x) + 1) (f_X5_digitAt x) (f_X5_digitAt (sPd_at x ((gPd_at x) + 1)))).2.1), (sPd_at x ((L_X5_num x gr (f_X5_digitAt x) ((gPd_at x) + 1) (f_X5_digitAt (sPd_at x ((gPd_at x) + 1))) (gPd_n x - ((gPd_at x) + 1) + 1) ((gPd_at x) + 1) (f_X5_digitAt x) (f_X5_digitAt (sPd_at x ((gPd_at x) + 1)))).2.2.1))) := by refine (zsl_e _).trans ?_; refine (if_pos c_6).trans ?_; refine (if_pos hfl).trans ?_; rfl
      rw [e] at hret
      exact hret
    refine zj_sub (L' := [(0, .ref p0), (1, .int gr), (2, .int R_1), (3, .int R_22)]) [2, 3, 1, 0] rfl ?_
    exact loop_26 (gPd_n x - V_18 + 1) V_18 R_1 R_22 (by have r := xdig_lt (x := x) (by rw [← hR_1]; exact c_6); omega) (Nat.lt_succ_self _) (K_26 _ _ _ _ _ rfl rfl rfl rfl rfl) R_26
  · have c_6 : ¬ (0 ≤ R_1) := c
    refine zj_iconst C (v := (-1)) dX5_readNumber_9 (by decide) ?_
    subst hR_1
    have e : f_X5_readNumber x gr = ((-1), x) := by refine (zsl_e _).trans ?_; refine (if_neg c_6).trans ?_; rfl
    rw [e] at hret
    exact hret _ _ dX5_readNumber_10
