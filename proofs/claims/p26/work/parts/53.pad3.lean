theorem L_num_at (x : zPd) (gr R1 : Int32) (V : Nat) (R2 : Int32) : ∀ (n q : Nat) (v d : Int32), q ≤ gPd_n x → q ≤ (L_X5_num x gr R1 V R2 n q v d).2.2.1 ∧ (L_X5_num x gr R1 V R2 n q v d).2.2.1 ≤ gPd_n x
  | 0, q, v, d, h => ⟨Nat.le_refl _, h⟩
  | n + 1, q, v, d, h => by
    rw [L_X5_num_s]
    by_cases c1 : d < 0
    · rw [if_pos c1]; exact ⟨Nat.le_refl _, h⟩
    rw [if_neg c1]
    by_cases c2 : gPd_n x ≤ q
    · rw [if_pos c2]; exact ⟨Nat.le_refl _, h⟩
    rw [if_neg c2]
    by_cases c3 : v = 0
    · rw [if_pos c3]; exact ⟨Nat.le_refl _, h⟩
    rw [if_neg c3]
    by_cases c4 : nI 10 * v + d ≤ gr
    · rw [if_pos c4]
      have := L_num_at x gr R1 V R2 n (q + 1) (nI 10 * v + d) (f_X5_digitAt (sPd_at x (q + 1))) (by omega)
      exact ⟨Nat.le_trans (Nat.le_succ q) this.1, this.2⟩
    · rw [if_neg c4]; exact ⟨Nat.le_refl _, h⟩
theorem zk_num {x : zPd} (gr : Int32) (hz : zpd x) : zpk x (f_X5_readNumber x gr).2 := by
  unfold f_X5_readNumber
  rw [zsl_e]
  dsimp only
  by_cases c : 0 ≤ f_X5_digitAt x
  · rw [if_pos c]
    have h := L_num_at x gr (f_X5_digitAt x) (gPd_at x + 1) (f_X5_digitAt (sPd_at x (gPd_at x + 1))) (gPd_n x - (gPd_at x + 1) + 1) (gPd_at x + 1) (f_X5_digitAt x) (f_X5_digitAt (sPd_at x (gPd_at x + 1))) (xdig_lt c)
    split
    · exact ⟨rfl, rfl, Nat.le_of_succ_le h.1, h.2⟩
    · exact ⟨rfl, rfl, Nat.le_of_succ_le h.1, h.2⟩
  · rw [if_neg c]; exact zpk_r hz

noncomputable def f_X5_readDeal (x : zPd) : Bool × zPd := zsl (
  let R_2 : Int32 := (f_X5_digitAt x)
  let R_12 : Bool := (f_X7_isHolder R_2)
  if R_12 = false then
    (false, (sPd_ho x R_2))
  else
    let V_27 : Nat := (gPd_at x) + 1
    let T_33 : zPd := ((f_X5_skip (sPd_ho (sPd_at x V_27) R_2) (nI 58)).2)
    let R_33_1 : Bool := ((f_X5_skip (sPd_ho (sPd_at x V_27) R_2) (nI 58)).1)
    if R_33_1 = false then
      (false, T_33)
    else
      let T_45 : zPd := ((f_X5_readNumber T_33 (nI 1000000)).2)
      let R_45_1 : Int32 := ((f_X5_readNumber T_33 (nI 1000000)).1)
      if 0 ≤ R_45_1 then
        let T_64 : zPd := ((f_X5_skip (sPd_nu T_45 R_45_1) (nI 64)).2)
        let R_64_1 : Bool := ((f_X5_skip (sPd_nu T_45 R_45_1) (nI 64)).1)
        let x67_0 : Int32 := (if R_64_1 = false then (nI 0) else ((f_X5_readNumber T_64 (nI 23)).1))
        let x67_1 : zPd := (if R_64_1 = false then T_64 else ((f_X5_readNumber T_64 (nI 23)).2))
        let x87_0 : Bool := (if x67_0 < 0 then false else true)
        (x87_0, (sPd_hr x67_1 x67_0))
      else
        (false, (sPd_nu T_45 R_45_1))
  )
set_option maxHeartbeats 4000000 in
set_option maxRecDepth 100000 in
theorem c_X5_readDeal (l : Launch) (D : va_G) (cy : Nat → ClassId) (p0 p1 : Nat)  (x : zPd) (hz : zpd x) : zC l yX5_readDeal (zW yX5_readDeal cX5_readDeal 1 (Option.some Jvm.ClassFile.FieldType.boolean)) { frames := 3, cells := 0, slots := 0, locals := 65 } D cy [.ref p0] (WP cy p0 p1 x) (some (.int (zB ((f_X5_readDeal x).1)))) (WP cy p0 p1 ((f_X5_readDeal x).2)) := by
  refine zC_of rfl (Nat.le_of_ble_eq_true rfl) (zOk_z (zB_01 _)) (fun E C hret => ?_)
  have hn := hz.1
  show zJ E 1 0 0 (WP cy p0 p1 x) 0 [(0, .ref p0)] []
  refine zj_aload_n C dX5_readDeal_0 0 rfl ?_
  refine zj_aload_n C dX5_readDeal_1 0 rfl ?_
  have M_2 := c_X5_digitAt l D cy p0 p1  x hz
  obtain ⟨R_2, hR_2⟩ : ∃ g : Int32, g = (f_X5_digitAt x) := ⟨_, rfl⟩
  rw [← hR_2] at M_2
  refine zj_callV C (nn := 2) (ws' := (WP cy p0 p1 x)) (st := [.ref p0]) (st1 := [.int R_2, .ref p0]) 0 5 [0, 1] (M_2) (zg_V tg_622 tg_619 tg_621 tgp_10 tg_7) ⟨rfl, hdZ_X5_digitAt⟩ ⟨rfl, rfl⟩ ⟨by decide, by decide⟩ rfl rfl rfl (by decide) ⟨rfl, rfl⟩ rfl rfl (Nat.le_of_ble_eq_true rfl) dX5_readDeal_2 rfl rfl ?_
  refine zj_put C 0 5 3 (v := .int R_2) (ws' := (WP cy p0 p1 (sPd_ho x R_2))) tyX5 tyX5_ok nmX5 inZ5 rfl rfl (by decide) tg_233 rfl rfl rfl (Nat.le_of_ble_eq_true rfl) dX5_readDeal_5 rfl ?_
  refine zj_aload_n C dX5_readDeal_8 0 rfl ?_
  refine zj_get C 0 5 3 (v := .int R_2) inZ5 rfl rfl (by decide) tg_233 rfl dX5_readDeal_9 ?_
  have M_12 := c_X7_isHolder l D cy  R_2  
  obtain ⟨R_12, hR_12⟩ : ∃ g : Bool, g = (f_X7_isHolder R_2) := ⟨_, rfl⟩
  rw [← hR_12] at M_12
  refine zj_callSN C (nn := 0) (ws' := (WP cy p0 p1 (sPd_ho x R_2))) (st := []) (st1 := [.int (zB R_12)]) [] (M_12) tg_348 (fun _ _ _ h => h.2.2.1) tg_347 tg_1 hdZ_X7_isHolder ⟨rfl, rfl⟩ ⟨by decide, by decide⟩ rfl (by decide) ⟨rfl, rfl⟩ rfl rfl (Nat.le_of_ble_eq_true rfl) dX5_readDeal_12 rfl rfl ?_
  have q12 : R_12 = true → gPd_at x < gPd_n x := fun h => xdig_lt (x := x) (by { rw [← hR_2]; exact Int32.not_lt.mp (xh_t (h := R_2) (by { rw [← hR_12, h]; decide })).1 })
  refine zj_if_ne C 20 dX5_readDeal_15 (by decide) (fun c => ?_) (fun c => ?_)
  · have c_15 : ¬ (R_12 = false) := (zB_neq c)
    refine zj_aload_n C dX5_readDeal_20 0 rfl ?_
    refine zj_dup C dX5_readDeal_21 rfl ?_
    refine zj_get C 0 5 2 (v := .int (nI (gPd_at x))) inZ5 rfl rfl (by decide) tg_232 rfl dX5_readDeal_22 ?_
    refine zj_iconst C (v := (nI 1)) dX5_readDeal_25 (by decide) ?_
    refine zj_iadd C dX5_readDeal_26 ?_
    refine zj_topi (nI ((gPd_at x) + 1)) (nI_add _ _) ?_
    obtain ⟨V_27, hV_27⟩ : ∃ g : Nat, g = (gPd_at x) + 1 := ⟨_, rfl⟩
    refine zj_topi (nI V_27) (congrArg nI hV_27.symm) ?_
    refine zj_put C 0 5 2 (v := .int (nI V_27)) (ws' := (WP cy p0 p1 (sPd_ho (sPd_at x V_27) R_2))) tyX5 tyX5_ok nmX5 inZ5 rfl rfl (by decide) tg_232 rfl rfl rfl (Nat.le_of_ble_eq_true rfl) dX5_readDeal_27 rfl ?_
    have z27 : zpd (sPd_ho (sPd_at x V_27) R_2) := ⟨hz.1, (by show V_27 ≤ gPd_n x; have r := q12 (zbt c_15); omega), hz.2.2⟩
    refine zj_aload_n C dX5_readDeal_30 0 rfl ?_
    refine zj_bipush C (v := (nI 58)) dX5_readDeal_31 (by decide) ?_
    have M_33 := c_X5_skip l D cy p0 p1 (nI 58) (sPd_ho (sPd_at x V_27) R_2) (by decide) z27
    obtain ⟨T_33, hT_33⟩ : ∃ g : zPd, g = ((f_X5_skip (sPd_ho (sPd_at x V_27) R_2) (nI 58)).2) := ⟨_, rfl⟩
    rw [← hT_33] at M_33
    obtain ⟨R_33_1, hR_33_1⟩ : ∃ g : Bool, g = ((f_X5_skip (sPd_ho (sPd_at x V_27) R_2) (nI 58)).1) := ⟨_, rfl⟩
    rw [← hR_33_1] at M_33
    refine zj_callV C (nn := 2) (ws' := (WP cy p0 p1 T_33)) (st := []) (st1 := [.int (zB R_33_1)]) 0 5 [0, 1] (M_33) (zg_V tg_627 tg_624 tg_625 tg_626 tg_7) ⟨rfl, hdZ_X5_skip⟩ ⟨rfl, rfl⟩ ⟨by decide, by decide⟩ rfl rfl rfl (by decide) ⟨rfl, rfl⟩ rfl rfl (Nat.le_of_ble_eq_true rfl) dX5_readDeal_33 rfl rfl ?_
    have z33 : zpd T_33 := by { rw [hT_33]; exact zpd_of z27 (zk_skip (by decide) z27) }
    refine zj_if_ne C 41 dX5_readDeal_36 (by decide) (fun c => ?_) (fun c => ?_)
    · have c_36 : ¬ (R_33_1 = false) := (zB_neq c)
      refine zj_aload_n C dX5_readDeal_41 0 rfl ?_
      refine zj_aload_n C dX5_readDeal_42 0 rfl ?_
      refine zj_ldc C dX5_readDeal_43 tg_628 ?_
      refine zj_topi (nI 1000000) (by decide) ?_
      have M_45 := c_X5_readNumber l D cy p0 p1 (nI 1000000) T_33 z33
      obtain ⟨T_45, hT_45⟩ : ∃ g : zPd, g = ((f_X5_readNumber T_33 (nI 1000000)).2) := ⟨_, rfl⟩
      rw [← hT_45] at M_45
      obtain ⟨R_45_1, hR_45_1⟩ : ∃ g : Int32, g = ((f_X5_readNumber T_33 (nI 1000000)).1) := ⟨_, rfl⟩
      rw [← hR_45_1] at M_45
      refine zj_callV C (nn := 2) (ws' := (WP cy p0 p1 T_45)) (st := [.ref p0]) (st1 := [.int R_45_1, .ref p0]) 0 5 [0, 1] (M_45) (zg_V tg_632 tg_629 tg_631 tgp_11 tg_7) ⟨rfl, hdZ_X5_readNumber⟩ ⟨rfl, rfl⟩ ⟨by decide, by decide⟩ rfl rfl rfl (by decide) ⟨rfl, rfl⟩ rfl rfl (Nat.le_of_ble_eq_true rfl) dX5_readDeal_45 rfl rfl ?_
      have z45 : zpd (sPd_nu T_45 R_45_1) := by { have h := zpd_of z33 (zk_num (nI 1000000) z33); rw [← hT_45] at h; exact h }
      refine zj_put C 0 5 4 (v := .int R_45_1) (ws' := (WP cy p0 p1 (sPd_nu T_45 R_45_1))) tyX5 tyX5_ok nmX5 inZ5 rfl rfl (by decide) tg_235 rfl rfl rfl (Nat.le_of_ble_eq_true rfl) dX5_readDeal_48 rfl ?_
      refine zj_aload_n C dX5_readDeal_51 0 rfl ?_
      refine zj_get C 0 5 4 (v := .int R_45_1) inZ5 rfl rfl (by decide) tg_235 rfl dX5_readDeal_52 ?_
      refine zj_if_ge C 60 dX5_readDeal_55 (by decide) (fun c => ?_) (fun c => ?_)
      · have c_55 : 0 ≤ R_45_1 := c
        refine zj_aload_n C dX5_readDeal_60 0 rfl ?_
        refine zj_aload_n C dX5_readDeal_61 0 rfl ?_
        refine zj_bipush C (v := (nI 64)) dX5_readDeal_62 (by decide) ?_
        have M_64 := c_X5_skip l D cy p0 p1 (nI 64) (sPd_nu T_45 R_45_1) (by decide) z45
        obtain ⟨T_64, hT_64⟩ : ∃ g : zPd, g = ((f_X5_skip (sPd_nu T_45 R_45_1) (nI 64)).2) := ⟨_, rfl⟩
        rw [← hT_64] at M_64
        obtain ⟨R_64_1, hR_64_1⟩ : ∃ g : Bool, g = ((f_X5_skip (sPd_nu T_45 R_45_1) (nI 64)).1) := ⟨_, rfl⟩
        rw [← hR_64_1] at M_64
        refine zj_callV C (nn := 2) (ws' := (WP cy p0 p1 T_64)) (st := [.ref p0]) (st1 := [.int (zB R_64_1), .ref p0]) 0 5 [0, 1] (M_64) (zg_V tg_627 tg_624 tg_625 tg_626 tg_7) ⟨rfl, hdZ_X5_skip⟩ ⟨rfl, rfl⟩ ⟨by decide, by decide⟩ rfl rfl rfl (by decide) ⟨rfl, rfl⟩ rfl rfl (Nat.le_of_ble_eq_true rfl) dX5_readDeal_64 rfl rfl ?_
        have z64 : zpd T_64 := by { rw [hT_64]; exact zpd_of z45 (zk_skip (by decide) z45) }
        have J_67 : ∀ (x67_0 : Int32) (x67_1 : zPd), x67_0 = (if R_64_1 = false then (nI 0) else ((f_X5_readNumber T_64 (nI 23)).1)) → x67_1 = (if R_64_1 = false then T_64 else ((f_X5_readNumber T_64 (nI 23)).2)) → zJ E 1 0 0 (WP cy p0 p1 x67_1) 80 [(0, .ref p0)] [.int x67_0, .ref p0] := by
          intro x67_0 x67_1 hx67_0 hx67_1
          refine zj_put C 0 5 5 (v := .int x67_0) (ws' := (WP cy p0 p1 (sPd_hr x67_1 x67_0))) tyX5 tyX5_ok nmX5 inZ5 rfl rfl (by decide) tg_237 rfl rfl rfl (Nat.le_of_ble_eq_true rfl) dX5_readDeal_80 rfl ?_
          refine zj_aload_n C dX5_readDeal_83 0 rfl ?_
          refine zj_get C 0 5 5 (v := .int x67_0) inZ5 rfl rfl (by decide) tg_237 rfl dX5_readDeal_84 ?_
          have J_87 : ∀ (x87_0 : Bool), x87_0 = (if x67_0 < 0 then false else true) → zJ E 1 0 0 (WP cy p0 p1 (sPd_hr x67_1 x67_0)) 95 [(0, .ref p0)] [.int (zB x87_0)] := by
            intro x87_0 hx87_0
            subst hx87_0
            subst hx67_1
            subst hx67_0
            subst hR_64_1
            subst hT_64
            subst hR_45_1
            subst hT_45
            subst hR_33_1
            subst hT_33
            subst hV_27
            subst hR_12
            subst hR_2
            have e : f_X5_readDeal x = ((if (if ((f_X5_skip (sPd_nu ((f_X5_readNumber ((f_X5_skip (sPd_ho (sPd_at x ((gPd_at x) + 1)) (f_X5_digitAt x)) (nI 58)).2) (nI 1000000)).2) ((f_X5_readNumber ((f_X5_skip (sPd_ho (sPd_at x ((gPd_at x) + 1)) (f_X5_digitAt x)) (nI 58)).2) (nI 1000000)).1)) (nI 64)).1) = false then (nI 0) else ((f_X5_readNumber ((f_X5_skip (sPd_nu ((f_X5_readNumber ((f_X5_skip (sPd_ho (sPd_at x ((gPd_at x) + 1)) (f_X5_digitAt x)) (nI 58)).2) (nI 1000000)).2) ((f_X5_readNumber ((f_X5_skip (sPd_ho (sPd_at x ((gPd_at x) + 1)) (f_X5_digitAt x)) (nI 58)).2) (nI 1000000)).1)) (nI 64)).2) (nI 23)).1)) < 0 then false else true), (sPd_hr (if ((f_X5_skip (sPd_nu ((f_X5_readNumber ((f_X5_skip (sPd_ho (sPd_at x ((gPd_at x) + 1)) (f_X5_digitAt x)) (nI 58)).2) (nI 1000000)).2) ((f_X5_readNumber ((f_X5_skip (sPd_ho (sPd_at x ((gPd_at x) + 1)) (f_X5_digitAt x)) (nI 58)).2) (nI 1000000)).1)) (nI 64)).1) = false then ((f_X5_skip (sPd_nu ((f_X5_readNumber ((f_X5_skip (sPd_ho (sPd_at x ((gPd_at x) + 1)) (f_X5_digitAt x)) (nI 58)).2) (nI 1000000)).2) ((f_X5_readNumber ((f_X5_skip (sPd_ho (sPd_at x ((gPd_at x) + 1)) (f_X5_digitAt x)) (nI 58)).2) (nI 1000000)).1)) (nI 64)).2) else ((f_X5_readNumber ((f_X5_skip (sPd_nu ((f_X5_readNumber ((f_X5_skip (sPd_ho (sPd_at x ((gPd_at x) + 1)) (f_X5_digitAt x)) (nI 58)).2) (nI 1000000)).2) ((f_X5_readNumber ((f_X5_skip (sPd_ho (sPd_at x ((gPd_at x) + 1)) (f_X5_digitAt x)) (nI 58)).2) (nI 1000000)).1)) (nI 64)).2) (nI 23)).2)) (if ((f_X5_skip (sPd_nu ((f_X5_readNumber ((f_X5_skip (sPd_ho (sPd_at x ((gPd_at x) + 1)) (f_X5_digitAt x)) (nI 58)).2) (nI 1000000)).2) ((f_X5_readNumber ((f_X5_skip (sPd_ho (sPd_at x ((gPd_at x) + 1)) (f_X5_digitAt x)) (nI 58)).2) (nI 1000000)).1)) (nI 64)).1) = false then (nI 0) else ((f_X5_readNumber ((f_X5_skip (sPd_nu ((f_X5_readNumber ((f_X5_skip (sPd_ho (sPd_at x ((gPd_at x) + 1)) (f_X5_digitAt x)) (nI 58)).2) (nI 1000000)).2) ((f_X5_readNumber ((f_X5_skip (sPd_ho (sPd_at x ((gPd_at x) + 1)) (f_X5_digitAt x)) (nI 58)).2) (nI 1000000)).1)) (nI 64)).2) (nI 23)).1)))) := by refine (zsl_e _).trans ?_; refine (if_neg c_15).trans ?_; refine (if_neg c_36).trans ?_; refine (if_pos c_55).trans ?_; rfl
            rw [e] at hret
            exact hret _ _ dX5_readDeal_95
          refine zj_if_lt C 94 dX5_readDeal_87 (by decide) (fun c => ?_) (fun c => ?_)
          · have c_87 : x67_0 < 0 := c
            refine zj_iconst C (v := (nI 0)) dX5_readDeal_94 (by decide) ?_
            exact J_87 false (by simp only [if_neg c_15, if_neg c_36, if_pos c_55, if_pos c_87]; first | done | assumption)
          · have c_87 : ¬ (x67_0 < 0) := c
            refine zj_iconst C (v := (nI 1)) dX5_readDeal_90 (by decide) ?_
            refine zj_goto C 95 dX5_readDeal_91 (by decide) ?_
            exact J_87 true (by simp only [if_neg c_15, if_neg c_36, if_pos c_55, if_neg c_87]; first | done | assumption)
        refine zj_if_eq C 79 dX5_readDeal_67 (by decide) (fun c => ?_) (fun c => ?_)
        · have c_67 : R_64_1 = false := (zB_eq c)
          refine zj_iconst C (v := (nI 0)) dX5_readDeal_79 (by decide) ?_
          exact J_67 (nI 0) T_64 (by simp only [if_neg c_15, if_neg c_36, if_pos c_55, if_pos c_67]; first | done | assumption) (by simp only [if_neg c_15, if_neg c_36, if_pos c_55, if_pos c_67]; first | done | assumption)
        · have c_67 : ¬ (R_64_1 = false) := (zB_neq c)
          refine zj_aload_n C dX5_readDeal_70 0 rfl ?_
          refine zj_bipush C (v := (nI 23)) dX5_readDeal_71 (by decide) ?_
          have M_73 := c_X5_readNumber l D cy p0 p1 (nI 23) T_64 z64
          obtain ⟨T_73, hT_73⟩ : ∃ g : zPd, g = ((f_X5_readNumber T_64 (nI 23)).2) := ⟨_, rfl⟩
          rw [← hT_73] at M_73
          obtain ⟨R_73_1, hR_73_1⟩ : ∃ g : Int32, g = ((f_X5_readNumber T_64 (nI 23)).1) := ⟨_, rfl⟩
          rw [← hR_73_1] at M_73
          refine zj_callV C (nn := 2) (ws' := (WP cy p0 p1 T_73)) (st := [.ref p0]) (st1 := [.int R_73_1, .ref p0]) 0 5 [0, 1] (M_73) (zg_V tg_632 tg_629 tg_631 tgp_11 tg_7) ⟨rfl, hdZ_X5_readNumber⟩ ⟨rfl, rfl⟩ ⟨by decide, by decide⟩ rfl rfl rfl (by decide) ⟨rfl, rfl⟩ rfl rfl (Nat.le_of_ble_eq_true rfl) dX5_readDeal_73 rfl rfl ?_
          refine zj_goto C 80 dX5_readDeal_76 (by decide) ?_
          subst hR_73_1
          subst hT_73
          exact J_67 ((f_X5_readNumber T_64 (nI 23)).1) ((f_X5_readNumber T_64 (nI 23)).2) (by simp only [if_neg c_15, if_neg c_36, if_pos c_55, if_neg c_67]; first | done | assumption) (by simp only [if_neg c_15, if_neg c_36, if_pos c_55, if_neg c_67]; first | done | assumption)
      · have c_55 : ¬ (0 ≤ R_45_1) := c
        refine zj_iconst C (v := (nI 0)) dX5_readDeal_58 (by decide) ?_
        subst hR_45_1
        subst hT_45
        subst hR_33_1
        subst hT_33
        subst hV_27
        subst hR_12
        subst hR_2
        have e : f_X5_readDeal x = (false, (sPd_nu ((f_X5_readNumber ((f_X5_skip (sPd_ho (sPd_at x ((gPd_at x) + 1)) (f_X5_digitAt x)) (nI 58)).2) (nI 1000000)).2) ((f_X5_readNumber ((f_X5_skip (sPd_ho (sPd_at x ((gPd_at x) + 1)) (f_X5_digitAt x)) (nI 58)).2) (nI 1000000)).1))) := by refine (zsl_e _).trans ?_; refine (if_neg c_15).trans ?_; refine (if_neg c_36).trans ?_; refine (if_neg c_55).trans ?_; rfl
        rw [e] at hret
        exact hret _ _ dX5_readDeal_59
    · have c_36 : R_33_1 = false := (zB_eq (Classical.not_not.mp c))
      refine zj_iconst C (v := (nI 0)) dX5_readDeal_39 (by decide) ?_
      subst hR_33_1
      subst hT_33
      subst hV_27
      subst hR_12
      subst hR_2
      have e : f_X5_readDeal x = (false, ((f_X5_skip (sPd_ho (sPd_at x ((gPd_at x) + 1)) (f_X5_digitAt x)) (nI 58)).2)) := by refine (zsl_e _).trans ?_; refine (if_neg c_15).trans ?_; refine (if_pos c_36).trans ?_; rfl
      rw [e] at hret
      exact hret _ _ dX5_readDeal_40
  · have c_15 : R_12 = false := (zB_eq (Classical.not_not.mp c))
    refine zj_iconst C (v := (nI 0)) dX5_readDeal_18 (by decide) ?_
    subst hR_12
    subst hR_2
    have e : f_X5_readDeal x = (false, (sPd_ho x (f_X5_digitAt x))) := by refine (zsl_e _).trans ?_; refine (if_pos c_15).trans ?_; rfl
    rw [e] at hret
    exact hret _ _ dX5_readDeal_19
