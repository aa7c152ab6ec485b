/-- what a day's end asks of a trust -/
def okT (t : zTr) : Prop := gOd_n (gTr_bu t) ≤ 20 ∧ gOd_n (gTr_le t) ≤ 20 ∧ (∀ i, i < gOd_n (gTr_bu t) → vp_in (gOd_ho (gTr_bu t) i) 6) ∧ (∀ i, i < gOd_n (gTr_le t) → vp_in (gOd_ho (gTr_le t) i) 6)

noncomputable def L_X7_exit (h : Int32) (R_1 : Bool) (T_17 : zTr) : Nat → (zDd) → (zTr) → (Nat) → (Bool) × (Int32) × (zDd) × (zTr) × (Nat)
  | 0, Xd, U, k => (false, 0, Xd, U, k)
  | fuel + 1, Xd, U, k =>
    if 60 < k then
      (false, 0, Xd, U, k)
    else
      let R_36 : Int64 := (f_X4_sumOf (gTr_le U) h)
      if R_36 = 0 then
        (true, (nI k), Xd, U, k)
      else
        let T_54 : zDd := ((f_X0_run Xd U).2.1)
        let T_54_1 : zTr := ((f_X0_run Xd U).2.2)
        let R_54_2 : Int32 := ((f_X0_run Xd U).1)
        L_X7_exit h R_1 T_17 fuel T_54 T_54_1 (k + 1)
theorem L_X7_exit_s (h : Int32) (R_1 : Bool) (T_17 : zTr) (fuel : Nat) (Xd : zDd) (U : zTr) (k : Nat) : L_X7_exit h R_1 T_17 (fuel + 1) Xd U k = (
    if 60 < k then
      (false, 0, Xd, U, k)
    else
      let R_36 : Int64 := (f_X4_sumOf (gTr_le U) h)
      if R_36 = 0 then
        (true, (nI k), Xd, U, k)
      else
        let T_54 : zDd := ((f_X0_run Xd U).2.1)
        let T_54_1 : zTr := ((f_X0_run Xd U).2.2)
        let R_54_2 : Int32 := ((f_X0_run Xd U).1)
        L_X7_exit h R_1 T_17 fuel T_54 T_54_1 (k + 1)
  ) := rfl
noncomputable def f_X7_exitIn (t : zTr) (u : zTr) (x : zDd) (h : Int32) : Int32 × zTr × zDd := zsl (
  let R_1 : Bool := (f_X7_isHolder h)
  if R_1 = false then
    ((-1), u, x)
  else
    let T_17 : zTr := (f_X6_become u t)
    let fl_22 : Bool := ((L_X7_exit h R_1 T_17 (61 - 0 + 1) x T_17 0).1)
    let rv_22 : Int32 := ((L_X7_exit h R_1 T_17 (61 - 0 + 1) x T_17 0).2.1)
    let X1 : zDd := ((L_X7_exit h R_1 T_17 (61 - 0 + 1) x T_17 0).2.2.1)
    let U1 : zTr := ((L_X7_exit h R_1 T_17 (61 - 0 + 1) x T_17 0).2.2.2.1)
    let k1 : Nat := ((L_X7_exit h R_1 T_17 (61 - 0 + 1) x T_17 0).2.2.2.2)
    if fl_22 = true then
      (rv_22, U1, X1)
    else
      ((-6), U1, X1)
  )
set_option maxHeartbeats 4000000 in
set_option maxRecDepth 100000 in
theorem c_X7_exitIn (l : Launch) (D : va_G) (cy : Nat → ClassId) (x0 x1 x2 d0 d1 p0 p1 h0 h1 : Nat) (a b : Nat → Nat) (hs sl : Nat → Nat → Nat) (h : Int32) (t : zTr) (u : zTr) (x : zDd) (hb : gOd_n (gTr_bu t) ≤ 20) (hl : gOd_n (gTr_le t) ≤ 20) (P : zDd → zTr → Nat → Prop) (hP0 : P x (f_X6_become u t) 0) (hP : ∀ X U k, k ≤ 60 → P X U k → okT U ∧ P (f_X0_run X U).2.1 (f_X0_run X U).2.2 (k + 1)) : zC l yX7_exitIn (zW yX7_exitIn cX7_exitIn 3 (Option.some Jvm.ClassFile.FieldType.int)) { frames := 5, cells := 0, slots := 0, locals := 127 } D cy [.ref x0, .int h] ([(WX0 x0 x1 x2 a b d0 p0 h0), (WT cy a t), (WT cy b u), (WD cy d0 d1 x)] : List va_W).flatten (some (.int ((f_X7_exitIn t u x h).1))) ([(WX0 x0 x1 x2 a b d0 p0 h0), (WT cy a t), (WT cy b ((f_X7_exitIn t u x h).2.1)), (WD cy d0 d1 ((f_X7_exitIn t u x h).2.2))] : List va_W).flatten := by
  refine zC_of rfl (Nat.le_of_ble_eq_true rfl) (zOk_i _) (fun E C hret => ?_)
  show zJ E 3 0 0 ([(WX0 x0 x1 x2 a b d0 p0 h0), (WT cy a t), (WT cy b u), (WD cy d0 d1 x)] : List va_W).flatten 0 [(0, .ref x0), (1, .int h)] []
  refine zj_iload_n C dX7_exitIn_0 1 rfl ?_
  have M_1 := c_X7_isHolder l D cy  h  
  obtain ⟨R_1, hR_1⟩ : ∃ g : Bool, g = (f_X7_isHolder h) := ⟨_, rfl⟩
  rw [← hR_1] at M_1
  refine zj_callS C (nn := 0) (ws' := ([(WX0 x0 x1 x2 a b d0 p0 h0), (WT cy a t), (WT cy b u), (WD cy d0 d1 x)] : List va_W).flatten) (st := []) (st1 := [.int (zB R_1)]) [] (M_1) tg_348 tg_533 tg_347 tg_1 hdZ_X7_isHolder ⟨rfl, rfl⟩ ⟨by decide, by decide⟩ rfl (by decide) ⟨rfl, rfl⟩ rfl rfl (Nat.le_of_ble_eq_true rfl) dX7_exitIn_1 rfl rfl ?_
  refine zj_if_ne C 9 dX7_exitIn_4 (by decide) (fun c => ?_) (fun c => ?_)
  · have c_4 : ¬ (R_1 = false) := (zB_neq c)
    refine zj_aload_n C dX7_exitIn_9 0 rfl ?_
    refine zj_get C 0 7 1 (v := .ref (b 0)) inZ7 rfl rfl (by decide) tg_278 rfl dX7_exitIn_10 ?_
    refine zj_aload_n C dX7_exitIn_13 0 rfl ?_
    refine zj_get C 0 7 0 (v := .ref (a 0)) inZ7 rfl rfl (by decide) tg_277 rfl dX7_exitIn_14 ?_
    have M_17 := c_X6_become l D cy b a  u t hb hl
    obtain ⟨T_17, hT_17⟩ : ∃ g : zTr, g = (f_X6_become u t) := ⟨_, rfl⟩
    rw [← hT_17] at M_17
    refine zj_callVF C (nn := 36) (Bs' := ([(WX0 x0 x1 x2 a b d0 p0 h0), (WT cy a t), (WT cy b T_17), (WD cy d0 d1 x)] : List va_W)) (st := []) (st1 := []) [(WT cy b u), (WT cy a t)] [(WT cy b T_17), (WT cy a t)] [2, 1] 0 6 (M_17) rfl rfl (zg_V tg_311 tg_568 tg_309 tg_310 tg_2) ⟨rfl, hdZ_X6_become⟩ ⟨rfl, rfl⟩ ⟨by decide, by decide⟩ rfl rfl rfl (by decide) ⟨rfl, rfl⟩ rfl rfl rfl (Nat.le_of_ble_eq_true rfl) dX7_exitIn_17 rfl rfl ?_
    have p17 : P x T_17 0 := by { rw [hT_17]; exact hP0 }
    refine zj_iconst C (v := (nI 0)) dX7_exitIn_20 (by decide) ?_
    refine zj_istore_n C (L' := [(2, .int (nI 0)), (0, .ref x0), (1, .int h)]) dX7_exitIn_21 rfl (by decide) rfl ?_
    have loop_22 : ∀ (fuel : Nat) (Xd : zDd) (U : zTr) (k : Nat), (hk : k ≤ 61) → (hPk : P Xd U k) → 61 - k < fuel → (((L_X7_exit h R_1 T_17 fuel Xd U k).1) = false → zJ E 3 0 0 ([(WX0 x0 x1 x2 a b d0 p0 h0), (WT cy a t), (WT cy b ((L_X7_exit h R_1 T_17 fuel Xd U k).2.2.2.1)), (WD cy d0 d1 ((L_X7_exit h R_1 T_17 fuel Xd U k).2.2.1))] : List va_W).flatten 64 [] []) → (((L_X7_exit h R_1 T_17 fuel Xd U k).1) = true → zR E cX7_exitIn 3 (some (.int ((L_X7_exit h R_1 T_17 fuel Xd U k).2.1))) ([(WX0 x0 x1 x2 a b d0 p0 h0), (WT cy a t), (WT cy b ((L_X7_exit h R_1 T_17 fuel Xd U k).2.2.2.1)), (WD cy d0 d1 ((L_X7_exit h R_1 T_17 fuel Xd U k).2.2.1))] : List va_W).flatten) → zJ E 3 0 0 ([(WX0 x0 x1 x2 a b d0 p0 h0), (WT cy a t), (WT cy b U), (WD cy d0 d1 Xd)] : List va_W).flatten 22 [(0, .ref x0), (1, .int h), (2, .int (nI k))] [] := by
      intro fuel
      induction fuel with
      | zero => intro Xd U k hk hPk hmu; exact absurd hmu (Nat.not_lt_zero _)
      | succ fuel ih_22 =>
        intro Xd U k hk hPk hmu_22 K_22 R_22
        refine zj_iload_n C dX7_exitIn_22 2 rfl ?_
        refine zj_bipush C (v := (nI 60)) dX7_exitIn_23 (by decide) ?_
        refine zj_icmp_gt C 64 dX7_exitIn_25 (by decide) (fun c => ?_) (fun c => ?_)
        · have c_25 : 60 < k := ((nI_ltI (by omega) (by omega)).mp c)
          refine zj_sub (L' := []) [] rfl ?_
          have e_22 : (L_X7_exit h R_1 T_17 (fuel + 1) Xd U k) = (false, 0, Xd, U, k) := by refine (L_X7_exit_s h R_1 T_17 fuel Xd U k).trans ?_; refine (if_pos c_25).trans ?_; rfl
          rw [e_22] at K_22 R_22
          exact K_22 rfl 
        · have c_25 : ¬ (60 < k) := (fun q => c ((nI_ltI (by omega) (by omega)).mpr q))
          refine zj_aload_n C dX7_exitIn_28 0 rfl ?_
          refine zj_get C 0 7 1 (v := .ref (b 0)) inZ7 rfl rfl (by decide) tg_278 rfl dX7_exitIn_29 ?_
          refine zj_get C 19 6 9 (v := .ref (b 7)) inZ6 rfl rfl (by decide) tg_164 rfl dX7_exitIn_32 ?_
          refine zj_iload_n C dX7_exitIn_35 1 rfl ?_
          have M_36 := c_X4_sumOf l D cy (b 7) (b 8) (b 9) (b 10) h (gTr_le U) (hP Xd U k (by omega) hPk).1.2.1
          obtain ⟨R_36, hR_36⟩ : ∃ g : Int64, g = (f_X4_sumOf (gTr_le U) h) := ⟨_, rfl⟩
          rw [← hR_36] at M_36
          refine zj_callVP C (nn := 4) (w := (WT cy b U)) (w' := (WT cy b U)) (Bs' := ([(WX0 x0 x1 x2 a b d0 p0 h0), (WT cy a t), (WT cy b U), (WD cy d0 d1 Xd)] : List va_W)) (st := []) (st1 := [.long R_36]) 2 [7, 8, 9, 10] 7 4 (M_36) (zg_V tg_385 tg_535 tg_383 tg_384 tg_4) ⟨rfl, hdZ_X4_sumOf⟩ ⟨rfl, rfl⟩ ⟨by decide, by decide⟩ rfl rfl rfl rfl (by decide) ⟨rfl, rfl⟩ rfl rfl (Nat.le_of_ble_eq_true rfl) dX7_exitIn_36 rfl rfl rfl ?_
          refine zj_lconst C (v := 0) dX7_exitIn_39 (by decide) ?_
          refine zj_lcmp_ne C 46 dX7_exitIn_40 dX7_exitIn_41 (by decide) (fun c => ?_) (fun c => ?_)
          · have c_40 : ¬ (R_36 = 0) := c
            refine zj_aload_n C dX7_exitIn_46 0 rfl ?_
            refine zj_get C 0 7 2 (v := .ref d0) inZ7 rfl rfl (by decide) tg_279 rfl dX7_exitIn_47 ?_
            refine zj_aload_n C dX7_exitIn_50 0 rfl ?_
            refine zj_get C 0 7 1 (v := .ref (b 0)) inZ7 rfl rfl (by decide) tg_278 rfl dX7_exitIn_51 ?_
            have M_54 := c_X0_run l D cy d0 d1 b  Xd U (hP Xd U k (by omega) hPk).1.1 (hP Xd U k (by omega) hPk).1.2.1 (hP Xd U k (by omega) hPk).1.2.2.1 (hP Xd U k (by omega) hPk).1.2.2.2
            obtain ⟨T_54, hT_54⟩ : ∃ g : zDd, g = ((f_X0_run Xd U).2.1) := ⟨_, rfl⟩
            rw [← hT_54] at M_54
            obtain ⟨T_54_1, hT_54_1⟩ : ∃ g : zTr, g = ((f_X0_run Xd U).2.2) := ⟨_, rfl⟩
            rw [← hT_54_1] at M_54
            obtain ⟨R_54_2, hR_54_2⟩ : ∃ g : Int32, g = ((f_X0_run Xd U).1) := ⟨_, rfl⟩
            rw [← hR_54_2] at M_54
            refine zj_callVF C (nn := 20) (Bs' := ([(WX0 x0 x1 x2 a b d0 p0 h0), (WT cy a t), (WT cy b T_54_1), (WD cy d0 d1 T_54)] : List va_W)) (st := []) (st1 := [.int R_54_2]) [(WD cy d0 d1 Xd), (WT cy b U)] [(WD cy d0 d1 T_54), (WT cy b T_54_1)] [3, 2] 0 0 (M_54) rfl rfl (zg_V tg_424 tg_421 tg_422 tg_423 tg_6) ⟨rfl, hdZ_X0_run⟩ ⟨rfl, rfl⟩ ⟨by decide, by decide⟩ rfl rfl rfl (by decide) ⟨rfl, rfl⟩ rfl rfl rfl (Nat.le_of_ble_eq_true rfl) dX7_exitIn_54 rfl rfl ?_
            have p54 : P T_54 T_54_1 (k + 1) := by { have q := (hP Xd U k (by omega) hPk).2; rw [← hT_54, ← hT_54_1] at q; exact q }
            refine zj_pop C dX7_exitIn_57 rfl ?_
            refine zj_iinc C (j := 2) (v := (nI (k + 1))) (L' := [(2, .int (nI (k + 1))), (0, .ref x0), (1, .int h)]) dX7_exitIn_58 rfl (nI_1 _) (by decide) rfl ?_
            refine zj_goto C 22 dX7_exitIn_61 (by decide) ?_
            refine zj_sub (L' := [(0, .ref x0), (1, .int h), (2, .int (nI (k + 1)))]) [1, 2, 0] rfl ?_
            have hn_hk : (k + 1) ≤ 61 := (by omega)
            have hn_hPk : P T_54 T_54_1 (k + 1) := p54
            have hn_mu : 61 - (k + 1) < fuel := (by omega)
            subst hR_54_2
            subst hT_54_1
            subst hT_54
            subst hR_36
            have e_22 : (L_X7_exit h R_1 T_17 (fuel + 1) Xd U k) = (L_X7_exit h R_1 T_17 fuel ((f_X0_run Xd U).2.1) ((f_X0_run Xd U).2.2) (k + 1)) := by refine (L_X7_exit_s h R_1 T_17 fuel Xd U k).trans ?_; refine (if_neg c_25).trans ?_; refine (if_neg c_40).trans ?_; rfl
            rw [e_22] at K_22 R_22
            exact ih_22 ((f_X0_run Xd U).2.1) ((f_X0_run Xd U).2.2) (k + 1) hn_hk hn_hPk hn_mu K_22 R_22
          · have c_40 : R_36 = 0 := (Classical.not_not.mp c)
            refine zj_iload_n C dX7_exitIn_44 2 rfl ?_
            subst hR_36
            have e_22 : (L_X7_exit h R_1 T_17 (fuel + 1) Xd U k) = (true, (nI k), Xd, U, k) := by refine (L_X7_exit_s h R_1 T_17 fuel Xd U k).trans ?_; refine (if_neg c_25).trans ?_; refine (if_pos c_40).trans ?_; rfl
            rw [e_22] at K_22 R_22
            exact R_22 rfl _ _ dX7_exitIn_45
    have K_22 : ∀ (fl_22 : Bool) (rv_22 : Int32) (X1 : zDd) (U1 : zTr) (k1 : Nat), fl_22 = ((L_X7_exit h R_1 T_17 (61 - 0 + 1) x T_17 0).1) → rv_22 = ((L_X7_exit h R_1 T_17 (61 - 0 + 1) x T_17 0).2.1) → X1 = ((L_X7_exit h R_1 T_17 (61 - 0 + 1) x T_17 0).2.2.1) → U1 = ((L_X7_exit h R_1 T_17 (61 - 0 + 1) x T_17 0).2.2.2.1) → k1 = ((L_X7_exit h R_1 T_17 (61 - 0 + 1) x T_17 0).2.2.2.2) → fl_22 = false → zJ E 3 0 0 ([(WX0 x0 x1 x2 a b d0 p0 h0), (WT cy a t), (WT cy b U1), (WD cy d0 d1 X1)] : List va_W).flatten 64 [] [] := by
      intro fl_22 rv_22 X1 U1 k1 hfl_22 hrv_22 hX1 hU1 hk1 hfl_22_0 
      have c_fl22 : ¬ fl_22 = true := by rw [hfl_22_0]; decide
      refine zj_bipush C (v := (-6)) dX7_exitIn_64 (by decide) ?_
      subst hk1
      subst hU1
      subst hX1
      subst hrv_22
      subst hfl_22
      subst hT_17
      subst hR_1
      have e : f_X7_exitIn t u x h = ((-6), ((L_X7_exit h (f_X7_isHolder h) (f_X6_become u t) (61 - 0 + 1) x (f_X6_become u t) 0).2.2.2.1), ((L_X7_exit h (f_X7_isHolder h) (f_X6_become u t) (61 - 0 + 1) x (f_X6_become u t) 0).2.2.1)) := by refine (zsl_e _).trans ?_; refine (if_neg c_4).trans ?_; refine (if_neg c_fl22).trans ?_; rfl
      rw [e] at hret
      exact hret _ _ dX7_exitIn_66
    have R_22 : (((L_X7_exit h R_1 T_17 (61 - 0 + 1) x T_17 0).1) = true → zR E cX7_exitIn 3 (some (.int ((L_X7_exit h R_1 T_17 (61 - 0 + 1) x T_17 0).2.1))) ([(WX0 x0 x1 x2 a b d0 p0 h0), (WT cy a t), (WT cy b ((L_X7_exit h R_1 T_17 (61 - 0 + 1) x T_17 0).2.2.2.1)), (WD cy d0 d1 ((L_X7_exit h R_1 T_17 (61 - 0 + 1) x T_17 0).2.2.1))] : List va_W).flatten) := by
      intro hfl
      subst hT_17
      subst hR_1
      have e : f_X7_exitIn t u x h = (((L_X7_exit h (f_X7_isHolder h) (f_X6_become u t) (61 - 0 + 1) x (f_X6_become u t) 0).2.1), ((L_X7_exit h (f_X7_isHolder h) (f_X6_become u t) (61 - 0 + 1) x (f_X6_become u t) 0).2.2.2.1), ((L_X7_exit h (f_X7_isHolder h) (f_X6_become u t) (61 - 0 + 1) x (f_X6_become u t) 0).2.2.1)) := by refine (zsl_e _).trans ?_; refine (if_neg c_4).trans ?_; refine (if_pos hfl).trans ?_; rfl
      rw [e] at hret
      exact hret
    refine zj_sub (L' := [(0, .ref x0), (1, .int h), (2, .int (nI 0))]) [1, 2, 0] rfl ?_
    exact loop_22 (61 - 0 + 1) x T_17 0 (by omega) p17 (Nat.lt_succ_self _) (K_22 _ _ _ _ _ rfl rfl rfl rfl rfl) R_22
  · have c_4 : R_1 = false := (zB_eq (Classical.not_not.mp c))
    refine zj_iconst C (v := (-1)) dX7_exitIn_7 (by decide) ?_
    subst hR_1
    have e : f_X7_exitIn t u x h = ((-1), u, x) := by refine (zsl_e _).trans ?_; refine (if_pos c_4).trans ?_; rfl
    rw [e] at hret
    exact hret _ _ dX7_exitIn_8

noncomputable def L_X7_fair (t : zTr) (R_4 : Int64) : Nat → (zDd) → (zTr) → (Nat) → (Bool) × (Int32) × (zDd) × (zTr) × (Nat)
  | 0, Xd, U, k => (false, 0, Xd, U, k)
  | fuel + 1, Xd, U, k =>
    if 100 < k then
      (false, 0, Xd, U, k)
    else
      let T_24 : zTr := (f_X6_become U t)
      let F_36 : Nat → Int32 := (upd (gTr_st T_24) 2 (nI k))
      let T_45 : zDd := ((f_X0_run Xd (sTr_st T_24 F_36)).2.1)
      let T_45_1 : zTr := ((f_X0_run Xd (sTr_st T_24 F_36)).2.2)
      let R_45_2 : Int32 := ((f_X0_run Xd (sTr_st T_24 F_36)).1)
      let R_53 : Int64 := (f_X6_middle T_45_1)
      if R_53 < R_4 then
        L_X7_fair t R_4 fuel T_45 T_45_1 (k + 1)
      else
        (true, (nI k), T_45, T_45_1, k)
theorem L_X7_fair_s (t : zTr) (R_4 : Int64) (fuel : Nat) (Xd : zDd) (U : zTr) (k : Nat) : L_X7_fair t R_4 (fuel + 1) Xd U k = (
    if 100 < k then
      (false, 0, Xd, U, k)
    else
      let T_24 : zTr := (f_X6_become U t)
      let F_36 : Nat → Int32 := (upd (gTr_st T_24) 2 (nI k))
      let T_45 : zDd := ((f_X0_run Xd (sTr_st T_24 F_36)).2.1)
      let T_45_1 : zTr := ((f_X0_run Xd (sTr_st T_24 F_36)).2.2)
      let R_45_2 : Int32 := ((f_X0_run Xd (sTr_st T_24 F_36)).1)
      let R_53 : Int64 := (f_X6_middle T_45_1)
      if R_53 < R_4 then
        L_X7_fair t R_4 fuel T_45 T_45_1 (k + 1)
      else
        (true, (nI k), T_45, T_45_1, k)
  ) := rfl
noncomputable def f_X7_fairSwing (t : zTr) (u : zTr) (x : zDd) : Int32 × zTr × zDd := zsl (
  let R_4 : Int64 := (f_X6_middle t)
  let fl_10 : Bool := ((L_X7_fair t R_4 (101 - 0 + 1) x u 0).1)
  let rv_10 : Int32 := ((L_X7_fair t R_4 (101 - 0 + 1) x u 0).2.1)
  let X1 : zDd := ((L_X7_fair t R_4 (101 - 0 + 1) x u 0).2.2.1)
  let U1 : zTr := ((L_X7_fair t R_4 (101 - 0 + 1) x u 0).2.2.2.1)
  let k1 : Nat := ((L_X7_fair t R_4 (101 - 0 + 1) x u 0).2.2.2.2)
  if fl_10 = true then
    (rv_10, U1, X1)
  else
    ((-6), U1, X1)
  )
set_option maxHeartbeats 4000000 in
set_option maxRecDepth 100000 in
theorem c_X7_fairSwing (l : Launch) (D : va_G) (cy : Nat → ClassId) (x0 x1 x2 d0 d1 p0 p1 h0 h1 : Nat) (a b : Nat → Nat) (hs sl : Nat → Nat → Nat)  (t : zTr) (u : zTr) (x : zDd) (hb : gOd_n (gTr_bu t) ≤ 20) (hl : gOd_n (gTr_le t) ≤ 20) (P : zDd → zTr → Prop) (hP0 : P x u) (hP : ∀ X U (k : Nat), k ≤ 100 → P X U → okT (sTr_st (f_X6_become U t) (upd (gTr_st (f_X6_become U t)) 2 (nI k))) ∧ P (f_X0_run X (sTr_st (f_X6_become U t) (upd (gTr_st (f_X6_become U t)) 2 (nI k)))).2.1 (f_X0_run X (sTr_st (f_X6_become U t) (upd (gTr_st (f_X6_become U t)) 2 (nI k)))).2.2) : zC l yX7_fairSwing (zW yX7_fairSwing cX7_fairSwing 4 (Option.some Jvm.ClassFile.FieldType.int)) { frames := 5, cells := 0, slots := 0, locals := 127 } D cy [.ref x0] ([(WX0 x0 x1 x2 a b d0 p0 h0), (WT cy a t), (WT cy b u), (WD cy d0 d1 x)] : List va_W).flatten (some (.int ((f_X7_fairSwing t u x).1))) ([(WX0 x0 x1 x2 a b d0 p0 h0), (WT cy a t), (WT cy b ((f_X7_fairSwing t u x).2.1)), (WD cy d0 d1 ((f_X7_fairSwing t u x).2.2))] : List va_W).flatten := by
  refine zC_of rfl (Nat.le_of_ble_eq_true rfl) (zOk_i _) (fun E C hret => ?_)
  show zJ E 4 0 0 ([(WX0 x0 x1 x2 a b d0 p0 h0), (WT cy a t), (WT cy b u), (WD cy d0 d1 x)] : List va_W).flatten 0 [(0, .ref x0)] []
  refine zj_aload_n C dX7_fairSwing_0 0 rfl ?_
  refine zj_get C 0 7 0 (v := .ref (a 0)) inZ7 rfl rfl (by decide) tg_277 rfl dX7_fairSwing_1 ?_
  have M_4 := c_X6_middle l D cy a  t 
  obtain ⟨R_4, hR_4⟩ : ∃ g : Int64, g = (f_X6_middle t) := ⟨_, rfl⟩
  rw [← hR_4] at M_4
  refine zj_callVF1 C (nn := 18) (Bs' := ([(WX0 x0 x1 x2 a b d0 p0 h0), (WT cy a t), (WT cy b u), (WD cy d0 d1 x)] : List va_W)) (st := []) (st1 := [.long R_4]) 1 0 6 (M_4) (zg_V tg_432 tg_557 tg_430 tg_431 tg_2) ⟨rfl, hdZ_X6_middle⟩ ⟨rfl, rfl⟩ ⟨by decide, by decide⟩ rfl rfl rfl ⟨rfl, rfl⟩ rfl rfl (Nat.le_of_ble_eq_true rfl) dX7_fairSwing_4 rfl rfl ?_
  refine zj_lstore_n C (L' := [(1, .long R_4), (0, .ref x0)]) dX7_fairSwing_7 rfl (by decide) rfl ?_
  refine zj_iconst C (v := (nI 0)) dX7_fairSwing_8 (by decide) ?_
  refine zj_istore_n C (L' := [(3, .int (nI 0)), (1, .long R_4), (0, .ref x0)]) dX7_fairSwing_9 rfl (by decide) rfl ?_
  have loop_10 : ∀ (fuel : Nat) (Xd : zDd) (U : zTr) (k : Nat), (hk : k ≤ 101) → (hPk : P Xd U) → 101 - k < fuel → (((L_X7_fair t R_4 fuel Xd U k).1) = false → zJ E 4 0 0 ([(WX0 x0 x1 x2 a b d0 p0 h0), (WT cy a t), (WT cy b ((L_X7_fair t R_4 fuel Xd U k).2.2.2.1)), (WD cy d0 d1 ((L_X7_fair t R_4 fuel Xd U k).2.2.1))] : List va_W).flatten 69 [] []) → (((L_X7_fair t R_4 fuel Xd U k).1) = true → zR E cX7_fairSwing 4 (some (.int ((L_X7_fair t R_4 fuel Xd U k).2.1))) ([(WX0 x0 x1 x2 a b d0 p0 h0), (WT cy a t), (WT cy b ((L_X7_fair t R_4 fuel Xd U k).2.2.2.1)), (WD cy d0 d1 ((L_X7_fair t R_4 fuel Xd U k).2.2.1))] : List va_W).flatten) → zJ E 4 0 0 ([(WX0 x0 x1 x2 a b d0 p0 h0), (WT cy a t), (WT cy b U), (WD cy d0 d1 Xd)] : List va_W).flatten 10 [(0, .ref x0), (1, .long R_4), (3, .int (nI k))] [] := by
    intro fuel
    induction fuel with
    | zero => intro Xd U k hk hPk hmu; exact absurd hmu (Nat.not_lt_zero _)
    | succ fuel ih_10 =>
      intro Xd U k hk hPk hmu_10 K_10 R_10
      refine zj_iload_n C dX7_fairSwing_10 2 rfl ?_
      refine zj_bipush C (v := (nI 100)) dX7_fairSwing_11 (by decide) ?_
      refine zj_icmp_gt C 69 dX7_fairSwing_13 (by decide) (fun c => ?_) (fun c => ?_)
      · have c_13 : 100 < k := ((nI_ltI (by omega) (by omega)).mp c)
        refine zj_sub (L' := []) [] rfl ?_
        have e_10 : (L_X7_fair t R_4 (fuel + 1) Xd U k) = (false, 0, Xd, U, k) := by refine (L_X7_fair_s t R_4 fuel Xd U k).trans ?_; refine (if_pos c_13).trans ?_; rfl
        rw [e_10] at K_10 R_10
        exact K_10 rfl 
      · have c_13 : ¬ (100 < k) := (fun q => c ((nI_ltI (by omega) (by omega)).mpr q))
        refine zj_aload_n C dX7_fairSwing_16 0 rfl ?_
        refine zj_get C 0 7 1 (v := .ref (b 0)) inZ7 rfl rfl (by decide) tg_278 rfl dX7_fairSwing_17 ?_
        refine zj_aload_n C dX7_fairSwing_20 0 rfl ?_
        refine zj_get C 0 7 0 (v := .ref (a 0)) inZ7 rfl rfl (by decide) tg_277 rfl dX7_fairSwing_21 ?_
        have M_24 := c_X6_become l D cy b a  U t hb hl
        obtain ⟨T_24, hT_24⟩ : ∃ g : zTr, g = (f_X6_become U t) := ⟨_, rfl⟩
        rw [← hT_24] at M_24
        refine zj_callVF C (nn := 36) (Bs' := ([(WX0 x0 x1 x2 a b d0 p0 h0), (WT cy a t), (WT cy b T_24), (WD cy d0 d1 Xd)] : List va_W)) (st := []) (st1 := []) [(WT cy b U), (WT cy a t)] [(WT cy b T_24), (WT cy a t)] [2, 1] 0 6 (M_24) rfl rfl (zg_V tg_311 tg_568 tg_309 tg_310 tg_2) ⟨rfl, hdZ_X6_become⟩ ⟨rfl, rfl⟩ ⟨by decide, by decide⟩ rfl rfl rfl (by decide) ⟨rfl, rfl⟩ rfl rfl rfl (Nat.le_of_ble_eq_true rfl) dX7_fairSwing_24 rfl rfl ?_
        refine zj_aload_n C dX7_fairSwing_27 0 rfl ?_
        refine zj_get C 0 7 1 (v := .ref (b 0)) inZ7 rfl rfl (by decide) tg_278 rfl dX7_fairSwing_28 ?_
        refine zj_get C 19 6 6 (v := .ref (b 1)) inZ6 rfl rfl (by decide) tg_155 rfl dX7_fairSwing_31 ?_
        refine zj_iconst C (v := (nI 2)) dX7_fairSwing_34 (by decide) ?_
        refine zj_iload_n C dX7_fairSwing_35 2 rfl ?_
        obtain ⟨F_36, hF_36⟩ : ∃ g, g = (upd (gTr_st T_24) 2 (nI k)) := ⟨_, rfl⟩
        refine zj_iast C 20 (f := (gTr_st T_24)) (ws' := ([(WX0 x0 x1 x2 a b d0 p0 h0), (WT cy a t), (WT cy b (sTr_st T_24 F_36)), (WD cy d0 d1 Xd)] : List va_W).flatten) 2 (by decide) (vp_in_nI (by decide) (by decide)) rfl dX7_fairSwing_36 (by rw [← hF_36]; rfl) ?_
        refine zj_aload_n C dX7_fairSwing_37 0 rfl ?_
        have p36 := hP Xd U k (by omega) hPk; rw [← hT_24, ← hF_36] at p36; have hok36 := p36.1
        refine zj_get C 0 7 2 (v := .ref d0) inZ7 rfl rfl (by decide) tg_279 rfl dX7_fairSwing_38 ?_
        refine zj_aload_n C dX7_fairSwing_41 0 rfl ?_
        refine zj_get C 0 7 1 (v := .ref (b 0)) inZ7 rfl rfl (by decide) tg_278 rfl dX7_fairSwing_42 ?_
        have M_45 := c_X0_run l D cy d0 d1 b  Xd (sTr_st T_24 F_36) hok36.1 hok36.2.1 hok36.2.2.1 hok36.2.2.2
        obtain ⟨T_45, hT_45⟩ : ∃ g : zDd, g = ((f_X0_run Xd (sTr_st T_24 F_36)).2.1) := ⟨_, rfl⟩
        rw [← hT_45] at M_45
        obtain ⟨T_45_1, hT_45_1⟩ : ∃ g : zTr, g = ((f_X0_run Xd (sTr_st T_24 F_36)).2.2) := ⟨_, rfl⟩
        rw [← hT_45_1] at M_45
        obtain ⟨R_45_2, hR_45_2⟩ : ∃ g : Int32, g = ((f_X0_run Xd (sTr_st T_24 F_36)).1) := ⟨_, rfl⟩
        rw [← hR_45_2] at M_45
        refine zj_callVF C (nn := 20) (Bs' := ([(WX0 x0 x1 x2 a b d0 p0 h0), (WT cy a t), (WT cy b T_45_1), (WD cy d0 d1 T_45)] : List va_W)) (st := []) (st1 := [.int R_45_2]) [(WD cy d0 d1 Xd), (WT cy b (sTr_st T_24 F_36))] [(WD cy d0 d1 T_45), (WT cy b T_45_1)] [3, 2] 0 0 (M_45) rfl rfl (zg_V tg_424 tg_421 tg_422 tg_423 tg_6) ⟨rfl, hdZ_X0_run⟩ ⟨rfl, rfl⟩ ⟨by decide, by decide⟩ rfl rfl rfl (by decide) ⟨rfl, rfl⟩ rfl rfl rfl (Nat.le_of_ble_eq_true rfl) dX7_fairSwing_45 rfl rfl ?_
        have p45 : P T_45 T_45_1 := by { have q := p36.2; rw [← hT_45, ← hT_45_1] at q; exact q }
        refine zj_pop C dX7_fairSwing_48 rfl ?_
        refine zj_aload_n C dX7_fairSwing_49 0 rfl ?_
        refine zj_get C 0 7 1 (v := .ref (b 0)) inZ7 rfl rfl (by decide) tg_278 rfl dX7_fairSwing_50 ?_
        have M_53 := c_X6_middle l D cy b  T_45_1 
        obtain ⟨R_53, hR_53⟩ : ∃ g : Int64, g = (f_X6_middle T_45_1) := ⟨_, rfl⟩
        rw [← hR_53] at M_53
        refine zj_callVF1 C (nn := 18) (Bs' := ([(WX0 x0 x1 x2 a b d0 p0 h0), (WT cy a t), (WT cy b T_45_1), (WD cy d0 d1 T_45)] : List va_W)) (st := []) (st1 := [.long R_53]) 2 0 6 (M_53) (zg_V tg_432 tg_557 tg_430 tg_431 tg_2) ⟨rfl, hdZ_X6_middle⟩ ⟨rfl, rfl⟩ ⟨by decide, by decide⟩ rfl rfl rfl ⟨rfl, rfl⟩ rfl rfl (Nat.le_of_ble_eq_true rfl) dX7_fairSwing_53 rfl rfl ?_
        refine zj_lload_n C dX7_fairSwing_56 1 rfl ?_
        refine zj_lcmp_lt C 63 dX7_fairSwing_57 dX7_fairSwing_58 (by decide) (fun c => ?_) (fun c => ?_)
        · have c_57 : R_53 < R_4 := c
          refine zj_iinc C (j := 2) (v := (nI (k + 1))) (L' := [(3, .int (nI (k + 1))), (0, .ref x0), (1, .long R_4)]) dX7_fairSwing_63 rfl (nI_1 _) (by decide) rfl ?_
          refine zj_goto C 10 dX7_fairSwing_66 (by decide) ?_
          refine zj_sub (L' := [(0, .ref x0), (1, .long R_4), (3, .int (nI (k + 1)))]) [1, 2, 0] rfl ?_
          have hn_hk : (k + 1) ≤ 101 := (by omega)
          have hn_hPk : P T_45 T_45_1 := p45
          have hn_mu : 101 - (k + 1) < fuel := (by omega)
          subst hR_53
          subst hR_45_2
          subst hT_45_1
          subst hT_45
          subst hF_36
          subst hT_24
          have e_10 : (L_X7_fair t R_4 (fuel + 1) Xd U k) = (L_X7_fair t R_4 fuel ((f_X0_run Xd (sTr_st (f_X6_become U t) (upd (gTr_st (f_X6_become U t)) 2 (nI k)))).2.1) ((f_X0_run Xd (sTr_st (f_X6_become U t) (upd (gTr_st (f_X6_become U t)) 2 (nI k)))).2.2) (k + 1)) := by refine (L_X7_fair_s t R_4 fuel Xd U k).trans ?_; refine (if_neg c_13).trans ?_; refine (if_pos c_57).trans ?_; rfl
          rw [e_10] at K_10 R_10
          exact ih_10 ((f_X0_run Xd (sTr_st (f_X6_become U t) (upd (gTr_st (f_X6_become U t)) 2 (nI k)))).2.1) ((f_X0_run Xd (sTr_st (f_X6_become U t) (upd (gTr_st (f_X6_become U t)) 2 (nI k)))).2.2) (k + 1) hn_hk hn_hPk hn_mu K_10 R_10
        · have c_57 : ¬ (R_53 < R_4) := c
          refine zj_iload_n C dX7_fairSwing_61 2 rfl ?_
          subst hR_53
          subst hR_45_2
          subst hT_45_1
          subst hT_45
          subst hF_36
          subst hT_24
          have e_10 : (L_X7_fair t R_4 (fuel + 1) Xd U k) = (true, (nI k), ((f_X0_run Xd (sTr_st (f_X6_become U t) (upd (gTr_st (f_X6_become U t)) 2 (nI k)))).2.1), ((f_X0_run Xd (sTr_st (f_X6_become U t) (upd (gTr_st (f_X6_become U t)) 2 (nI k)))).2.2), k) := by refine (L_X7_fair_s t R_4 fuel Xd U k).trans ?_; refine (if_neg c_13).trans ?_; refine (if_neg c_57).trans ?_; rfl
          rw [e_10] at K_10 R_10
          exact R_10 rfl _ _ dX7_fairSwing_62
  have K_10 : ∀ (fl_10 : Bool) (rv_10 : Int32) (X1 : zDd) (U1 : zTr) (k1 : Nat), fl_10 = ((L_X7_fair t R_4 (101 - 0 + 1) x u 0).1) → rv_10 = ((L_X7_fair t R_4 (101 - 0 + 1) x u 0).2.1) → X1 = ((L_X7_fair t R_4 (101 - 0 + 1) x u 0).2.2.1) → U1 = ((L_X7_fair t R_4 (101 - 0 + 1) x u 0).2.2.2.1) → k1 = ((L_X7_fair t R_4 (101 - 0 + 1) x u 0).2.2.2.2) → fl_10 = false → zJ E 4 0 0 ([(WX0 x0 x1 x2 a b d0 p0 h0), (WT cy a t), (WT cy b U1), (WD cy d0 d1 X1)] : List va_W).flatten 69 [] [] := by
    intro fl_10 rv_10 X1 U1 k1 hfl_10 hrv_10 hX1 hU1 hk1 hfl_10_0 
    have c_fl10 : ¬ fl_10 = true := by rw [hfl_10_0]; decide
    refine zj_bipush C (v := (-6)) dX7_fairSwing_69 (by decide) ?_
    subst hk1
    subst hU1
    subst hX1
    subst hrv_10
    subst hfl_10
    subst hR_4
    have e : f_X7_fairSwing t u x = ((-6), ((L_X7_fair t (f_X6_middle t) (101 - 0 + 1) x u 0).2.2.2.1), ((L_X7_fair t (f_X6_middle t) (101 - 0 + 1) x u 0).2.2.1)) := by refine (zsl_e _).trans ?_; refine (if_neg c_fl10).trans ?_; rfl
    rw [e] at hret
    exact hret _ _ dX7_fairSwing_71
  have R_10 : (((L_X7_fair t R_4 (101 - 0 + 1) x u 0).1) = true → zR E cX7_fairSwing 4 (some (.int ((L_X7_fair t R_4 (101 - 0 + 1) x u 0).2.1))) ([(WX0 x0 x1 x2 a b d0 p0 h0), (WT cy a t), (WT cy b ((L_X7_fair t R_4 (101 - 0 + 1) x u 0).2.2.2.1)), (WD cy d0 d1 ((L_X7_fair t R_4 (101 - 0 + 1) x u 0).2.2.1))] : List va_W).flatten) := by
    intro hfl
    subst hR_4
    have e : f_X7_fairSwing t u x = (((L_X7_fair t (f_X6_middle t) (101 - 0 + 1) x u 0).2.1), ((L_X7_fair t (f_X6_middle t) (101 - 0 + 1) x u 0).2.2.2.1), ((L_X7_fair t (f_X6_middle t) (101 - 0 + 1) x u 0).2.2.1)) := by refine (zsl_e _).trans ?_; refine (if_pos hfl).trans ?_; rfl
    rw [e] at hret
    exact hret
  refine zj_sub (L' := [(0, .ref x0), (1, .long R_4), (3, .int (nI 0))]) [2, 1, 0] rfl ?_
  exact loop_10 (101 - 0 + 1) x u 0 (by omega) hP0 (Nat.lt_succ_self _) (K_10 _ _ _ _ _ rfl rfl rfl rfl rfl) R_10

noncomputable def f_X7_put (z : zPd) (ch : Int64) : Int32 × zPd :=
  let R_1 : Nat := (f_X5_countCharacters ch)
  if R_1 = 0 then
    ((-2), z)
  else
    if ((gPd_n z) + R_1) ≤ 80 then
      let T_35 : zPd := (f_X5_append z ch R_1)
      ((nI (gPd_n T_35)), T_35)
    else
      ((-4), z)
set_option maxHeartbeats 4000000 in
set_option maxRecDepth 100000 in
theorem c_X7_put (l : Launch) (D : va_G) (cy : Nat → ClassId) (x0 x1 x2 d0 d1 p0 p1 h0 h1 : Nat) (a b : Nat → Nat) (hs sl : Nat → Nat → Nat) (ch : Int64) (z : zPd) (hn : gPd_n z ≤ 80) : zC l yX7_put (zW yX7_put cX7_put 4 (Option.some Jvm.ClassFile.FieldType.int)) { frames := 1, cells := 0, slots := 0, locals := 26 } D cy [.ref x0, .long ch] ([(WX0 x0 x1 x2 a b d0 p0 h0), (WP cy p0 p1 z)] : List va_W).flatten (some (.int ((f_X7_put z ch).1))) ([(WX0 x0 x1 x2 a b d0 p0 h0), (WP cy p0 p1 ((f_X7_put z ch).2))] : List va_W).flatten := by
  refine zC_of rfl (Nat.le_of_ble_eq_true rfl) (zOk_i _) (fun E C hret => ?_)
  show zJ E 4 0 0 ([(WX0 x0 x1 x2 a b d0 p0 h0), (WP cy p0 p1 z)] : List va_W).flatten 0 [(0, .ref x0), (1, .long ch)] []
  refine zj_lload_n C dX7_put_0 1 rfl ?_
  have M_1 := c_X5_countCharacters l D cy  ch  
  obtain ⟨R_1, hR_1⟩ : ∃ g : Nat, g = (f_X5_countCharacters ch) := ⟨_, rfl⟩
  rw [← hR_1] at M_1
  refine zj_callS C (nn := 0) (ws' := ([(WX0 x0 x1 x2 a b d0 p0 h0), (WP cy p0 p1 z)] : List va_W).flatten) (st := []) (st1 := [.int (nI R_1)]) [] (M_1) tg_579 tg_577 tg_578 tg_7 hdZ_X5_countCharacters ⟨rfl, rfl⟩ ⟨by decide, by decide⟩ rfl (by decide) ⟨rfl, rfl⟩ rfl rfl (Nat.le_of_ble_eq_true rfl) dX7_put_1 rfl rfl ?_
  have q1 : R_1 ≤ 8 := by { rw [hR_1]; exact xcnt_le _ }
  refine zj_istore_n C (L' := [(3, .int (nI R_1)), (0, .ref x0), (1, .long ch)]) dX7_put_4 rfl (by decide) rfl ?_
  refine zj_iload_n C dX7_put_5 0 rfl ?_
  refine zj_if_ne C 12 dX7_put_6 (by decide) (fun c => ?_) (fun c => ?_)
  · have c_6 : ¬ (R_1 = 0) := (fun q => c ((zn_eq0 (by omega)).mpr q))
    refine zj_aload_n C dX7_put_12 1 rfl ?_
    refine zj_get C 0 7 3 (v := .ref p0) inZ7 rfl rfl (by decide) tg_280 rfl dX7_put_13 ?_
    refine zj_get C 1 5 0 (v := .int (nI (gPd_n z))) inZ5 rfl rfl (by decide) tg_230 rfl dX7_put_16 ?_
    refine zj_iload_n C dX7_put_19 0 rfl ?_
    refine zj_iadd C dX7_put_20 ?_
    refine zj_topi (nI ((gPd_n z) + R_1)) (nI_add _ _) ?_
    refine zj_bipush C (v := (nI 80)) dX7_put_21 (by decide) ?_
    refine zj_icmp_le C 29 dX7_put_23 (by decide) (fun c => ?_) (fun c => ?_)
    · have c_23 : ((gPd_n z) + R_1) ≤ 80 := ((nI_leI (by omega) (by omega)).mp c)
      refine zj_aload_n C dX7_put_29 1 rfl ?_
      refine zj_get C 0 7 3 (v := .ref p0) inZ7 rfl rfl (by decide) tg_280 rfl dX7_put_30 ?_
      refine zj_lload_n C dX7_put_33 2 rfl ?_
      refine zj_iload_n C dX7_put_34 0 rfl ?_
      have M_35 := c_X5_append l D cy p0 p1 ch R_1 z hn (by omega) q1
      obtain ⟨T_35, hT_35⟩ : ∃ g : zPd, g = (f_X5_append z ch R_1) := ⟨_, rfl⟩
      rw [← hT_35] at M_35
      refine zj_callVF1 C (nn := 2) (Bs' := ([(WX0 x0 x1 x2 a b d0 p0 h0), (WP cy p0 p1 T_35)] : List va_W)) (st := []) (st1 := []) 1 0 5 (M_35) (zg_V tg_586 tg_583 tg_584 tg_585 tg_7) ⟨rfl, hdZ_X5_append⟩ ⟨rfl, rfl⟩ ⟨by decide, by decide⟩ rfl rfl rfl ⟨rfl, rfl⟩ rfl rfl (Nat.le_of_ble_eq_true rfl) dX7_put_35 rfl rfl ?_
      refine zj_aload_n C dX7_put_38 1 rfl ?_
      refine zj_get C 0 7 3 (v := .ref p0) inZ7 rfl rfl (by decide) tg_280 rfl dX7_put_39 ?_
      refine zj_get C 1 5 0 (v := .int (nI (gPd_n T_35))) inZ5 rfl rfl (by decide) tg_230 rfl dX7_put_42 ?_
      subst hT_35
      subst hR_1
      have e : f_X7_put z ch = ((nI (gPd_n (f_X5_append z ch (f_X5_countCharacters ch)))), (f_X5_append z ch (f_X5_countCharacters ch))) := by refine (if_neg c_6).trans ?_; refine (if_pos c_23).trans ?_; rfl
      rw [e] at hret
      exact hret _ _ dX7_put_45
    · have c_23 : ¬ (((gPd_n z) + R_1) ≤ 80) := (fun q => c ((nI_leI (by omega) (by omega)).mpr q))
      refine zj_bipush C (v := (-4)) dX7_put_26 (by decide) ?_
      subst hR_1
      have e : f_X7_put z ch = ((-4), z) := by refine (if_neg c_6).trans ?_; refine (if_neg c_23).trans ?_; rfl
      rw [e] at hret
      exact hret _ _ dX7_put_28
  · have c_6 : R_1 = 0 := ((zn_eq0 (by omega)).mp (Classical.not_not.mp c))
    refine zj_bipush C (v := (-2)) dX7_put_9 (by decide) ?_
    subst hR_1
    have e : f_X7_put z ch = ((-2), z) := by refine (if_pos c_6).trans ?_; rfl
    rw [e] at hret
    exact hret _ _ dX7_put_11

noncomputable def f_X7_wipe (z : zPd) : Int32 × zPd :=
  let T_4 : zPd := ((f_X5_empty z).2)
  let R_4_1 : Nat := ((f_X5_empty z).1)
  ((nI R_4_1), T_4)
set_option maxHeartbeats 4000000 in
set_option maxRecDepth 100000 in
theorem c_X7_wipe (l : Launch) (D : va_G) (cy : Nat → ClassId) (x0 x1 x2 d0 d1 p0 p1 h0 h1 : Nat) (a b : Nat → Nat) (hs sl : Nat → Nat → Nat)  (z : zPd)  : zC l yX7_wipe (zW yX7_wipe cX7_wipe 1 (Option.some Jvm.ClassFile.FieldType.int)) { frames := 1, cells := 0, slots := 0, locals := 21 } D cy [.ref x0] ([(WX0 x0 x1 x2 a b d0 p0 h0), (WP cy p0 p1 z)] : List va_W).flatten (some (.int ((f_X7_wipe z).1))) ([(WX0 x0 x1 x2 a b d0 p0 h0), (WP cy p0 p1 ((f_X7_wipe z).2))] : List va_W).flatten := by
  refine zC_of rfl (Nat.le_of_ble_eq_true rfl) (zOk_i _) (fun E C hret => ?_)
  show zJ E 1 0 0 ([(WX0 x0 x1 x2 a b d0 p0 h0), (WP cy p0 p1 z)] : List va_W).flatten 0 [(0, .ref x0)] []
  refine zj_aload_n C dX7_wipe_0 0 rfl ?_
  refine zj_get C 0 7 3 (v := .ref p0) inZ7 rfl rfl (by decide) tg_280 rfl dX7_wipe_1 ?_
  have M_4 := c_X5_empty l D cy p0 p1  z 
  obtain ⟨T_4, hT_4⟩ : ∃ g : zPd, g = ((f_X5_empty z).2) := ⟨_, rfl⟩
  rw [← hT_4] at M_4
  obtain ⟨R_4_1, hR_4_1⟩ : ∃ g : Nat, g = ((f_X5_empty z).1) := ⟨_, rfl⟩
  rw [← hR_4_1] at M_4
  refine zj_callVF1 C (nn := 2) (Bs' := ([(WX0 x0 x1 x2 a b d0 p0 h0), (WP cy p0 p1 T_4)] : List va_W)) (st := []) (st1 := [.int (nI R_4_1)]) 1 0 5 (M_4) (zg_V tg_594 tg_591 tg_592 tg_593 tg_7) ⟨rfl, hdZ_X5_empty⟩ ⟨rfl, rfl⟩ ⟨by decide, by decide⟩ rfl rfl rfl ⟨rfl, rfl⟩ rfl rfl (Nat.le_of_ble_eq_true rfl) dX7_wipe_4 rfl rfl ?_
  subst hR_4_1
  subst hT_4
  have e : f_X7_wipe z = ((nI ((f_X5_empty z).1)), ((f_X5_empty z).2)) := by rfl
  rw [e] at hret
  exact hret _ _ dX7_wipe_7

noncomputable def f_X7_fault (z : zPd) : Int32 × zPd :=
  let T_4 : zPd := ((f_X5_findFault z).2)
  let R_4_1 : Int32 := ((f_X5_findFault z).1)
  (R_4_1, T_4)
set_option maxHeartbeats 4000000 in
set_option maxRecDepth 100000 in
theorem c_X7_fault (l : Launch) (D : va_G) (cy : Nat → ClassId) (x0 x1 x2 d0 d1 p0 p1 h0 h1 : Nat) (a b : Nat → Nat) (hs sl : Nat → Nat → Nat)  (z : zPd) (hn : gPd_n z ≤ 80) (hsg : ∀ i, zch (gPd_sg z i)) : zC l yX7_fault (zW yX7_fault cX7_fault 1 (Option.some Jvm.ClassFile.FieldType.int)) { frames := 6, cells := 0, slots := 0, locals := 126 } D cy [.ref x0] ([(WX0 x0 x1 x2 a b d0 p0 h0), (WP cy p0 p1 z)] : List va_W).flatten (some (.int ((f_X7_fault z).1))) ([(WX0 x0 x1 x2 a b d0 p0 h0), (WP cy p0 p1 ((f_X7_fault z).2))] : List va_W).flatten := by
  refine zC_of rfl (Nat.le_of_ble_eq_true rfl) (zOk_i _) (fun E C hret => ?_)
  show zJ E 1 0 0 ([(WX0 x0 x1 x2 a b d0 p0 h0), (WP cy p0 p1 z)] : List va_W).flatten 0 [(0, .ref x0)] []
  refine zj_aload_n C dX7_fault_0 0 rfl ?_
  refine zj_get C 0 7 3 (v := .ref p0) inZ7 rfl rfl (by decide) tg_280 rfl dX7_fault_1 ?_
  have M_4 := c_X5_findFault l D cy p0 p1  z hn hsg
  obtain ⟨T_4, hT_4⟩ : ∃ g : zPd, g = ((f_X5_findFault z).2) := ⟨_, rfl⟩
  rw [← hT_4] at M_4
  obtain ⟨R_4_1, hR_4_1⟩ : ∃ g : Int32, g = ((f_X5_findFault z).1) := ⟨_, rfl⟩
  rw [← hR_4_1] at M_4
  refine zj_callVF1 C (nn := 2) (Bs' := ([(WX0 x0 x1 x2 a b d0 p0 h0), (WP cy p0 p1 T_4)] : List va_W)) (st := []) (st1 := [.int R_4_1]) 1 0 5 (M_4) (zg_V tg_602 tg_599 tg_600 tg_601 tg_7) ⟨rfl, hdZ_X5_findFault⟩ ⟨rfl, rfl⟩ ⟨by decide, by decide⟩ rfl rfl rfl ⟨rfl, rfl⟩ rfl rfl (Nat.le_of_ble_eq_true rfl) dX7_fault_4 rfl rfl ?_
  subst hR_4_1
  subst hT_4
  have e : f_X7_fault z = (((f_X5_findFault z).1), ((f_X5_findFault z).2)) := by rfl
  rw [e] at hret
  exact hret _ _ dX7_fault_7

noncomputable def f_X7_undo (t : zTr) (y : zHs) : Int32 × zTr × zHs :=
  if (gHs_count y) = 0 then
    ((-5), t, y)
  else
    let T_21 : zHs := ((f_X1_takeBack y t).1)
    let T_21_1 : zTr := ((f_X1_takeBack y t).2)
    ((nI (gHs_count T_21)), T_21_1, T_21)
set_option maxHeartbeats 4000000 in
set_option maxRecDepth 100000 in
theorem c_X7_undo (l : Launch) (D : va_G) (cy : Nat → ClassId) (x0 x1 x2 d0 d1 p0 p1 h0 h1 : Nat) (a b : Nat → Nat) (hs sl : Nat → Nat → Nat)  (t : zTr) (y : zHs) (hf : gHs_first y < 7) (hc : gHs_count y ≤ 6) (hq : ∀ i, i < 7 → gOd_n (gTr_bu (gHs_st y i)) ≤ 20 ∧ gOd_n (gTr_le (gHs_st y i)) ≤ 20) : zC l yX7_undo (zW yX7_undo cX7_undo 1 (Option.some Jvm.ClassFile.FieldType.int)) { frames := 4, cells := 0, slots := 0, locals := 89 } D cy [.ref x0] (([(WX0 x0 x1 x2 a b d0 p0 h0), (WT cy a t), (WHo cy h0 h1 hs (gHs_first y) (gHs_count y))] : List va_W) ++ WHL cy hs (gHs_st y)).flatten (some (.int ((f_X7_undo t y).1))) (([(WX0 x0 x1 x2 a b d0 p0 h0), (WT cy a ((f_X7_undo t y).2.1)), (WHo cy h0 h1 hs (gHs_first ((f_X7_undo t y).2.2)) (gHs_count ((f_X7_undo t y).2.2)))] : List va_W) ++ WHL cy hs (gHs_st ((f_X7_undo t y).2.2))).flatten := by
  refine zC_of rfl (Nat.le_of_ble_eq_true rfl) (zOk_i _) (fun E C hret => ?_)
  show zJ E 1 0 0 (([(WX0 x0 x1 x2 a b d0 p0 h0), (WT cy a t), (WHo cy h0 h1 hs (gHs_first y) (gHs_count y))] : List va_W) ++ WHL cy hs (gHs_st y)).flatten 0 [(0, .ref x0)] []
  refine zj_aload_n C dX7_undo_0 0 rfl ?_
  refine zj_get C 0 7 4 (v := .ref h0) inZ7 rfl rfl (by decide) tg_281 rfl dX7_undo_1 ?_
  refine zj_get C 19 1 2 (v := .int (nI (gHs_count y))) inZ1 rfl rfl (by decide) tg_269 rfl dX7_undo_4 ?_
  refine zj_if_ne C 13 dX7_undo_7 (by decide) (fun c => ?_) (fun c => ?_)
  · have c_7 : ¬ ((gHs_count y) = 0) := (fun q => c ((zn_eq0 (by omega)).mpr q))
    refine zj_aload_n C dX7_undo_13 0 rfl ?_
    refine zj_get C 0 7 4 (v := .ref h0) inZ7 rfl rfl (by decide) tg_281 rfl dX7_undo_14 ?_
    refine zj_aload_n C dX7_undo_17 0 rfl ?_
    refine zj_get C 0 7 0 (v := .ref (a 0)) inZ7 rfl rfl (by decide) tg_277 rfl dX7_undo_18 ?_
    have M_21 := c_X1_takeBack l D cy h0 h1 hs a  y t hf hc hq
    obtain ⟨T_21, hT_21⟩ : ∃ g : zHs, g = ((f_X1_takeBack y t).1) := ⟨_, rfl⟩
    rw [← hT_21] at M_21
    obtain ⟨T_21_1, hT_21_1⟩ : ∃ g : zTr, g = ((f_X1_takeBack y t).2) := ⟨_, rfl⟩
    rw [← hT_21_1] at M_21
    refine zj_callVF C (nn := 146) (Bs' := (([(WX0 x0 x1 x2 a b d0 p0 h0), (WT cy a T_21_1), (WHo cy h0 h1 hs (gHs_first T_21) (gHs_count T_21))] : List va_W) ++ WHL cy hs (gHs_st T_21))) (st := []) (st1 := []) ([(WHo cy h0 h1 hs (gHs_first y) (gHs_count y)), (WT cy a t)] ++ WHL cy hs (gHs_st y)) ([(WHo cy h0 h1 hs (gHs_first T_21) (gHs_count T_21)), (WT cy a T_21_1)] ++ WHL cy hs (gHs_st T_21)) [2, 1, 3, 4, 5, 6, 7, 8, 9] 0 1 (M_21) rfl rfl (zg_V tg_655 tg_652 tg_653 tg_654 tg_8) ⟨rfl, hdZ_X1_takeBack⟩ ⟨rfl, rfl⟩ ⟨by decide, by decide⟩ rfl rfl rfl (by decide) ⟨rfl, rfl⟩ rfl rfl rfl (Nat.le_of_ble_eq_true rfl) dX7_undo_21 rfl rfl ?_
    refine zj_aload_n C dX7_undo_24 0 rfl ?_
    refine zj_get C 0 7 4 (v := .ref h0) inZ7 rfl rfl (by decide) tg_281 rfl dX7_undo_25 ?_
    refine zj_get C 19 1 2 (v := .int (nI (gHs_count T_21))) inZ1 rfl rfl (by decide) tg_269 rfl dX7_undo_28 ?_
    subst hT_21_1
    subst hT_21
    have e : f_X7_undo t y = ((nI (gHs_count ((f_X1_takeBack y t).1))), ((f_X1_takeBack y t).2), ((f_X1_takeBack y t).1)) := by refine (if_neg c_7).trans ?_; rfl
    rw [e] at hret
    exact hret _ _ dX7_undo_31
  · have c_7 : (gHs_count y) = 0 := ((zn_eq0 (by omega)).mp (Classical.not_not.mp c))
    refine zj_bipush C (v := (-5)) dX7_undo_10 (by decide) ?_
    have e : f_X7_undo t y = ((-5), t, y) := by refine (if_pos c_7).trans ?_; rfl
    rw [e] at hret
    exact hret _ _ dX7_undo_12
