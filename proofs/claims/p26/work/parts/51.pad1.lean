theorem zj_tdef {E : zE} {cc : ByteArray} {nL : Nat} {own : String} {R : Room} {cy : Nat → ClassId} {l : Launch} {D : va_G} {k n : Nat} {ws : va_W} {pc : Nat} {L : List (Nat × Value)} {st : List Value} (C : zO E cc nL own R cy l D) {dflt lo hi : Int} {offs : Array Int} {len : Nat} {x : Int32} (tgt : Nat) (d : decode cc pc = .ok (.tableswitch dflt lo hi offs, len)) (h : ¬ (x.toInt < lo ∨ hi < x.toInt) → offs[(x.toInt - lo).toNat]? = some dflt) (ht : (pc : Int) + dflt = (tgt : Int)) (kk : zJ E nL k n ws tgt L st) : zJ E nL k n ws pc L (.int x :: st) := by
  by_cases q : x.toInt < lo ∨ hi < x.toInt
  · exact zj_tout C tgt d q ht kk
  · exact zj_tin C (off := dflt) tgt d (fun r => q (Or.inl r)) (fun r => q (Or.inr r)) (h q) ht kk
theorem nI_toI {x : Int32} {j : Nat} (h : x.toInt = (j : Int)) (hj : j < 2 ^ 31) : x = nI j := Int32.toInt_inj.mp (by rw [h, nI_toInt hj])
theorem xsw98 {x : Int32} (h1 : ¬ x = nI 98) (h2 : ¬ x = nI 100) (h3 : ¬ x = nI 105) (h4 : ¬ x = nI 108) (h5 : ¬ x = nI 112) (h6 : ¬ x = nI 113) : ¬ (x.toInt < 98 ∨ 113 < x.toInt) → (#[80, 140, 128, 140, 140, 140, 140, 95, 140, 140, 80, 140, 140, 140, 128, 95] : Array Int)[(x.toInt - 98).toNat]? = some 140 := by
  intro h
  obtain ⟨j, hj⟩ : ∃ j : Nat, x.toInt = 98 + (j : Int) := ⟨(x.toInt - 98).toNat, by omega⟩
  have e : (x.toInt - 98).toNat = j := by omega
  rw [e]
  rcases (show j = 0 ∨ j = 1 ∨ j = 2 ∨ j = 3 ∨ j = 4 ∨ j = 5 ∨ j = 6 ∨ j = 7 ∨ j = 8 ∨ j = 9 ∨ j = 10 ∨ j = 11 ∨ j = 12 ∨ j = 13 ∨ j = 14 ∨ j = 15 by omega) with rfl | rfl | rfl | rfl | rfl | rfl | rfl | rfl | rfl | rfl | rfl | rfl | rfl | rfl | rfl | rfl
  · exact absurd (nI_toI (j := 98) (by omega) (by decide)) h1
  · rfl
  · exact absurd (nI_toI (j := 100) (by omega) (by decide)) h2
  · rfl
  · rfl
  · rfl
  · rfl
  · exact absurd (nI_toI (j := 105) (by omega) (by decide)) h3
  · rfl
  · rfl
  · exact absurd (nI_toI (j := 108) (by omega) (by decide)) h4
  · rfl
  · rfl
  · rfl
  · exact absurd (nI_toI (j := 112) (by omega) (by decide)) h5
  · exact absurd (nI_toI (j := 113) (by omega) (by decide)) h6
/-- a pad that can be read -/
def zpd (x : zPd) : Prop := gPd_n x ≤ 80 ∧ gPd_at x ≤ gPd_n x ∧ ∀ i, zch (gPd_sg x i)
/-- what a reading leaves as it was -/
def zpk (x y : zPd) : Prop := gPd_n y = gPd_n x ∧ gPd_sg y = gPd_sg x ∧ gPd_at x ≤ gPd_at y ∧ gPd_at y ≤ gPd_n x
theorem zpd_of {x y : zPd} (h : zpd x) (k : zpk x y) : zpd y := ⟨by rw [k.1]; exact h.1, by rw [k.1]; exact k.2.2.2, by rw [k.2.1]; exact h.2.2⟩
theorem zpk_t {x y z : zPd} (h : zpk x y) (k : zpk y z) : zpk x z := ⟨k.1.trans h.1, k.2.1.trans h.2.1, Nat.le_trans h.2.2.1 k.2.2.1, by rw [← h.1]; exact k.2.2.2⟩
theorem zpk_r {x : zPd} (h : zpd x) : zpk x x := ⟨rfl, rfl, Nat.le_refl _, h.2.1⟩

noncomputable def f_X5_signAt (x : zPd) (ix : Nat) : Int32 :=
  let x9_0 : Int32 := (if (gPd_n x) ≤ ix then (nI 0) else ((gPd_sg x) ix))
  x9_0
set_option maxHeartbeats 4000000 in
set_option maxRecDepth 100000 in
theorem c_X5_signAt (l : Launch) (D : va_G) (cy : Nat → ClassId) (p0 p1 : Nat) (ix : Nat) (x : zPd) (hi : ix ≤ 80) (hz : zpd x) : zC l yX5_signAt (zW yX5_signAt cX5_signAt 2 (Option.some Jvm.ClassFile.FieldType.char)) { frames := 0, cells := 0, slots := 0, locals := 0 } D cy [.ref p0, .int (nI ix)] (WP cy p0 p1 x) (some (.int (f_X5_signAt x ix))) (WP cy p0 p1 x) := by
  refine zC_ofC rfl (Nat.le_of_ble_eq_true rfl) (by unfold f_X5_signAt; dsimp only; split; exact zch_0; exact hz.2.2 _) (fun E C hret => ?_)
  have hn := hz.1
  show zJ E 2 0 0 (WP cy p0 p1 x) 0 [(0, .ref p0), (1, .int (nI ix))] []
  refine zj_iload_n C dX5_signAt_0 1 rfl ?_
  refine zj_if_lt C 21 dX5_signAt_1 (by decide) (fun c => absurd c (nI_pos (by omega))) (fun c => ?_)
  refine zj_iload_n C dX5_signAt_4 1 rfl ?_
  refine zj_aload_n C dX5_signAt_5 0 rfl ?_
  refine zj_get C 0 5 0 (v := .int (nI (gPd_n x))) inZ5 rfl rfl (by decide) tg_229 rfl dX5_signAt_6 ?_
  have J_9 : ∀ (x9_0 : Int32), x9_0 = (if (gPd_n x) ≤ ix then (nI 0) else ((gPd_sg x) ix)) → zJ E 2 0 0 (WP cy p0 p1 x) 22 [(0, .ref p0), (1, .int (nI ix))] [.int x9_0] := by
    intro x9_0 hx9_0
    subst hx9_0
    have e : f_X5_signAt x ix = (if (gPd_n x) ≤ ix then (nI 0) else ((gPd_sg x) ix)) := by rfl
    rw [e] at hret
    exact hret _ _ dX5_signAt_22
  refine zj_icmp_ge C 21 dX5_signAt_9 (by decide) (fun c => ?_) (fun c => ?_)
  · have c_9 : (gPd_n x) ≤ ix := ((nI_leI (by omega) (by omega)).mp c)
    refine zj_iconst C (v := (nI 0)) dX5_signAt_21 (by decide) ?_
    exact J_9 (nI 0) (by simp only [if_pos c_9]; first | done | assumption)
  · have c_9 : ¬ ((gPd_n x) ≤ ix) := (fun q => c ((nI_leI (by omega) (by omega)).mpr q))
    refine zj_aload_n C dX5_signAt_12 0 rfl ?_
    refine zj_get C 0 5 1 (v := .ref p1) inZ5 rfl rfl (by decide) tg_231 rfl dX5_signAt_13 ?_
    refine zj_iload_n C dX5_signAt_16 1 rfl ?_
    refine zj_cald C 1 (f := (gPd_sg x)) ix (nI_clamp (by omega)) (vp_in_nI (by omega) (by omega)) rfl dX5_signAt_17 ?_
    refine zj_goto C 22 dX5_signAt_18 (by decide) ?_
    exact J_9 ((gPd_sg x) ix) (by simp only [if_neg c_9]; first | done | assumption)

theorem zch_sign {x : zPd} (hz : zpd x) (i : Nat) : zch (f_X5_signAt x i) := by
  unfold f_X5_signAt; dsimp only; split; exact zch_0; exact hz.2.2 _
theorem xsign_lt {x : zPd} {i : Nat} (h : ¬ f_X5_signAt x i = 0) : i < gPd_n x := by
  rcases Nat.lt_or_ge i (gPd_n x) with q | q
  · exact q
  · exact absurd (by unfold f_X5_signAt; dsimp only; rw [if_pos q]; rfl) h

noncomputable def f_X5_skip (x : zPd) (sg : Int32) : Bool × zPd := zsl (
  let R_5 : Int32 := (f_X5_signAt x (gPd_at x))
  if R_5 = sg then
    let V_21 : Nat := (gPd_at x) + 1
    (true, (sPd_at x V_21))
  else
    (false, x)
  )
set_option maxHeartbeats 4000000 in
set_option maxRecDepth 100000 in
theorem c_X5_skip (l : Launch) (D : va_G) (cy : Nat → ClassId) (p0 p1 : Nat) (sg : Int32) (x : zPd) (hs0 : ¬ sg = 0) (hz : zpd x) : zC l yX5_skip (zW yX5_skip cX5_skip 2 (Option.some Jvm.ClassFile.FieldType.boolean)) { frames := 1, cells := 0, slots := 0, locals := 21 } D cy [.ref p0, .int sg] (WP cy p0 p1 x) (some (.int (zB ((f_X5_skip x sg).1)))) (WP cy p0 p1 ((f_X5_skip x sg).2)) := by
  refine zC_of rfl (Nat.le_of_ble_eq_true rfl) (zOk_z (zB_01 _)) (fun E C hret => ?_)
  have hn := hz.1
  show zJ E 2 0 0 (WP cy p0 p1 x) 0 [(0, .ref p0), (1, .int sg)] []
  refine zj_aload_n C dX5_skip_0 0 rfl ?_
  refine zj_aload_n C dX5_skip_1 0 rfl ?_
  refine zj_get C 0 5 2 (v := .int (nI (gPd_at x))) inZ5 rfl rfl (by decide) tg_232 rfl dX5_skip_2 ?_
  have M_5 := c_X5_signAt l D cy p0 p1 (gPd_at x) x (Nat.le_trans hz.2.1 hn) hz
  obtain ⟨R_5, hR_5⟩ : ∃ g : Int32, g = (f_X5_signAt x (gPd_at x)) := ⟨_, rfl⟩
  rw [← hR_5] at M_5
  refine zj_callV C (nn := 2) (ws' := (WP cy p0 p1 x)) (st := []) (st1 := [.int R_5]) 0 5 [0, 1] (M_5) (zg_V tg_614 tg_611 tg_612 tg_613 tg_7) ⟨rfl, hdZ_X5_signAt⟩ ⟨rfl, rfl⟩ ⟨by decide, by decide⟩ rfl rfl rfl (by decide) ⟨rfl, rfl⟩ rfl rfl (Nat.le_of_ble_eq_true rfl) dX5_skip_5 rfl rfl ?_
  refine zj_iload_n C dX5_skip_8 1 rfl ?_
  refine zj_icmp_eq C 14 dX5_skip_9 (by decide) (fun c => ?_) (fun c => ?_)
  · have c_9 : R_5 = sg := c
    refine zj_aload_n C dX5_skip_14 0 rfl ?_
    refine zj_dup C dX5_skip_15 rfl ?_
    refine zj_get C 0 5 2 (v := .int (nI (gPd_at x))) inZ5 rfl rfl (by decide) tg_232 rfl dX5_skip_16 ?_
    refine zj_iconst C (v := (nI 1)) dX5_skip_19 (by decide) ?_
    refine zj_iadd C dX5_skip_20 ?_
    refine zj_topi (nI ((gPd_at x) + 1)) (nI_add _ _) ?_
    obtain ⟨V_21, hV_21⟩ : ∃ g : Nat, g = (gPd_at x) + 1 := ⟨_, rfl⟩
    refine zj_topi (nI V_21) (congrArg nI hV_21.symm) ?_
    refine zj_put C 0 5 2 (v := .int (nI V_21)) (ws' := (WP cy p0 p1 (sPd_at x V_21))) tyX5 tyX5_ok nmX5 inZ5 rfl rfl (by decide) tg_232 rfl rfl rfl (Nat.le_of_ble_eq_true rfl) dX5_skip_21 rfl ?_
    refine zj_iconst C (v := (nI 1)) dX5_skip_24 (by decide) ?_
    subst hV_21
    subst hR_5
    have e : f_X5_skip x sg = (true, (sPd_at x ((gPd_at x) + 1))) := by refine (zsl_e _).trans ?_; refine (if_pos c_9).trans ?_; rfl
    rw [e] at hret
    exact hret _ _ dX5_skip_25
  · have c_9 : ¬ (R_5 = sg) := c
    refine zj_iconst C (v := (nI 0)) dX5_skip_12 (by decide) ?_
    subst hR_5
    have e : f_X5_skip x sg = (false, x) := by refine (zsl_e _).trans ?_; refine (if_neg c_9).trans ?_; rfl
    rw [e] at hret
    exact hret _ _ dX5_skip_13

theorem zk_skip {x : zPd} {sg : Int32} (hs0 : ¬ sg = 0) (hz : zpd x) : zpk x (f_X5_skip x sg).2 := by
  unfold f_X5_skip; rw [zsl_e]; dsimp only
  by_cases c : f_X5_signAt x (gPd_at x) = sg
  · rw [if_pos c]
    have := xsign_lt (x := x) (i := gPd_at x) (by rw [c]; exact hs0)
    exact ⟨rfl, rfl, Nat.le_succ _, this⟩
  · rw [if_neg c]; exact zpk_r hz

noncomputable def f_X5_digitAt (x : zPd) : Int32 :=
  let R_5 : Int32 := (f_X5_signAt x (gPd_at x))
  let x12_0 : Int32 := (if R_5 < (nI 48) then (-1) else (if (nI 57) < R_5 then (-1) else (R_5 - (nI 48))))
  x12_0
set_option maxHeartbeats 4000000 in
set_option maxRecDepth 100000 in
theorem c_X5_digitAt (l : Launch) (D : va_G) (cy : Nat → ClassId) (p0 p1 : Nat)  (x : zPd) (hz : zpd x) : zC l yX5_digitAt (zW yX5_digitAt cX5_digitAt 2 (Option.some Jvm.ClassFile.FieldType.int)) { frames := 1, cells := 0, slots := 0, locals := 21 } D cy [.ref p0] (WP cy p0 p1 x) (some (.int (f_X5_digitAt x))) (WP cy p0 p1 x) := by
  refine zC_of rfl (Nat.le_of_ble_eq_true rfl) (zOk_i _) (fun E C hret => ?_)
  have hn := hz.1
  show zJ E 2 0 0 (WP cy p0 p1 x) 0 [(0, .ref p0)] []
  refine zj_aload_n C dX5_digitAt_0 0 rfl ?_
  refine zj_aload_n C dX5_digitAt_1 0 rfl ?_
  refine zj_get C 0 5 2 (v := .int (nI (gPd_at x))) inZ5 rfl rfl (by decide) tg_232 rfl dX5_digitAt_2 ?_
  have M_5 := c_X5_signAt l D cy p0 p1 (gPd_at x) x (Nat.le_trans hz.2.1 hn) hz
  obtain ⟨R_5, hR_5⟩ : ∃ g : Int32, g = (f_X5_signAt x (gPd_at x)) := ⟨_, rfl⟩
  rw [← hR_5] at M_5
  refine zj_callV C (nn := 2) (ws' := (WP cy p0 p1 x)) (st := []) (st1 := [.int R_5]) 0 5 [0, 1] (M_5) (zg_V tg_614 tg_611 tg_612 tg_613 tg_7) ⟨rfl, hdZ_X5_signAt⟩ ⟨rfl, rfl⟩ ⟨by decide, by decide⟩ rfl rfl rfl (by decide) ⟨rfl, rfl⟩ rfl rfl (Nat.le_of_ble_eq_true rfl) dX5_digitAt_5 rfl rfl ?_
  refine zj_istore_n C (L' := [(1, .int R_5), (0, .ref p0)]) dX5_digitAt_8 rfl (by decide) rfl ?_
  refine zj_iload_n C dX5_digitAt_9 0 rfl ?_
  refine zj_bipush C (v := (nI 48)) dX5_digitAt_10 (by decide) ?_
  have J_12 : ∀ (x12_0 : Int32), x12_0 = (if R_5 < (nI 48) then (-1) else (if (nI 57) < R_5 then (-1) else (R_5 - (nI 48)))) → zJ E 2 0 0 (WP cy p0 p1 x) 29 [(1, .int R_5), (0, .ref p0)] [.int x12_0] := by
    intro x12_0 hx12_0
    subst hx12_0
    subst hR_5
    have e : f_X5_digitAt x = (if (f_X5_signAt x (gPd_at x)) < (nI 48) then (-1) else (if (nI 57) < (f_X5_signAt x (gPd_at x)) then (-1) else ((f_X5_signAt x (gPd_at x)) - (nI 48)))) := by rfl
    rw [e] at hret
    exact hret _ _ dX5_digitAt_29
  refine zj_icmp_lt C 28 dX5_digitAt_12 (by decide) (fun c => ?_) (fun c => ?_)
  · have c_12 : R_5 < (nI 48) := c
    refine zj_iconst C (v := (-1)) dX5_digitAt_28 (by decide) ?_
    exact J_12 (-1) (by simp only [if_pos c_12]; first | done | assumption)
  · have c_12 : ¬ (R_5 < (nI 48)) := c
    refine zj_iload_n C dX5_digitAt_15 0 rfl ?_
    refine zj_bipush C (v := (nI 57)) dX5_digitAt_16 (by decide) ?_
    have J_18 : ∀ (x18_0 : Int32), x18_0 = (if (nI 57) < R_5 then (-1) else (R_5 - (nI 48))) → zJ E 2 0 0 (WP cy p0 p1 x) 29 [(1, .int R_5), (0, .ref p0)] [.int x18_0] := by
      intro x18_0 hx18_0
      subst hx18_0
      exact J_12 (if (nI 57) < R_5 then (-1) else (R_5 - (nI 48))) (by simp only [if_neg c_12]; first | done | assumption)
    refine zj_icmp_gt C 28 dX5_digitAt_18 (by decide) (fun c => ?_) (fun c => ?_)
    · have c_18 : (nI 57) < R_5 := c
      refine zj_iconst C (v := (-1)) dX5_digitAt_28 (by decide) ?_
      exact J_18 (-1) (by simp only [if_neg c_12, if_pos c_18]; first | done | assumption)
    · have c_18 : ¬ ((nI 57) < R_5) := c
      refine zj_iload_n C dX5_digitAt_21 0 rfl ?_
      refine zj_bipush C (v := (nI 48)) dX5_digitAt_22 (by decide) ?_
      refine zj_isub C dX5_digitAt_24 ?_
      refine zj_goto C 29 dX5_digitAt_25 (by decide) ?_
      exact J_18 (R_5 - (nI 48)) (by simp only [if_neg c_12, if_neg c_18]; first | done | assumption)

theorem xdig_lt {x : zPd} (h : 0 ≤ f_X5_digitAt x) : gPd_at x < gPd_n x := by
  rcases Nat.lt_or_ge (gPd_at x) (gPd_n x) with q | q
  · exact q
  · have e : f_X5_signAt x (gPd_at x) = 0 := by unfold f_X5_signAt; dsimp only; rw [if_pos q]; rfl
    unfold f_X5_digitAt at h
    dsimp only at h
    rw [e, if_pos (by decide)] at h
    exact absurd h (by decide)
