/-! reading an order, both sides alike -/
theorem PR_x {x x' : zPd} {S S' : zMs} (hP : PR x S) (h1 : gPd_n x' = gPd_n x) (h2 : gPd_sg x' = gPd_sg x) (h3 : gMs_pdm S' = gMs_pdm S) (h4 : gMs_pd S' = gMs_pd S) : PR x' S' := by
  unfold PR
  rw [h1, h2, h3, h4]; exact hP
theorem sign_w {S : zMs} {sg : Int32} (h : gMs_wr S = true) : gMs_wr (f_X8_takeSign S sg) = true ∧ gMs_sp (f_X8_takeSign S sg) = gMs_sp S := by
  unfold f_X8_takeSign
  dsimp only
  rw [if_neg (c := gMs_wr S = false) (by rw [h]; decide)]
  exact ⟨rfl, rfl⟩
theorem num_w2 {S : zMs} {pl : Nat} {hi : Int32} (h : gMs_wr S = true) : gMs_wr (f_X8_takeNumber S pl hi) = true ∧ gMs_sp (f_X8_takeNumber S pl hi) = gMs_sp S := by
  unfold f_X8_takeNumber
  rw [zsl_e]
  dsimp only
  rw [if_neg (c := gMs_wr S = false) (by rw [h]; decide), if_neg (by decide)]
  exact ⟨rfl, rfl⟩
theorem num_pd (S : zMs) (pl : Nat) (hi : Int32) : gMs_pdm (f_X8_takeNumber S pl hi) = gMs_pdm S ∧ gMs_pd (f_X8_takeNumber S pl hi) = gMs_pd S := by
  unfold f_X8_takeNumber
  rw [zsl_e]
  dsimp only
  generalize (if gMs_wr S = false then (if f_X8_in (f_X8_next S).toInt64 48 57 = false then true else false) else true) = b
  by_cases c : b = false
  · rw [if_pos c]; exact ⟨rfl, rfl⟩
  · rw [if_neg c]; exact ⟨rfl, rfl⟩
theorem sign_sim {x : zPd} {S : zMs} (sg : Int32) (hP : PR x S) (hat : gPd_at x = gMs_sp S) (hw : gMs_wr S = false) :
    (f_X5_signAt x (gPd_at x) = sg ∧ f_X5_skip x sg = (true, sPd_at x (gPd_at x + 1)) ∧ f_X8_takeSign S sg = sMs_sp S (gPd_at x + 1)) ∨ (¬ f_X5_signAt x (gPd_at x) = sg ∧ f_X5_skip x sg = (false, x) ∧ gMs_wr (f_X8_takeSign S sg) = true ∧ gMs_sp (f_X8_takeSign S sg) = gPd_at x) := by
  have hn := next_sign hP
  rw [← hat] at hn
  unfold f_X5_skip f_X8_takeSign
  rw [zsl_e]
  dsimp only
  rw [if_pos hw, hn]
  by_cases c : f_X5_signAt x (gPd_at x) = sg
  · refine Or.inl ⟨c, by rw [if_pos c], ?_⟩
    rw [if_pos c, if_pos rfl, hat, ← hw]
  · refine Or.inr ⟨c, by rw [if_neg c], ?_, ?_⟩
    · rw [if_neg c]
    · rw [if_neg c, hat]; rfl
theorem hold_iff {x : zPd} : f_X7_isHolder (f_X5_digitAt x) = false ↔ f_X8_in (f_X5_signAt x (gPd_at x)).toInt64 48 53 = false := by
  have z1 : (-1 : Int32).toInt = -1 := rfl
  have z2 : (0 : Int64).toInt = 0 := rfl
  have z3 : (5 : Int64).toInt = 5 := rfl
  have z4 : (48 : Int64).toInt = 48 := rfl
  have z5 : (53 : Int64).toInt = 53 := rfl
  rw [← holder_eq]
  show f_X8_in (f_X5_digitAt x).toInt64 0 5 = false ↔ _
  rw [in_false, in_false, i32_l, i32_l, z2, z3, z4, z5]
  by_cases h : isD (f_X5_signAt x (gPd_at x))
  · rw [dig_yes h, dig_int h]
    omega
  · rw [dig_no h, z1]
    unfold isD at h
    omega
theorem next_D {x : zPd} {S : zMs} (hP : PR x S) (sg : Int32) (hs : ¬ isD sg) (hf : failS x S) (hw : gMs_wr S = false) : ¬ f_X8_next S = sg := by
  rcases hf with h | ⟨-, h⟩
  · rw [hw] at h; cases h
  · rw [next_sign hP]
    intro e
    rw [e] at h
    exact hs h
/-- what a reading of a deal leaves on both sides -/
def dealR (x : zPd) (S : zMs) (r : Bool × zPd) (S' : zMs) : Prop :=
  gPd_at r.2 = gMs_sp S' ∧ gPd_kd r.2 = gPd_kd x ∧
    (r.1 = true → gMs_wr S' = false ∧ (∀ i, gMs_nu S' i = if i = 3 * gMs_od S + 2 then gPd_hr r.2 else if i = 3 * gMs_od S + 1 then gPd_nu r.2 else if i = 3 * gMs_od S then gPd_ho r.2 else gMs_nu S i) ∧ gMs_so S' = gMs_so S ∧ gMs_od S' = gMs_od S ∧ 0 ≤ (gPd_nu r.2).toInt ∧ (gPd_nu r.2).toInt ≤ 125000 * ((gPd_at r.2 : Int) - (gPd_at x : Int)) ∧ (gPd_nu r.2).toInt ≤ 1000000) ∧
    (r.1 = false → failS x S')
theorem dealR_no {x : zPd} {S : zMs} {x' : zPd} {S' : zMs} (h1 : gPd_at x' = gMs_sp S') (h2 : gPd_kd x' = gPd_kd x) (h3 : failS x S') : dealR x S (false, x') S' := ⟨h1, h2, fun z => (by cases z), fun _ => h3⟩
theorem upd3 (f : Nat → Int32) (k : Nat) (a b c : Int32) (i : Nat) : upd (upd (upd f k a) (k + 1) b) (k + 2) c i = if i = k + 2 then c else if i = k + 1 then b else if i = k then a else f i := by
  rw [upd_at, upd_at, upd_at]
theorem deal_sim {x : zPd} {S : zMs} (hP : PR x S) (hat : gPd_at x = gMs_sp S) (hle : gPd_at x ≤ gPd_n x) (hw : gMs_wr S = false) : dealR x S (f_X5_readDeal x) (f_X8_takeOrdering S) := by
  unfold f_X5_readDeal f_X8_takeOrdering
  rw [zsl_e, zsl_e]
  dsimp only
  have hn : f_X8_next S = f_X5_signAt x (gPd_at x) := by rw [next_sign hP, ← hat]
  by_cases ch : f_X7_isHolder (f_X5_digitAt x) = false
  · rw [if_pos ch]
    have c2 := hold_iff.mp ch
    have t1 : gMs_wr (f_X8_takeHolder S) = true ∧ gMs_sp (f_X8_takeHolder S) = gPd_at x := by
      unfold f_X8_takeHolder
      dsimp only
      rw [if_pos hw, hn, if_pos c2, if_neg (by decide)]
      exact ⟨rfl, hat.symm⟩
    generalize f_X8_takeHolder S = T1 at t1 ⊢
    obtain ⟨t2, t3⟩ := sign_w (sg := nI 58) t1.1
    generalize f_X8_takeSign T1 (nI 58) = T2 at t2 t3 ⊢
    obtain ⟨t4, t5⟩ := num_w2 (pl := 1) (hi := nI 1000000) t2
    generalize f_X8_takeNumber T2 1 (nI 1000000) = T3 at t4 t5 ⊢
    rw [if_neg (c := gMs_wr T3 = false) (by rw [t4]; decide)]
    exact dealR_no (t1.2.symm.trans (t3.symm.trans t5.symm)) rfl (Or.inl t4)
  rw [if_neg ch]
  have c2 : ¬ f_X8_in (f_X5_signAt x (gPd_at x)).toInt64 48 53 = false := fun q => ch (hold_iff.mpr q)
  have hD : isD (f_X5_signAt x (gPd_at x)) := by
    have q := c2
    rw [in_false, i32_l, Classical.not_not] at q
    have z4 : (48 : Int64).toInt = 48 := rfl
    have z5 : (53 : Int64).toInt = 53 := rfl
    unfold isD
    omega
  have hlt := isD_lt hD
  have ht1 : f_X8_takeHolder S = sMs_nu (sMs_sp S (gPd_at x + 1)) (upd (gMs_nu S) (3 * gMs_od S) (f_X5_digitAt x)) := by
    have hn2 : f_X8_next (sMs_wr S false) = f_X5_signAt x (gPd_at x) := by
      have q := next_sign (S := sMs_wr S false) hP
      rw [q]
      exact congrArg _ hat.symm
    unfold f_X8_takeHolder
    dsimp only
    rw [if_pos hw, hn, if_neg c2, if_pos rfl, if_pos rfl, hn2, dig_yes hD, hat, ← hw]
  rw [ht1]
  generalize f_X5_digitAt x = R2
  generalize hx1 : sPd_ho (sPd_at x (gPd_at x + 1)) R2 = x1
  generalize hS1 : sMs_nu (sMs_sp S (gPd_at x + 1)) (upd (gMs_nu S) (3 * gMs_od S) R2) = S1
  have hP1 : PR x1 S1 := by rw [← hx1, ← hS1]; exact PR_x hP rfl rfl rfl rfl
  have a1 : gPd_at x1 = gPd_at x + 1 := by rw [← hx1]
  have b1 : gMs_sp S1 = gPd_at x + 1 := by rw [← hS1]
  have w1 : gMs_wr S1 = false := by rw [← hS1]; exact hw
  have k1 : gPd_kd x1 = gPd_kd x := by rw [← hx1]
  have o1 : gPd_ho x1 = R2 := by rw [← hx1]
  have n1 : gPd_n x1 = gPd_n x ∧ ∀ p, f_X5_signAt x1 p = f_X5_signAt x p := by rw [← hx1]; exact ⟨rfl, fun p => rfl⟩
  have m1 : gMs_nu S1 = upd (gMs_nu S) (3 * gMs_od S) R2 ∧ gMs_so S1 = gMs_so S ∧ gMs_od S1 = gMs_od S := by rw [← hS1]; exact ⟨rfl, rfl, rfl⟩
  clear hx1 hS1 ht1
  rcases sign_sim (nI 58) hP1 (a1.trans b1.symm) w1 with ⟨s1, s2, s3⟩ | ⟨s1, s2, s3, s4⟩
  · rw [s2, s3]
    dsimp only
    rw [if_neg (show ¬ true = false by decide), a1]
    have s1lt : gPd_at x + 1 < gPd_n x := by
      rw [a1, n1.2] at s1
      refine xsign_lt (x := x) (fun q => ?_)
      rw [q] at s1
      exact absurd s1 (by decide)
    generalize hx2 : sPd_at x1 (gPd_at x + 1 + 1) = x2
    generalize hS2 : sMs_sp S1 (gPd_at x + 1 + 1) = S2
    have hP2 : PR x2 S2 := by rw [← hx2, ← hS2]; exact PR_x hP1 rfl rfl rfl rfl
    have a2 : gPd_at x2 = gPd_at x + 2 := by rw [← hx2]
    have b2 : gMs_sp S2 = gPd_at x + 2 := by rw [← hS2]
    have w2 : gMs_wr S2 = false := by rw [← hS2]; exact w1
    have k2 : gPd_kd x2 = gPd_kd x := by rw [← hx2]; exact k1
    have o2 : gPd_ho x2 = R2 := by rw [← hx2]; exact o1
    have n2 : gPd_n x2 = gPd_n x ∧ ∀ p, f_X5_signAt x2 p = f_X5_signAt x p := by rw [← hx2]; exact n1
    have m2 : gMs_nu S2 = upd (gMs_nu S) (3 * gMs_od S) R2 ∧ gMs_so S2 = gMs_so S ∧ gMs_od S2 = gMs_od S := by rw [← hS2]; exact m1
    clear hx2 hS2
    obtain ⟨p, q1, q2, q3, q4, q5⟩ := number_sim (pl := 1) (gr := nI 1000000) hP2 (a2.trans b2.symm) (by omega) w2 (by decide)
    generalize f_X5_readNumber x2 (nI 1000000) = rn at q1 q5 ⊢
    rcases q5 with ⟨v1, v2, v3, v4, v5⟩ | ⟨v1, v2⟩
    · rw [v2, q1, if_pos (show 0 ≤ rn.1 by rw [i32_le_iff]; exact v1), if_pos (show gMs_wr (sMs_nu (sMs_sp S2 p) (upd (gMs_nu S2) (3 * gMs_od S2 + 1) rn.1)) = false from w2)]
      generalize hx3 : sPd_nu (sPd_at x2 p) rn.1 = x3
      generalize hS3 : sMs_nu (sMs_nu (sMs_sp S2 p) (upd (gMs_nu S2) (3 * gMs_od S2 + 1) rn.1)) (upd (gMs_nu (sMs_nu (sMs_sp S2 p) (upd (gMs_nu S2) (3 * gMs_od S2 + 1) rn.1))) (3 * gMs_od (sMs_nu (sMs_sp S2 p) (upd (gMs_nu S2) (3 * gMs_od S2 + 1) rn.1)) + 2) (nI 0)) = S3
      generalize hS4 : sMs_nu (sMs_sp (sMs_nu (sMs_sp S2 p) (upd (gMs_nu S2) (3 * gMs_od S2 + 1) rn.1)) (gMs_sp (sMs_nu (sMs_sp S2 p) (upd (gMs_nu S2) (3 * gMs_od S2 + 1) rn.1)) + 1)) (upd (gMs_nu (sMs_nu (sMs_sp S2 p) (upd (gMs_nu S2) (3 * gMs_od S2 + 1) rn.1))) (3 * gMs_od (sMs_nu (sMs_sp S2 p) (upd (gMs_nu S2) (3 * gMs_od S2 + 1) rn.1)) + 2) (nI 0)) = S4
      have hP3 : PR x3 S3 := by rw [← hx3, ← hS3]; exact PR_x hP2 rfl rfl rfl rfl
      have a3 : gPd_at x3 = p := by rw [← hx3]
      have b3 : gMs_sp S3 = p := by rw [← hS3]
      have w3 : gMs_wr S3 = false := by rw [← hS3]; exact w2
      have k3 : gPd_kd x3 = gPd_kd x := by rw [← hx3]; exact k2
      have o3 : gPd_ho x3 = R2 ∧ gPd_nu x3 = rn.1 := by rw [← hx3]; exact ⟨o2, rfl⟩
      have n3 : gPd_n x3 = gPd_n x ∧ ∀ p, f_X5_signAt x3 p = f_X5_signAt x p := by rw [← hx3]; exact n2
      have hod : gMs_od S2 = gMs_od S := m2.2.2
      have m3 : gMs_nu S3 = upd (upd (upd (gMs_nu S) (3 * gMs_od S) R2) (3 * gMs_od S + 1) rn.1) (3 * gMs_od S + 2) (nI 0) ∧ gMs_so S3 = gMs_so S ∧ gMs_od S3 = gMs_od S := by
        rw [← hS3]
        refine ⟨?_, m2.2.1, m2.2.2⟩
        show upd (upd (gMs_nu S2) (3 * gMs_od S2 + 1) rn.1) (3 * gMs_od S2 + 2) (nI 0) = _
        rw [m2.1, hod]
      have h4 : PR x3 S4 ∧ gMs_sp S4 = p + 1 ∧ gMs_wr S4 = false ∧ gMs_nu S4 = gMs_nu S3 ∧ gMs_so S4 = gMs_so S ∧ gMs_od S4 = gMs_od S := by
        rw [← hS4, ← hS3, ← hx3]
        exact ⟨PR_x hP2 rfl rfl rfl rfl, rfl, w2, rfl, m2.2.1, m2.2.2⟩
      clear hx3 hS3 hS4 v2 q1 q2
      have hn3 := next_sign hP3
      rw [b3] at hn3
      rw [hn3]
      have n1b := n2.1
      rcases sign_sim (nI 64) hP3 (a3.trans b3.symm) w3 with ⟨t1, t2, -⟩ | ⟨t1, t2, -, -⟩
      · rw [a3] at t1 t2
        rw [t2, if_pos t1]
        dsimp only
        rw [if_neg (show ¬ true = false by decide), if_neg (show ¬ true = false by decide)]
        have t1lt : p < gPd_n x := by
          rw [n3.2] at t1
          refine xsign_lt (x := x) (fun q => ?_)
          rw [q] at t1
          exact absurd t1 (by decide)
        generalize hx4 : sPd_at x3 (p + 1) = x4
        obtain ⟨hP4', b4, w4, m4, so4, od4⟩ := h4
        have hP4 : PR x4 S4 := by rw [← hx4]; exact PR_x hP4' rfl rfl rfl rfl
        have a4 : gPd_at x4 = p + 1 := by rw [← hx4]
        have e4 : gPd_kd x4 = gPd_kd x ∧ gPd_ho x4 = R2 ∧ gPd_nu x4 = rn.1 ∧ gPd_n x4 = gPd_n x ∧ ∀ p, f_X5_signAt x4 p = f_X5_signAt x p := by rw [← hx4]; exact ⟨k3, o3.1, o3.2, n3.1, n3.2⟩
        clear hx4
        obtain ⟨r, y1, y2, y3, y4, y5⟩ := number_sim (pl := 2) (gr := nI 23) hP4 (a4.trans b4.symm) (by omega) w4 (by decide)
        generalize f_X5_readNumber x4 (nI 23) = rh at y1 y5 ⊢
        rw [y1]
        rcases y5 with ⟨u1, u2, u3, u4, u5⟩ | ⟨u1, u2⟩
        · rw [if_neg (show ¬ rh.1 < 0 by rw [sw_0]; omega), u2]
          refine ⟨rfl, e4.1, fun _ => ⟨w4, fun i => ?_, so4, od4, ?_, ?_, ?_⟩, fun z => (by cases z)⟩
          · show upd (gMs_nu S4) (3 * gMs_od S4 + 2) rh.1 i = if i = 3 * gMs_od S + 2 then rh.1 else if i = 3 * gMs_od S + 1 then gPd_nu x4 else if i = 3 * gMs_od S then gPd_ho x4 else gMs_nu S i
            rw [m4, m3.1, od4, e4.2.1, e4.2.2.1, upd_at, upd3]
            by_cases ci : i = 3 * gMs_od S + 2
            · rw [if_pos ci, if_pos ci]
            · rw [if_neg ci, if_neg ci, if_neg ci]
          · show 0 ≤ (gPd_nu x4).toInt
            rw [e4.2.2.1]; exact v1
          · show (gPd_nu x4).toInt ≤ 125000 * ((r : Int) - (gPd_at x : Int))
            rw [e4.2.2.1]
            omega
          · show (gPd_nu x4).toInt ≤ 1000000
            rw [e4.2.2.1]; exact v4
        · rw [u1, if_pos (show (-1 : Int32) < 0 by decide)]
          exact dealR_no y2.symm e4.1 (u2.imp id (fun q => ⟨q.1, by rw [← e4.2.2.2.2]; exact q.2⟩))
      · rw [a3] at t1
        rw [t2, if_neg t1]
        dsimp only
        rw [if_pos rfl, if_pos rfl, if_neg (show ¬ (nI 0 : Int32) < 0 by decide)]
        refine ⟨a3.trans b3.symm, k3, fun _ => ⟨w3, fun i => ?_, m3.2.1, m3.2.2, ?_, ?_, ?_⟩, fun z => (by cases z)⟩
        · show gMs_nu S3 i = if i = 3 * gMs_od S + 2 then nI 0 else if i = 3 * gMs_od S + 1 then gPd_nu x3 else if i = 3 * gMs_od S then gPd_ho x3 else gMs_nu S i
          rw [m3.1, o3.1, o3.2, upd3]
        · show 0 ≤ (gPd_nu x3).toInt
          rw [o3.2]; exact v1
        · show (gPd_nu x3).toInt ≤ 125000 * ((gPd_at x3 : Int) - (gPd_at x : Int))
          rw [o3.2, a3]
          omega
        · show (gPd_nu x3).toInt ≤ 1000000
          rw [o3.2]; exact v4
    · have hf : failS x (f_X8_takeNumber S2 1 (nI 1000000)) := v2.imp id (fun q => ⟨q.1, by rw [← n2.2]; exact q.2⟩)
      have hPN : PR x2 (f_X8_takeNumber S2 1 (nI 1000000)) := PR_x hP2 rfl rfl (num_pd _ _ _).1 (num_pd _ _ _).2
      generalize f_X8_takeNumber S2 1 (nI 1000000) = N at q2 hf hPN ⊢
      rw [v1, if_neg (show ¬ (0 : Int32) ≤ -1 by decide), q1]
      have hr : dealR x S (false, sPd_nu (sPd_at x2 p) (-1)) (sMs_nu N (upd (gMs_nu N) (3 * gMs_od N + 2) (nI 0))) := dealR_no q2.symm k2 hf
      by_cases hwN : gMs_wr N = false
      · have h64 : ¬ f_X8_next (sMs_nu N (upd (gMs_nu N) (3 * gMs_od N + 2) (nI 0))) = nI 64 := by
          have e : f_X8_next (sMs_nu N (upd (gMs_nu N) (3 * gMs_od N + 2) (nI 0))) = f_X5_signAt x2 (gMs_sp N) := next_sign (S := sMs_nu N (upd (gMs_nu N) (3 * gMs_od N + 2) (nI 0))) (PR_x hPN rfl rfl rfl rfl)
          rw [e, n2.2]
          rcases hf with h | ⟨-, h⟩
          · rw [hwN] at h; cases h
          · intro w
            rw [w] at h
            unfold isD at h
            exact absurd h (by decide)
        rw [if_pos hwN, if_neg h64]
        exact hr
      · rw [if_neg hwN]
        exact hr
  · rw [s2]
    dsimp only
    rw [if_pos rfl]
    generalize f_X8_takeSign S1 (nI 58) = T2 at s3 s4 ⊢
    obtain ⟨t4, t5⟩ := num_w2 (pl := 1) (hi := nI 1000000) s3
    generalize f_X8_takeNumber T2 1 (nI 1000000) = T3 at t4 t5 ⊢
    rw [if_neg (c := gMs_wr T3 = false) (by rw [t4]; decide)]
    exact dealR_no (s4.symm.trans t5.symm) k1 (Or.inl t4)
