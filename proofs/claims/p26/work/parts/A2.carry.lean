/-! one order of a text, both sides alike -/
theorem opR_mono {D D' : Int} {T : zTr} {S : zMs} {b : Bool} {c : Int32 × zTr} {m : Int32 × zMs} {ad a5 a5' : Int} (h : opR D T S b c m ad a5) (hD : D ≤ D') (ha : a5 ≤ a5') : opR D' T S b c m ad a5' := by
  obtain ⟨h1, h2⟩ := h
  refine ⟨h1, h2.imp id (fun ⟨q1, A, sm, q2, q3, q4, q5, q6⟩ => ⟨q1, A, sm, q2, q3, Inv_mono hD q4, q5, by omega⟩)⟩
/-- what an order may add -/
noncomputable def aMt (z : zPd) : Int := if gPd_kd z = nI 98 ∨ gPd_kd z = nI 105 then (if 0 ≤ (gPd_nu z).toInt then 5 * (gPd_nu z).toInt else 0) else 0
theorem aMt_nn (z : zPd) : 0 ≤ aMt z := by
  unfold aMt
  split
  · split <;> omega
  · omega
theorem carry_op {D : Int} {T : zTr} {Y : zMs} {z : zPd} {k : Nat} (x : zDd) (hI : Inv D T) (hD : D ≤ 2000000000) (hg : gP 50000 T ≤ 10700000000) (hR : RTr T (gMs_at Y)) (hr : recd z Y k) : opR (D + 1) T Y false ((f_X7_carryOutOrder T x z).1, (f_X7_carryOutOrder T x z).2.1) (f_X8_carry Y k) 20000000 (aMt z) := by
  obtain ⟨r1, r2, r3⟩ := hr
  have hnn := aMt_nn z
  unfold f_X7_carryOutOrder f_X8_carry
  rw [zsl_e, zsl_e, r1]
  by_cases c1 : gPd_kd z = nI 98
  · obtain ⟨n1, n2, n3⟩ := r2 (Or.inl c1)
    rw [if_pos c1, if_pos c1, n1, n2, n3]
    refine opR_mono (buy_op (gPd_ho z) (gPd_nu z) (gPd_hr z) false hI hD hR) (by omega) ?_
    unfold aMt
    rw [if_pos (Or.inl c1)]
    exact Int.le_refl _
  rw [if_neg c1, if_neg c1]
  by_cases c2 : gPd_kd z = nI 100
  · rw [if_pos c2, if_pos c2]
    exact opR_mono (end_op x false hI hD hg hR).1 (Int.le_refl _) hnn
  rw [if_neg c2, if_neg c2]
  by_cases c3 : gPd_kd z = nI 105
  · have n1 := r3 (Or.inl c3)
    rw [if_pos c3, if_pos c3, n1]
    refine opR_mono (income_op (gPd_nu z) false hI hR hg) (by omega) ?_
    unfold aMt
    rw [if_pos (Or.inr c3)]
    exact Int.le_refl _
  rw [if_neg c3, if_neg c3]
  by_cases c4 : gPd_kd z = nI 108
  · obtain ⟨n1, n2, n3⟩ := r2 (Or.inr c4)
    rw [if_pos c4, if_pos c4, n1, n2, n3]
    exact opR_mono (leave_op (gPd_ho z) (gPd_nu z) (gPd_hr z) false hI hD hR) (by omega) hnn
  rw [if_neg c4, if_neg c4]
  by_cases c5 : gPd_kd z = nI 113
  · have n1 := r3 (Or.inr c5)
    rw [if_pos c5, if_pos c5, n1]
    exact opR_mono (quote_op (gPd_nu z) false hI hR) (by omega) hnn
  rw [if_neg c5, if_neg c5]
  exact opR_mono (pay_op false hI hR hg) (by omega) hnn
/-- what a reading tells of itself -/
theorem read_bd {x : zPd} (hz : zpd x) (h : (f_X5_readOrder x).1 = true) : gPd_at x + 1 ≤ gPd_at (f_X5_readOrder x).2 ∧ gPd_at (f_X5_readOrder x).2 ≤ gPd_n x ∧ aBd (f_X5_readOrder x).2 (gPd_at x) := by
  have hS : ∃ S : zMs, PR x S ∧ gPd_at x = gMs_sp S ∧ gMs_wr S = false := by
    have S0 : zMs := (fun _ => 0, fun _ => 0, 0, 0, fun _ => 0, fun _ => 0, fun _ => 0, fun _ => 0, fun _ => 0, 0, 0, false, 0, fun _ => 0, fun _ => 0)
    exact ⟨sMs_wr (sMs_sp (sMs_pdm (sMs_pd S0 (gPd_sg x)) (gPd_n x)) (gPd_at x)) false, ⟨rfl, hz.1, fun i _ => rfl, hz.2.2⟩, rfl, rfl⟩
  obtain ⟨S, h1, h2, h3⟩ := hS
  obtain ⟨o1, o2, o3⟩ := order_sim h1 h2 hz.2.1 h3
  obtain ⟨p1, p2, p3, p4, p5, p6, p7⟩ := o2 h
  exact ⟨p6, (zk_order hz).2.2.2, p7⟩
theorem aMt_bd {z : zPd} {a : Nat} (h : aBd z a) (ha : a ≤ gPd_at z) : aMt z ≤ 625000 * ((gPd_at z : Int) - (a : Int) + 1) ∧ aMt z ≤ 5000000 := by
  unfold aMt
  by_cases c : gPd_kd z = nI 98 ∨ gPd_kd z = nI 105
  · obtain ⟨h1, h2, h3⟩ := h c
    rw [if_pos c, if_pos h1]
    omega
  · rw [if_neg c]
    omega
theorem skip_at {x : zPd} (hz : zpd x) : zpk x (f_X5_skip x (nI 59)).2 ∧ ((f_X5_skip x (nI 59)).1 = true → gPd_at (f_X5_skip x (nI 59)).2 = gPd_at x + 1) := by
  refine ⟨zk_skip (by decide) hz, ?_⟩
  unfold f_X5_skip
  rw [zsl_e]
  dsimp only
  by_cases c : f_X5_signAt x (gPd_at x) = nI 59
  · rw [if_pos c]
    exact fun _ => rfl
  · rw [if_neg c]
    exact fun q => (by cases q)
/-- a text, carried out on both sides -/
theorem carry_sim (T4 : zPd) {S1 M : zMs} (e1 : gMs_so S1 = gMs_so M) (e2 : gMs_nu S1 = gMs_nu M) (e3 : gMs_od S1 = gMs_od M) {D G : Int} (hD : D ≤ 1000000000) (hG : G + 625000 * 81 ≤ 10700000000) : ∀ (m k : Nat) (Xd : zDd) (X : zTr) (Z : zPd) (A sm : Nat → Int64) (f : Nat), k + m = 80 → zpd Z → 2 * k ≤ gPd_at Z → Rec M (m + 1) Z k → gMs_od M - k < f → RTr X A → Inv (D + (k : Int)) X → gP 50000 X ≤ G + 625000 * (gPd_at Z : Int) →
    (L_X7_carry T4 (m + 1) Xd X Z k).1 = true ∧ (L_X7_carry T4 (m + 1) Xd X Z k).2.1 = nI (L_X8_carry f (sMs_sh (sMs_at S1 A) sm) k).2 ∧ (L_X8_carry f (sMs_sh (sMs_at S1 A) sm) k).2 ≤ 81 ∧ (∀ i, gPd_sg (L_X7_carry T4 (m + 1) Xd X Z k).2.2.2.2.1 i = gPd_sg Z i) ∧
    ∃ A' sm' : Nat → Int64, (L_X8_carry f (sMs_sh (sMs_at S1 A) sm) k).1 = sMs_sh (sMs_at S1 A') sm' ∧ RTr (L_X7_carry T4 (m + 1) Xd X Z k).2.2.2.1 A' ∧ Inv (D + 81) (L_X7_carry T4 (m + 1) Xd X Z k).2.2.2.1 ∧ gP 50000 (L_X7_carry T4 (m + 1) Xd X Z k).2.2.2.1 ≤ G + 625000 * ((gPd_n Z : Int) + 1) := by
  intro m
  induction m with
  | zero =>
    intro k Xd X Z A sm f hk hz h2k hrec hf hR hI hg
    have q := read_bd hz hrec.1
    have := hz.1
    omega
  | succ m ih =>
    intro k Xd X Z A sm f hk hz h2k hrec hf hR hI hg
    have hod := Rec_od _ _ _ hrec
    obtain ⟨h1, h2, h3⟩ := hrec
    obtain ⟨b1, b2, b3⟩ := read_bd hz h1
    have hn80 := hz.1
    have hzk := zk_order hz
    have hz2 := zpd_of hz hzk
    obtain ⟨k1, k2⟩ := skip_at hz2
    obtain ⟨a1, a2⟩ := aMt_bd b3 (by omega)
    obtain ⟨g, rfl⟩ : ∃ g, f = g + 1 := ⟨f - 1, by omega⟩
    have hrd : recd (f_X5_readOrder Z).2 (sMs_sh (sMs_at S1 A) sm) k := by
      unfold recd
      rw [show gMs_so (sMs_sh (sMs_at S1 A) sm) = gMs_so M from e1, show gMs_nu (sMs_sh (sMs_at S1 A) sm) = gMs_nu M from e2]
      exact h2
    have hop := carry_op (Y := sMs_sh (sMs_at S1 A) sm) Xd hI (by omega) (by omega) hR hrd
    have hodY : ¬ gMs_od (sMs_sh (sMs_at S1 A) sm) ≤ k := by
      rw [show gMs_od (sMs_sh (sMs_at S1 A) sm) = gMs_od M from e3]
      omega
    have eX : L_X7_carry T4 (m + 1 + 1) Xd X Z k = (if 0 ≤ (f_X7_carryOutOrder X Xd (f_X5_readOrder Z).2).1 then (if (f_X5_skip (f_X5_readOrder Z).2 (nI 59)).1 = false then (true, (nI (k + 1)), (f_X7_carryOutOrder X Xd (f_X5_readOrder Z).2).2.2, (f_X7_carryOutOrder X Xd (f_X5_readOrder Z).2).2.1, (f_X5_skip (f_X5_readOrder Z).2 (nI 59)).2, k) else L_X7_carry T4 (m + 1) (f_X7_carryOutOrder X Xd (f_X5_readOrder Z).2).2.2 (f_X7_carryOutOrder X Xd (f_X5_readOrder Z).2).2.1 (f_X5_skip (f_X5_readOrder Z).2 (nI 59)).2 (k + 1)) else (true, (nI k), (f_X7_carryOutOrder X Xd (f_X5_readOrder Z).2).2.2, (f_X7_carryOutOrder X Xd (f_X5_readOrder Z).2).2.1, (f_X5_readOrder Z).2, k)) := by
      rw [L_X7_carry_s, if_neg (c := 80 ≤ k) (by omega)]
      dsimp only
      rw [if_neg (c := (f_X5_readOrder Z).1 = false) (by rw [h1]; decide)]
    have eY : L_X8_carry (g + 1) (sMs_sh (sMs_at S1 A) sm) k = (if (f_X8_carry (sMs_sh (sMs_at S1 A) sm) k).1 < 0 then ((f_X8_carry (sMs_sh (sMs_at S1 A) sm) k).2, k) else L_X8_carry g (f_X8_carry (sMs_sh (sMs_at S1 A) sm) k).2 (k + 1)) := by
      rw [L_X8_carry_s, if_neg hodY]
    rw [eX, eY]
    clear eX eY
    generalize f_X7_carryOutOrder X Xd (f_X5_readOrder Z).2 = cr at hop ⊢
    generalize f_X8_carry (sMs_sh (sMs_at S1 A) sm) k = cm at hop ⊢
    obtain ⟨p1, p2⟩ := hop
    have p1' : cr.1 = cm.1 := p1
    rcases p2 with ⟨q1, q2, q3⟩ | ⟨q1, A2, sm2, q2, q3, q4, q5, q6⟩
    · have q1' : cr.1.toInt < 0 := q1
      have q2' : cr.2.1 = X := q2
      rw [if_neg (show ¬ 0 ≤ cr.1 by rw [i32_le_iff]; have z0 : (0 : Int32).toInt = 0 := rfl; omega), if_pos (show cm.1 < 0 by rw [← p1', sw_0]; exact q1'), q3]
      refine ⟨rfl, rfl, by show k ≤ 81; omega, fun i => by rw [hzk.2.1], A, sm, rfl, ?_, ?_, ?_⟩
      · show RTr cr.2.1 A
        rw [q2']; exact hR
      · show Inv (D + 81) cr.2.1
        rw [q2']; exact Inv_mono (by omega) hI
      · show gP 50000 cr.2.1 ≤ _
        rw [q2']; omega
    · have q1' : 0 ≤ cr.1.toInt := q1
      have q2' : cm.2 = sMs_sh (sMs_at S1 A2) sm2 := q2
      have q3' : RTr cr.2.1 A2 := q3
      have q4' : Inv (D + (k : Int) + 1) cr.2.1 := q4
      have q6' : gP 50000 cr.2.1 ≤ gP 50000 X + aMt (f_X5_readOrder Z).2 := q6
      rw [if_pos (show 0 ≤ cr.1 by rw [i32_le_iff]; exact q1'), if_neg (show ¬ cm.1 < 0 by rw [← p1', sw_0]; omega), q2']
      rcases h3 with ⟨w1, w2⟩ | ⟨w1, w2, w3⟩
      · rw [if_pos w1]
        obtain ⟨g2, rfl⟩ : ∃ g2, g = g2 + 1 := ⟨g - 1, by omega⟩
        have eS : L_X8_carry (g2 + 1) (sMs_sh (sMs_at S1 A2) sm2) (k + 1) = (sMs_sh (sMs_at S1 A2) sm2, k + 1) := by
          rw [L_X8_carry_s, if_pos (by rw [show gMs_od (sMs_sh (sMs_at S1 A2) sm2) = gMs_od M from e3]; omega)]
        rw [eS]
        refine ⟨rfl, rfl, by show k + 1 ≤ 81; omega, fun i => by rw [k1.2.1, hzk.2.1], A2, sm2, rfl, q3', Inv_mono (by omega) q4', ?_⟩
        show gP 50000 cr.2.1 ≤ _
        omega
      · rw [if_neg (by rw [w1]; decide)]
        have hs := k2 w1
        have hsn := k1.1
        have hnn := hzk.1
        have q4'' : Inv (D + ((k + 1 : Nat) : Int)) cr.2.1 := by
          have e : D + (k : Int) + 1 = D + ((k + 1 : Nat) : Int) := by omega
          rw [← e]
          exact q4'
        obtain ⟨i1, i2, i3, i4, i5⟩ := ih (k + 1) cr.2.2 cr.2.1 (f_X5_skip (f_X5_readOrder Z).2 (nI 59)).2 A2 sm2 g (by omega) (zpd_of hz2 k1) (by omega) w3 (by omega) q3' q4'' (by omega)
        refine ⟨i1, i2, i3, fun i => by rw [i4, k1.2.1, hzk.2.1], ?_⟩
        rw [hsn, hnn] at i5
        exact i5
