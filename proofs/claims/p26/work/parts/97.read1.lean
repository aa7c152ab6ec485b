/-! reading a number, both sides alike -/
def isD (v : Int32) : Prop := 48 ≤ v.toInt ∧ v.toInt ≤ 57
theorem next_sign {x : zPd} {S : zMs} (hP : PR x S) : f_X8_next S = f_X5_signAt x (gMs_sp S) := by
  unfold f_X8_next f_X5_signAt
  dsimp only
  by_cases c : gPd_n x ≤ gMs_sp S
  · rw [if_pos c, if_pos (by rw [← hP.1]; exact c)]
  · rw [if_neg c, if_neg (by rw [← hP.1]; exact c)]
    exact (hP.2.2.1 _ (by omega)).symm
theorem isD_lt {x : zPd} {p : Nat} (h : isD (f_X5_signAt x p)) : p < gPd_n x := by
  refine xsign_lt (fun q => ?_)
  unfold isD at h
  rw [q] at h
  exact absurd h (by decide)
theorem isD_0 {x : zPd} {p : Nat} (h : gPd_n x ≤ p) : ¬ isD (f_X5_signAt x p) := fun q => by
  have := isD_lt q
  omega
theorem in48 {v : Int32} : f_X8_in v.toInt64 48 57 = false ↔ ¬ isD v := by
  rw [in_false, i32_l]; exact Iff.rfl
theorem dig_yes {x : zPd} (h : isD (f_X5_signAt x (gPd_at x))) : f_X5_digitAt x = f_X5_signAt x (gPd_at x) - nI 48 := by
  unfold isD at h
  unfold f_X5_digitAt
  dsimp only
  have z1 : (nI 48).toInt = 48 := rfl
  have z2 : (nI 57).toInt = 57 := rfl
  rw [if_neg (by rw [i32_lt_iff, z1]; omega), if_neg (by rw [i32_lt_iff, z2]; omega)]
theorem dig_no {x : zPd} (h : ¬ isD (f_X5_signAt x (gPd_at x))) : f_X5_digitAt x = -1 := by
  unfold isD at h
  unfold f_X5_digitAt
  dsimp only
  have z1 : (nI 48).toInt = 48 := rfl
  have z2 : (nI 57).toInt = 57 := rfl
  by_cases c : f_X5_signAt x (gPd_at x) < nI 48
  · rw [if_pos c]
  · rw [if_neg c]
    rw [i32_lt_iff, z1] at c
    rw [if_pos (by rw [i32_lt_iff, z2]; omega)]
theorem dig_int {v : Int32} (h : isD v) : (v - nI 48).toInt = v.toInt - 48 := by
  unfold isD at h
  exact i32_sub rfl rfl (by omega) (by omega)
theorem num_w (S : zMs) (high : Int32) (m p : Nat) (v : Int32) : L_X8_num S high (m + 1) true p v = (true, p, v) := by
  rw [L_X8_num_s, if_neg (by decide)]
theorem num_sim (x : zPd) (gr R1 : Int32) (V : Nat) (R2 : Int32) (hg : gr.toInt ≤ 1000000) (S : zMs) (hP : PR x S) : ∀ (m q a : Nat) (val : Int32), q + m = gPd_n x → 0 ≤ val.toInt → val.toInt ≤ 1000000 → val.toInt < (10 : Int) ^ a →
    (L_X5_num x gr R1 V R2 (m + 1) q val (f_X5_digitAt (sPd_at x q))).2.2.1 = (L_X8_num S gr (m + 2) false q val).2.1 ∧ q ≤ (L_X8_num S gr (m + 2) false q val).2.1 ∧ (L_X8_num S gr (m + 2) false q val).2.1 ≤ gPd_n x ∧
    (((L_X5_num x gr R1 V R2 (m + 1) q val (f_X5_digitAt (sPd_at x q))).1 = false ∧ (L_X8_num S gr (m + 2) false q val).1 = false ∧ (L_X5_num x gr R1 V R2 (m + 1) q val (f_X5_digitAt (sPd_at x q))).2.2.2.1 = (L_X8_num S gr (m + 2) false q val).2.2 ∧ 0 ≤ (L_X8_num S gr (m + 2) false q val).2.2.toInt ∧ (L_X8_num S gr (m + 2) false q val).2.2.toInt ≤ 1000000 ∧ (L_X8_num S gr (m + 2) false q val).2.2.toInt < (10 : Int) ^ (a + ((L_X8_num S gr (m + 2) false q val).2.1 - q))) ∨
     ((L_X5_num x gr R1 V R2 (m + 1) q val (f_X5_digitAt (sPd_at x q))).1 = true ∧ (L_X5_num x gr R1 V R2 (m + 1) q val (f_X5_digitAt (sPd_at x q))).2.1 = -1 ∧ ((L_X8_num S gr (m + 2) false q val).1 = true ∨ ((L_X8_num S gr (m + 2) false q val).1 = false ∧ isD (f_X5_signAt x (L_X8_num S gr (m + 2) false q val).2.1))))) := by
  have key : ∀ (m q a : Nat) (val : Int32), q + m = gPd_n x → 0 ≤ val.toInt → val.toInt ≤ 1000000 → val.toInt < (10 : Int) ^ a → ¬ isD (f_X5_signAt x q) → L_X5_num x gr R1 V R2 (m + 1) q val (f_X5_digitAt (sPd_at x q)) = (false, 0, q, val, -1) ∧ L_X8_num S gr (m + 2) false q val = (false, q, val) := fun m q a val hq h0 h1 ha hD => by
    have e1 : f_X5_digitAt (sPd_at x q) = -1 := dig_no (x := sPd_at x q) hD
    have e2 : f_X8_next (sMs_wr (sMs_sp S q) false) = f_X5_signAt x q := next_sign (S := sMs_wr (sMs_sp S q) false) hP
    refine ⟨?_, ?_⟩
    · rw [e1, L_X5_num_s, if_pos (by decide)]
    · rw [L_X8_num_s, if_pos rfl, e2]
      by_cases c : val ≤ 0
      · rw [if_pos c]
      · rw [if_neg c, if_pos (in48.mpr hD)]
  intro m
  induction m with
  | zero =>
    intro q a val hq h0 h1 ha
    obtain ⟨k1, k2⟩ := key 0 q a val hq h0 h1 ha (isD_0 (by omega))
    rw [k1, k2]
    exact ⟨rfl, Nat.le_refl _, by show q ≤ gPd_n x; omega, Or.inl ⟨rfl, rfl, rfl, h0, h1, by show val.toInt < (10 : Int) ^ (a + (q - q)); rw [Nat.sub_self, Nat.add_zero]; exact ha⟩⟩
  | succ m ih =>
    intro q a val hq h0 h1 ha
    by_cases hD : isD (f_X5_signAt x q)
    · have e1 : f_X5_digitAt (sPd_at x q) = f_X5_signAt x q - nI 48 := dig_yes (x := sPd_at x q) hD
      have e2 : f_X8_next (sMs_wr (sMs_sp S q) false) = f_X5_signAt x q := next_sign (S := sMs_wr (sMs_sp S q) false) hP
      have e1i := dig_int hD
      have hD2 := hD
      unfold isD at hD2
      have hlt := isD_lt hD
      have z0 : (0 : Int32).toInt = 0 := rfl
      have c1 : ¬ f_X5_signAt x q - nI 48 < 0 := by rw [i32_lt_iff, e1i, z0]; omega
      by_cases c2 : val = 0
      · have q1 : L_X5_num x gr R1 V R2 (m + 1 + 1) q val (f_X5_digitAt (sPd_at x q)) = (true, -1, q, val, f_X5_signAt x q - nI 48) := by
          rw [e1, L_X5_num_s, if_neg c1, if_neg (by omega), if_pos c2]
        have q2 : L_X8_num S gr (m + 1 + 2) false q val = (false, q, val) := by
          rw [L_X8_num_s, if_pos rfl, if_pos (by rw [c2]; decide)]
        rw [q1, q2]
        exact ⟨rfl, Nat.le_refl _, by show q ≤ gPd_n x; omega, Or.inr ⟨rfl, rfl, Or.inr ⟨rfl, hD⟩⟩⟩
      · have c3 : ¬ val ≤ 0 := fun w => c2 (i32_eq_iff.mpr (by rw [i32_le_iff, z0] at w; rw [z0]; omega))
        have hpos : 0 < val.toInt := by rw [i32_le_iff, z0] at c3; omega
        have f1 : (nI 10 * val).toInt = 10 * val.toInt := i32_mul rfl rfl (by omega) (by omega)
        have f2 : (nI 10 * val + f_X5_signAt x q).toInt = 10 * val.toInt + (f_X5_signAt x q).toInt := i32_add f1 rfl (by omega) (by omega)
        have f3 : (nI 10 * val + f_X5_signAt x q - nI 48).toInt = 10 * val.toInt + (f_X5_signAt x q).toInt - 48 := i32_sub f2 rfl (by omega) (by omega)
        have f4 : nI 10 * val + (f_X5_signAt x q - nI 48) = nI 10 * val + f_X5_signAt x q - nI 48 := by
          rw [Int32.sub_eq_add_neg, Int32.sub_eq_add_neg, Int32.add_assoc]
        by_cases c4 : nI 10 * val + f_X5_signAt x q - nI 48 ≤ gr
        · have q1 : L_X5_num x gr R1 V R2 (m + 1 + 1) q val (f_X5_digitAt (sPd_at x q)) = L_X5_num x gr R1 V R2 (m + 1) (q + 1) (nI 10 * val + f_X5_signAt x q - nI 48) (f_X5_digitAt (sPd_at x (q + 1))) := by
            rw [e1, L_X5_num_s, if_neg c1, if_neg (by omega), if_neg c2, f4, if_pos c4]
          have q2 : L_X8_num S gr (m + 1 + 2) false q val = L_X8_num S gr (m + 2) false (q + 1) (nI 10 * val + f_X5_signAt x q - nI 48) := by
            rw [L_X8_num_s, if_pos rfl, if_neg c3, e2, if_neg (fun w => in48.mp w hD), if_pos c4]
            dsimp only
            rw [if_pos rfl, if_pos rfl, e2]
          rw [i32_le_iff] at c4
          have hpow : (10 : Int) ^ (a + 1) = (10 : Int) ^ a * 10 := Int.pow_succ 10 a
          obtain ⟨r1, r2, r3, r4⟩ := ih (q + 1) (a + 1) (nI 10 * val + f_X5_signAt x q - nI 48) (by omega) (by omega) (by omega) (by omega)
          rw [q1, q2]
          refine ⟨r1, by omega, r3, ?_⟩
          rcases r4 with ⟨w1, w2, w3, w4, w5, w6⟩ | r4
          · refine Or.inl ⟨w1, w2, w3, w4, w5, ?_⟩
            have e : a + 1 + ((L_X8_num S gr (m + 2) false (q + 1) (nI 10 * val + f_X5_signAt x q - nI 48)).2.1 - (q + 1)) = a + ((L_X8_num S gr (m + 2) false (q + 1) (nI 10 * val + f_X5_signAt x q - nI 48)).2.1 - q) := by omega
            rw [e] at w6
            exact w6
          · exact Or.inr r4
        · have q1 : L_X5_num x gr R1 V R2 (m + 1 + 1) q val (f_X5_digitAt (sPd_at x q)) = (true, -1, q, val, f_X5_signAt x q - nI 48) := by
            rw [e1, L_X5_num_s, if_neg c1, if_neg (by omega), if_neg c2, f4, if_neg c4]
          have q2 : L_X8_num S gr (m + 1 + 2) false q val = (true, q, val) := by
            rw [L_X8_num_s, if_pos rfl, if_neg c3, e2, if_neg (fun w => in48.mp w hD), if_neg c4]
            dsimp only
            rw [if_neg (by decide), if_neg (by decide), num_w]
            rfl
          rw [q1, q2]
          exact ⟨rfl, Nat.le_refl _, by show q ≤ gPd_n x; omega, Or.inr ⟨rfl, rfl, Or.inl rfl⟩⟩
    · obtain ⟨k1, k2⟩ := key (m + 1) q a val hq h0 h1 ha hD
      rw [k1, k2]
      exact ⟨rfl, Nat.le_refl _, by show q ≤ gPd_n x; omega, Or.inl ⟨rfl, rfl, rfl, h0, h1, by show val.toInt < (10 : Int) ^ (a + (q - q)); rw [Nat.sub_self, Nat.add_zero]; exact ha⟩⟩
/-- the reference has found a fault, or finds it at the next sign -/
def failS (x : zPd) (S : zMs) : Prop := gMs_wr S = true ∨ (gMs_wr S = false ∧ isD (f_X5_signAt x (gMs_sp S)))
theorem amt_bd {v : Int} {k : Nat} (h1 : v ≤ 1000000) (h2 : v < (10 : Int) ^ k) : v ≤ 125000 * ((k : Int) + 2) := by
  by_cases c : k ≤ 5
  · have h3 : (10 : Int) ^ k ≤ 100000 := by
      rcases (show k = 0 ∨ k = 1 ∨ k = 2 ∨ k = 3 ∨ k = 4 ∨ k = 5 by omega) with rfl | rfl | rfl | rfl | rfl | rfl <;> decide
    omega
  · omega
theorem number_sim {x : zPd} {S : zMs} {gr : Int32} {pl : Nat} (hP : PR x S) (hat : gPd_at x = gMs_sp S) (hle : gPd_at x ≤ gPd_n x) (hw : gMs_wr S = false) (hg : gr.toInt ≤ 1000000) :
    ∃ p : Nat, (f_X5_readNumber x gr).2 = sPd_at x p ∧ gMs_sp (f_X8_takeNumber S pl gr) = p ∧ p ≤ gPd_n x ∧ gPd_at x ≤ p ∧
    ((0 ≤ (f_X5_readNumber x gr).1.toInt ∧ f_X8_takeNumber S pl gr = sMs_nu (sMs_sp S p) (upd (gMs_nu S) (3 * gMs_od S + pl) (f_X5_readNumber x gr).1) ∧ (f_X5_readNumber x gr).1.toInt ≤ 125000 * ((p : Int) - (gPd_at x : Int) + 2) ∧ (f_X5_readNumber x gr).1.toInt ≤ 1000000 ∧ gPd_at x + 1 ≤ p) ∨
     ((f_X5_readNumber x gr).1 = -1 ∧ failS x (f_X8_takeNumber S pl gr))) := by
  have hn := next_sign hP
  rw [← hat] at hn
  unfold f_X5_readNumber f_X8_takeNumber
  rw [zsl_e, zsl_e]
  dsimp only
  rw [if_pos hw, hn]
  by_cases hD : isD (f_X5_signAt x (gPd_at x))
  · have hlt := isD_lt hD
    have e1 := dig_yes hD
    have e1i := dig_int hD
    have hD2 := hD
    unfold isD at hD2
    have hn2 : f_X8_next (sMs_wr S false) = f_X5_signAt x (gPd_at x) := by
      have := next_sign (S := sMs_wr S false) hP
      rw [this]
      exact congrArg _ hat.symm
    rw [if_neg (fun w => in48.mp w hD), if_pos rfl, hn2, e1, if_pos (by rw [i32_le_iff, e1i]; show (0 : Int) ≤ _; omega)]
    have hfu : (gMs_pdm S - (gMs_sp S + 1)) + (1 - false.toNat) + 1 = (gPd_n x - (gPd_at x + 1)) + 2 := by
      rw [hP.1, hat]; rfl
    rw [hfu, ← hat]
    obtain ⟨r1, r2, r3, r4⟩ := num_sim x gr (f_X5_signAt x (gPd_at x) - nI 48) (gPd_at x + 1) (f_X5_digitAt (sPd_at x (gPd_at x + 1))) hg S hP (gPd_n x - (gPd_at x + 1)) (gPd_at x + 1) 1 (f_X5_signAt x (gPd_at x) - nI 48) (by omega) (by omega) (by omega) (by rw [e1i, Int.pow_succ]; show _ < (1 : Int) * 10; omega)
    generalize L_X5_num x gr (f_X5_signAt x (gPd_at x) - nI 48) (gPd_at x + 1) (f_X5_digitAt (sPd_at x (gPd_at x + 1))) (gPd_n x - (gPd_at x + 1) + 1) (gPd_at x + 1) (f_X5_signAt x (gPd_at x) - nI 48) (f_X5_digitAt (sPd_at x (gPd_at x + 1))) = a at r1 r4 ⊢
    generalize L_X8_num S gr (gPd_n x - (gPd_at x + 1) + 2) false (gPd_at x + 1) (f_X5_signAt x (gPd_at x) - nI 48) = d at r1 r2 r3 r4 ⊢
    rcases r4 with ⟨w1, w2, w3, w4, w5, w6⟩ | ⟨w1, w2, w3⟩
    · rw [if_neg (by rw [w1]; decide)]
      refine ⟨d.2.1, by rw [r1], rfl, r3, by omega, Or.inl ⟨by show 0 ≤ a.2.2.2.1.toInt; rw [w3]; exact w4, ?_, ?_, by show a.2.2.2.1.toInt ≤ _; rw [w3]; exact w5, r2⟩⟩
      · rw [w2, w3, ← hw]
      · show a.2.2.2.1.toInt ≤ _
        rw [w3]
        have q := amt_bd w5 w6
        omega
    · rw [if_pos w1]
      exact ⟨d.2.1, by rw [r1], rfl, r3, by omega, Or.inr ⟨w2, w3⟩⟩
  · have e1 := dig_no hD
    rw [e1, if_neg (show ¬ (0 : Int32) ≤ -1 by decide), if_pos (in48.mpr hD), if_neg (show ¬ true = false by decide)]
    exact ⟨gPd_at x, rfl, hat.symm, hle, Nat.le_refl _, Or.inr ⟨rfl, Or.inl rfl⟩⟩
