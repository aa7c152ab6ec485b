/-! trade -/
theorem trade_op {D : Int} {T : zTr} {S : zMs} (bo : Int32) (hI : Inv D T) (hR : RTr T (gMs_at S)) (hg : gP 50000 T ≤ 10700000000) : opR D T S true (f_X6_tradeLots T bo) (f_X8_trade S bo) 20000000 50000000 := by
  have hIs := hI
  obtain ⟨g1, g2⟩ := gP_bd hI hg
  obtain ⟨hB, hOb, hOl, hE, hdy, hYb, hYl⟩ := hI
  have hp := hB.2.2.2.1
  have hl := hB.2.1
  have hq := hB.2.2.1
  have hs := hB.1 4 (by omega)
  rw [zGi4] at hs
  obtain ⟨f1, f2, f3⟩ := fee_int hq hs
  obtain ⟨b1, b2, b3⟩ := br_int hq hs
  have hbr : brB (gTr_quote T).toInt (gTr_st T 4).toInt = (gTr_quote T).toInt - ((gTr_quote T).toInt * (gTr_st T 4).toInt + 999) / 1000 := rfl
  rw [hbr] at b1 b2 b3
  generalize hf : ((gTr_quote T).toInt * (gTr_st T 4).toInt + 999) / 1000 = f at f1 b1 b2 b3
  have f0 : 0 ≤ f := by omega
  have hqf : ((gTr_quote T).toInt64 + f_X6_fee T).toInt = (gTr_quote T).toInt + f := i64_add (i32_l _) f1 (by omega) (by omega)
  unfold f_X8_trade f_X6_tradeLots
  rw [zsl_e, cost_eq hR.1, hR.1.2.2.2.1, hR.1.2.2.1, hR.1.2.1, hR.1.2.2.2.2.1]
  dsimp only
  have z0 : (0 : Int32).toInt = 0 := rfl
  have y0 : (0 : Int64).toInt = 0 := rfl
  have z1 : (nI 1000).toInt = 1000 := rfl
  have zm : (-1000 : Int32).toInt = -1000 := rfl
  have y1 : (1000 : Int64).toInt = 1000 := rfl
  have hin : f_X8_in bo.toInt64 (-1000) 1000 = false ↔ ¬ (-1000 ≤ bo.toInt ∧ bo.toInt ≤ 1000) := by rw [in_false, i32_l]; rfl
  by_cases c0 : bo = 0
  · rw [if_pos c0, if_pos c0]; exact opR_no (by decide)
  rw [if_neg c0, if_neg c0]
  have hb0 : bo.toInt ≠ 0 := fun z => c0 (i32_eq_iff.mpr (by rw [z]; rfl))
  by_cases c1 : bo < -1000
  · rw [if_pos c1]
    rw [i32_lt_iff, zm] at c1
    rw [if_pos (hin.mpr (by omega))]; exact opR_no (by decide)
  rw [if_neg c1]
  rw [i32_lt_iff, zm] at c1
  by_cases c2 : bo ≤ nI 1000
  · rw [if_pos c2]
    rw [i32_le_iff, z1] at c2
    rw [if_neg (fun z => hin.mp z (by omega))]
    have s1 : (gTr_lots T + bo).toInt = (gTr_lots T).toInt + bo.toInt := i32_add rfl rfl (by omega) (by omega)
    have s2 : ((gTr_lots T).toInt64 + bo.toInt64).toInt = (gTr_lots T).toInt + bo.toInt := i64_add (i32_l _) (i32_l _) (by omega) (by omega)
    have s3 : (gTr_lots T).toInt64 + bo.toInt64 = (gTr_lots T + bo).toInt64 := i64_eq_iff.mpr (by rw [s2, i32_l, s1])
    have s4 : (-bo).toInt = -bo.toInt := by
      rw [Int32.toInt_neg]
      exact Int.bmod_eq_of_le (by omega) (by omega)
    rw [s3]
    by_cases c3 : gTr_lots T + bo ≤ nI 1000
    · rw [if_pos c3]
      rw [i32_le_iff, z1, s1] at c3
      rw [if_pos (show (gTr_lots T + bo).toInt64 ≤ 1000 by rw [i64_le_iff, i32_l, s1, y1]; exact c3)]
      have hlt : ((gTr_lots T + bo).toInt64 < 0) ↔ (gTr_lots T + bo < 0) := by rw [i64_lt_iff, i32_lt_iff, i32_l, y0, z0]
      by_cases c4 : gTr_lots T + bo < 0
      · rw [if_pos c4, if_pos (hlt.mpr c4)]; exact opR_no (by decide)
      rw [if_neg c4, if_neg (fun z => c4 (hlt.mp z))]
      rw [i32_lt_iff, s1, z0] at c4
      -- what is done
      have hdo : ∀ (cs : Int64) (ci : Int), cs.toInt = ci → (∀ by_ : Int64, by_.toInt = -ci → gTr_cash T + by_ = gTr_cash T - cs) → (gTr_pool T).toInt ≤ (gTr_cash T).toInt - ci → (gTr_cash T).toInt - ci ≤ 3000000000 → (20000 + 4 * (gTr_quote T).toInt) * bo.toInt - 5 * ci ≤ 20000000 → 50000 * bo.toInt - 5 * ci ≤ 50000000 → ∀ by_ : Int64, by_.toInt = -ci →
          opR D T S true (gTr_lots T + bo, sTr_lots (sTr_cash T (gTr_cash T - cs)) (gTr_lots T + bo)) (((vp_updL (vp_updL (gMs_at (f_X8_keep S)) 6 (gMs_at (f_X8_keep S) 6 + bo.toInt64)) 5 (vp_updL (gMs_at (f_X8_keep S)) 6 (gMs_at (f_X8_keep S) 6 + bo.toInt64) 5 + by_)) 6).toInt32, sMs_at (f_X8_keep S) (vp_updL (vp_updL (gMs_at (f_X8_keep S)) 6 (gMs_at (f_X8_keep S) 6 + bo.toInt64)) 5 (vp_updL (gMs_at (f_X8_keep S)) 6 (gMs_at (f_X8_keep S) 6 + bo.toInt64) 5 + by_))) 20000000 50000000 := by
        intro cs ci h1 h2 h3 h4 h5 h6 by_ h7
        have hk : gMs_at (f_X8_keep S) = gMs_at S := rfl
        rw [hk, vp_updL_n (vp_updL (gMs_at S) 6 (gMs_at S 6 + bo.toInt64)) _ (show (6 : Nat) ≠ 5 by decide), vp_updL_s, vp_updL_n (gMs_at S) _ (show (5 : Nat) ≠ 6 by decide), hR.1.2.1, hR.1.2.2.1, s3, i_l_i, h2 by_ h7]
        have hc : (gTr_cash T - cs).toInt = (gTr_cash T).toInt - ci := i64_sub rfl h1 (by omega) (by omega)
        have he : ∀ i, i ≠ 5 → i ≠ 6 → vp_updL (vp_updL (gMs_at S) 6 (gTr_lots T + bo).toInt64) 5 (gTr_cash T - cs) i = gMs_at S i := fun i a1 a2 => by rw [vp_updL_n _ _ a1, vp_updL_n _ _ a2]
        refine opR_yes (b := true) _ (by omega) (RTr_C hIs hR ?_ (fun i hi => he i (by omega) (by omega)) rfl rfl rfl) ⟨⟨hB.1, ?_, hq, ⟨hp.1, ?_, ?_⟩, hB.2.2.2.2⟩, hOb, hOl, hE, hdy, hYb, hYl⟩ ?_ ?_
        · obtain ⟨r1, r5, r6, r7, r8, r9, r10, rh⟩ := hR.1
          refine ⟨fun k hk => (he k (by omega) (by omega)).trans (r1 k hk), vp_updL_s _ _ _, ?_, (he 7 (by omega) (by omega)).trans r7, (he 8 (by omega) (by omega)).trans r8, (he 9 (by omega) (by omega)).trans r9, (he 10 (by omega) (by omega)).trans r10, fun i hi => ?_⟩
          · rw [vp_updL_n _ _ (by decide), vp_updL_s]
          · obtain ⟨h0, h1, h2, h3, h4, h5, h6⟩ := rh i hi
            exact ⟨(he _ (by omega) (by omega)).trans h0, (he _ (by omega) (by omega)).trans h1, (he _ (by omega) (by omega)).trans h2, (he _ (by omega) (by omega)).trans h3, (he _ (by omega) (by omega)).trans h4, (he _ (by omega) (by omega)).trans h5, (he _ (by omega) (by omega)).trans h6⟩
        · show 0 ≤ (gTr_lots T + bo).toInt ∧ (gTr_lots T + bo).toInt ≤ 1000
          omega
        · show (gTr_pool T).toInt ≤ (gTr_cash T - cs).toInt
          omega
        · show (gTr_cash T - cs).toInt ≤ 10000000000
          omega
        · unfold pPhi gP
          show 5 * (gTr_cash T - cs).toInt + 5 * pS (gTr_bu T) 0 + (20000 + 4 * (gTr_quote T).toInt) * (gTr_lots T + bo).toInt + 2000 * (10000 - (gTr_quote T).toInt) ≤ _
          rw [s1, hc, Int.mul_add]
          omega
        · unfold gP
          show 5 * (gTr_cash T - cs).toInt + 5 * pS (gTr_bu T) 0 + 50000 * (gTr_lots T + bo).toInt ≤ _
          rw [s1, hc, Int.mul_add]
          omega
      by_cases c5 : bo ≤ 0
      · rw [if_pos c5, if_pos c5, if_pos c5, if_pos c5]
        rw [i32_le_iff, z0] at c5
        have p1 : 0 ≤ -bo.toInt * ((gTr_quote T).toInt - f) := Int.mul_nonneg (by omega) b2
        have p2 : -bo.toInt * ((gTr_quote T).toInt - f) ≤ 1000 * 10000 := Int.mul_le_mul (by omega) (by omega) b2 (by decide)
        have p3 : -bo.toInt * ((gTr_quote T).toInt - f) ≤ -bo.toInt * (gTr_quote T).toInt := Int.mul_le_mul_of_nonneg_left b3 (by omega)
        have p4 : -bo.toInt * (gTr_quote T).toInt ≤ -bo.toInt * 10000 := Int.mul_le_mul_of_nonneg_left (by omega) (by omega)
        have e1 : (bo.toInt64 * ((gTr_quote T).toInt64 - f_X6_fee T)).toInt = bo.toInt * ((gTr_quote T).toInt - f) := i64_mul (i32_l _) b1 (by rw [Int.neg_mul] at p1 p2; omega) (by rw [Int.neg_mul] at p1 p2; omega)
        have e2 : ((-bo).toInt64 * ((gTr_quote T).toInt64 - f_X6_fee T)).toInt = -(bo.toInt * ((gTr_quote T).toInt - f)) := by
          rw [← Int.neg_mul]
          exact i64_mul ((i32_l _).trans s4) b1 (by omega) (by omega)
        rw [Int.neg_mul] at p1 p2 p3
        have p5 : -bo.toInt * (gTr_quote T).toInt = -(bo.toInt * (gTr_quote T).toInt) := Int.neg_mul _ _
        rw [p5] at p3 p4
        refine hdo _ _ e1 (fun y hy => ?_) (by omega) (by omega) ?_ (by omega) _ e2
        · apply i64_eq_iff.mpr
          rw [i64_add rfl hy (by omega) (by omega), i64_sub rfl e1 (by omega) (by omega)]; omega
        · rw [Int.add_mul, Int.mul_assoc, Int.mul_comm (gTr_quote T).toInt]
          omega
      · rw [if_neg c5, if_neg c5, if_neg c5, if_neg c5]
        rw [i32_le_iff, z0] at c5
        have p1 : 0 ≤ bo.toInt * ((gTr_quote T).toInt + f) := Int.mul_nonneg (by omega) (by omega)
        have p2 : bo.toInt * ((gTr_quote T).toInt + f) ≤ 1000 * 20000 := Int.mul_le_mul (by omega) (by omega) (by omega) (by decide)
        have p3 : bo.toInt * (gTr_quote T).toInt ≤ bo.toInt * ((gTr_quote T).toInt + f) := Int.mul_le_mul_of_nonneg_left (by omega) (by omega)
        have p4 : 0 ≤ bo.toInt * (gTr_quote T).toInt := Int.mul_nonneg (by omega) (by omega)
        have e1 : (bo.toInt64 * ((gTr_quote T).toInt64 + f_X6_fee T)).toInt = bo.toInt * ((gTr_quote T).toInt + f) := i64_mul (i32_l _) hqf (by omega) (by omega)
        have e2 : ((-bo).toInt64 * ((gTr_quote T).toInt64 + f_X6_fee T)).toInt = -(bo.toInt * ((gTr_quote T).toInt + f)) := by
          rw [← Int.neg_mul]
          exact i64_mul ((i32_l _).trans s4) hqf (by rw [Int.neg_mul]; omega) (by rw [Int.neg_mul]; omega)
        have e3 : (gTr_cash T - gTr_pool T).toInt = (gTr_cash T).toInt - (gTr_pool T).toInt := i64_sub rfl rfl (by omega) (by omega)
        have e4 : (gTr_cash T - gTr_pool T + (-bo).toInt64 * ((gTr_quote T).toInt64 + f_X6_fee T)).toInt = (gTr_cash T).toInt - (gTr_pool T).toInt + -(bo.toInt * ((gTr_quote T).toInt + f)) := i64_add e3 e2 (by omega) (by omega)
        have hcond : (bo.toInt64 * ((gTr_quote T).toInt64 + f_X6_fee T) ≤ gTr_cash T - gTr_pool T) ↔ (0 ≤ gTr_cash T - gTr_pool T + (-bo).toInt64 * ((gTr_quote T).toInt64 + f_X6_fee T)) := by
          rw [i64_le_iff, i64_le_iff, e1, e3, e4, y0]; omega
        by_cases c6 : bo.toInt64 * ((gTr_quote T).toInt64 + f_X6_fee T) ≤ gTr_cash T - gTr_pool T
        · rw [if_pos c6, if_pos (hcond.mp c6)]
          rw [i64_le_iff, e1, e3] at c6
          refine hdo _ _ e1 (fun y hy => ?_) (by omega) (by omega) ?_ (by omega) _ e2
          · apply i64_eq_iff.mpr
            rw [i64_add rfl hy (by omega) (by omega), i64_sub rfl e1 (by omega) (by omega)]; omega
          · rw [Int.add_mul, Int.mul_assoc, Int.mul_comm (gTr_quote T).toInt]
            omega
        · rw [if_neg c6, if_neg (fun z => c6 (hcond.mpr z))]; exact opR_no (by decide)
    · rw [if_neg c3]
      rw [i32_le_iff, z1, s1] at c3
      rw [if_neg (show ¬ (gTr_lots T + bo).toInt64 ≤ 1000 by rw [i64_le_iff, i32_l, s1, y1]; exact c3)]
      exact opR_no (by decide)
  · rw [if_neg c2]
    rw [i32_le_iff, z1] at c2
    rw [if_pos (hin.mpr (by omega))]; exact opR_no (by decide)
