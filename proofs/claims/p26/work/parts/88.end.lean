/-! the end of a day, as a change -/
theorem end_op {D : Int} {T : zTr} {S : zMs} (x : zDd) (b : Bool) (hI : Inv D T) (hD : D ≤ 2000000000) (hg : gP 50000 T ≤ 10700000000) (hR : RTr T (gMs_at S)) : opR (D + 1) T S b ((f_X0_run x T).1, (f_X0_run x T).2.2) (f_X8_tryEndDay S b) 20000000 0 ∧ ok_endIt (f_X8_keepIf S b) := by
  have hR2 : RTr T (gMs_at (f_X8_keepIf S b)) := by rw [keepIf_at]; exact hR
  obtain ⟨x', T', sm, e1, e2, e3, e4, e5, e6, e7, e8⟩ := run_ok x hI hD (by omega) hR2
  refine ⟨?_, e8⟩
  unfold f_X8_tryEndDay
  rw [zsl_e, e1]
  have h10 : gMs_at (f_X8_endIt (f_X8_keepIf S b)) 10 = (gTr_day T').toInt64 := e3.1.2.2.2.2.2.2.1
  rw [h10, i_l_i]
  refine ⟨rfl, Or.inr ⟨?_, _, sm, e7, e3, e4, ?_, ?_⟩⟩
  · have := hI.2.2.2.2.1.1
    show 0 ≤ (gTr_day T').toInt
    omega
  · show pPhi T' ≤ _
    unfold pPhi
    rw [e6]
    have hq := hI.1.2.2.1
    have := e5 (20000 + 4 * (gTr_quote T).toInt) (by omega)
    omega
  · show gP 50000 T' ≤ _
    have hq := hI.1.2.2.1
    have := e5 50000 (by omega)
    omega
/-- the two ways to weigh a trust -/
theorem pPhi_gP {D : Int} {T : zTr} (hI : Inv D T) : gP 50000 T ≤ pPhi T + 10000000 ∧ pPhi T ≤ gP 50000 T + 20000000 := by
  have hl := hI.1.2.1
  have hq := hI.1.2.2.1
  unfold pPhi gP
  generalize (gTr_lots T).toInt = l at hl ⊢
  generalize (gTr_quote T).toInt = q at hq ⊢
  have e : (20000 + 4 * q) * l = 50000 * l - (30000 - 4 * q) * l := by rw [← Int.sub_mul]; congr 1; omega
  rw [e]
  have h1 : (30000 - 4 * q) * l ≤ 10000000 + 20000000 - 2000 * q := by
    by_cases c : 0 ≤ 30000 - 4 * q
    · have := Int.mul_le_mul_of_nonneg_left hl.2 c
      omega
    · have := Int.mul_nonpos_of_nonpos_of_nonneg (show 30000 - 4 * q ≤ 0 by omega) hl.1
      omega
  have h2 : -(2000 * q) ≤ (30000 - 4 * q) * l := by
    by_cases c : 0 ≤ 30000 - 4 * q
    · have := Int.mul_nonneg c hl.1
      omega
    · have p := Int.mul_le_mul_of_nonneg_left hl.2 (show 0 ≤ -(30000 - 4 * q) by omega)
      rw [Int.neg_mul] at p
      omega
  omega
