/-! pure functions and their rows; out of whole's part of the same name -/
theorem L_fault_zpf {S : zMs} : ∀ (n : Nat) (X : zMs), zpf S X → zpf S (L_X8_fault n X)
  | 0, X, h => h
  | n + 1, X, h => by
    rw [L_X8_fault_s]
    by_cases c1 : gMs_wr X = false
    · rw [if_pos c1]
      by_cases c2 : gMs_pdm X ≤ gMs_sp X
      · rw [if_pos c2]; exact h
      · rw [if_neg c2]
        by_cases c3 : gMs_wr (f_X8_takeSign X (nI 59)) = false
        · rw [if_pos c3]; exact L_fault_zpf n _ ((zpf_step h c1).2.2.2.2.2 c3).2.1
        · rw [if_neg c3]; exact L_fault_zpf n _ ((zpf_step h c1).2.2.1 (zbt c3))
    · rw [if_neg c1]; exact h
theorem f_fault_zpf {S : zMs} (hp : gMs_pdm S ≤ 80) : zpf S (f_X8_fault S).2 := by
  unfold f_X8_fault
  rw [zsl_e]
  exact L_fault_zpf _ _ (zpf_start hp)
theorem zsame_pf {S T : zMs} (h : zsame S T) : gMs_pf T = gMs_pf S := by rw [h]
theorem zsame_pm {S T : zMs} (h : zsame S T) : gMs_pm T = gMs_pm S := by rw [h]
theorem zsame_at {S T : zMs} (h : zsame S T) : gMs_at T = gMs_at S := by rw [h]

noncomputable def f_X8_carry (S : zMs) (k : Nat) : Int32 × zMs := zsl (
  if ((gMs_so S) k) = nI 98 then
    (((f_X8_tryBuy S ((gMs_nu S) (3 * k)) ((gMs_nu S) (3 * k + 1)) ((gMs_nu S) (3 * k + 2)) false).1), ((f_X8_tryBuy S ((gMs_nu S) (3 * k)) ((gMs_nu S) (3 * k + 1)) ((gMs_nu S) (3 * k + 2)) false).2))
  else
    if ((gMs_so S) k) = nI 100 then
      (((f_X8_tryEndDay S false).1), ((f_X8_tryEndDay S false).2))
    else
      if ((gMs_so S) k) = nI 105 then
        (((f_X8_tryIncome S ((gMs_nu S) (3 * k)) false).1), ((f_X8_tryIncome S ((gMs_nu S) (3 * k)) false).2))
      else
        if ((gMs_so S) k) = nI 108 then
          (((f_X8_tryLeave S ((gMs_nu S) (3 * k)) ((gMs_nu S) (3 * k + 1)) ((gMs_nu S) (3 * k + 2)) false).1), ((f_X8_tryLeave S ((gMs_nu S) (3 * k)) ((gMs_nu S) (3 * k + 1)) ((gMs_nu S) (3 * k + 2)) false).2))
        else
          if ((gMs_so S) k) = nI 113 then
            (((f_X8_tryQuote S ((gMs_nu S) (3 * k)) false).1), ((f_X8_tryQuote S ((gMs_nu S) (3 * k)) false).2))
          else
            (((f_X8_tryPay S false).1), ((f_X8_tryPay S false).2))
  )
def okc (X : zMs) : Prop := gMs_pf X < 6 ∧ gMs_pm X ≤ 6 ∧ zCk X 61 ∧ zCk X 122 ∧ ok_endIt (f_X8_keepIf X false)

noncomputable def L_X8_carry  : Nat → (zMs) → (Nat) → (zMs) × (Nat)
  | 0, X, k => (X, k)
  | fuel + 1, X, k =>
    if (gMs_od X) ≤ k then
      (X, k)
    else
      if ((f_X8_carry X k).1) < 0 then
        (((f_X8_carry X k).2), k)
      else
        L_X8_carry  fuel ((f_X8_carry X k).2) (k + 1)
theorem L_X8_carry_s  (fuel : Nat) (X : zMs) (k : Nat) : L_X8_carry  (fuel + 1) X k = (
    if (gMs_od X) ≤ k then
      (X, k)
    else
      if ((f_X8_carry X k).1) < 0 then
        (((f_X8_carry X k).2), k)
      else
        L_X8_carry  fuel ((f_X8_carry X k).2) (k + 1)
  ) := rfl
noncomputable def f_X8_carryOut (S : zMs) : Int32 × zMs := zsl (
  let T_1 : zMs := ((f_X8_fault S).2)
  if ((f_X8_fault S).1) < 0 then
    let X1 : zMs := ((L_X8_carry  (gMs_od (f_X8_keep T_1) - 0 + 1) (f_X8_keep T_1) 0).1)
    let k1 : Nat := ((L_X8_carry  (gMs_od (f_X8_keep T_1) - 0 + 1) (f_X8_keep T_1) 0).2)
    ((nI k1), (sMs_pdm X1 0))
  else
    ((-3), T_1)
  )
noncomputable def L_X8_undo (S : zMs) : Nat → (Nat → Int64) → (Nat) → (Nat → Int64) × (Nat)
  | 0, A, k => (A, k)
  | fuel + 1, A, k =>
    if 183 ≤ k then
      (A, k)
    else
      L_X8_undo S fuel (vp_updL A k ((gMs_past S) ((183 * (((gMs_pf S) + ((gMs_pm S) - 1)) % 6)) + k))) (k + 1)
theorem L_X8_undo_s (S : zMs) (fuel : Nat) (A : Nat → Int64) (k : Nat) : L_X8_undo S (fuel + 1) A k = (
    if 183 ≤ k then
      (A, k)
    else
      L_X8_undo S fuel (vp_updL A k ((gMs_past S) ((183 * (((gMs_pf S) + ((gMs_pm S) - 1)) % 6)) + k))) (k + 1)
  ) := rfl
noncomputable def f_X8_undo (S : zMs) : Int32 × zMs :=
  if (gMs_pm S) = 0 then
    ((-5), S)
  else
    let A1 : Nat → Int64 := ((L_X8_undo S (183 - 0 + 1) (gMs_at S) 0).1)
    let k1 : Nat := ((L_X8_undo S (183 - 0 + 1) (gMs_at S) 0).2)
    ((nI ((gMs_pm S) - 1)), (sMs_pm (sMs_at S A1) ((gMs_pm S) - 1)))
noncomputable def L_X8_save (S : zMs) (sl : Int32) : Nat → (Nat → Int64) → (Nat) → (Nat → Int64) × (Nat)
  | 0, A, k => (A, k)
  | fuel + 1, A, k =>
    if 183 ≤ k then
      (A, k)
    else
      L_X8_save S sl fuel (vp_updL A (183 * sl.toNatClampNeg + k) ((gMs_at S) k)) (k + 1)
theorem L_X8_save_s (S : zMs) (sl : Int32) (fuel : Nat) (A : Nat → Int64) (k : Nat) : L_X8_save S sl (fuel + 1) A k = (
    if 183 ≤ k then
      (A, k)
    else
      L_X8_save S sl fuel (vp_updL A (183 * sl.toNatClampNeg + k) ((gMs_at S) k)) (k + 1)
  ) := rfl
noncomputable def f_X8_save (S : zMs) (sl : Int32) : Int32 × zMs :=
  if (f_X8_in (sl.toInt64) 0 1) = false then
    ((-2), S)
  else
    let A1 : Nat → Int64 := ((L_X8_save S sl (183 - 0 + 1) (gMs_sl S) 0).1)
    let k1 : Nat := ((L_X8_save S sl (183 - 0 + 1) (gMs_sl S) 0).2)
    (((((gMs_at S) 10)).toInt32), (sMs_sv (sMs_sl S A1) (upd (gMs_sv S) sl.toNatClampNeg (nI 1))))
noncomputable def L_X8_restore (S : zMs) (sl : Int32) : Nat → (Nat → Int64) → (Nat) → (Nat → Int64) × (Nat)
  | 0, A, k => (A, k)
  | fuel + 1, A, k =>
    if 183 ≤ k then
      (A, k)
    else
      L_X8_restore S sl fuel (vp_updL A k ((gMs_sl (f_X8_keep S)) (183 * sl.toNatClampNeg + k))) (k + 1)
theorem L_X8_restore_s (S : zMs) (sl : Int32) (fuel : Nat) (A : Nat → Int64) (k : Nat) : L_X8_restore S sl (fuel + 1) A k = (
    if 183 ≤ k then
      (A, k)
    else
      L_X8_restore S sl fuel (vp_updL A k ((gMs_sl (f_X8_keep S)) (183 * sl.toNatClampNeg + k))) (k + 1)
  ) := rfl
noncomputable def f_X8_restore (S : zMs) (sl : Int32) : Int32 × zMs :=
  if (f_X8_in (sl.toInt64) 0 1) = false then
    ((-2), S)
  else
    if ((gMs_sv S) sl.toNatClampNeg) = 0 then
      ((-5), S)
    else
      let A1 : Nat → Int64 := ((L_X8_restore S sl (183 - 0 + 1) (gMs_at (f_X8_keep S)) 0).1)
      let k1 : Nat := ((L_X8_restore S sl (183 - 0 + 1) (gMs_at (f_X8_keep S)) 0).2)
      ((((A1 10)).toInt32), (sMs_at (f_X8_keep S) A1))
