/-! the class's own methods, out of the trust's -/
section X7
variable {T : zTr} {y : zHs}
theorem X7_set (se v : Int32) : f_X7_set T y se v = ((f_X6_changeSetting T se v).1, (f_X6_changeSetting T se v).2, hist2 y T (f_X6_changeSetting T se v).1) := by
  show ((f_X1_keep (f_X1_hold y T) (f_X6_changeSetting T se v).1).1, _, hist2 y T _) = _
  rw [keep_1]
theorem X7_buy (h am hour : Int32) : f_X7_buy T y h am hour = ((f_X6_orderToBuy T h am hour).1, (f_X6_orderToBuy T h am hour).2, hist2 y T (f_X6_orderToBuy T h am hour).1) := by
  show ((f_X1_keep (f_X1_hold y T) (f_X6_orderToBuy T h am hour).1).1, _, hist2 y T _) = _
  rw [keep_1]
theorem X7_leave (h un hour : Int32) : f_X7_leave T y h un hour = ((f_X6_orderToLeave T h un hour).1, (f_X6_orderToLeave T h un hour).2, hist2 y T (f_X6_orderToLeave T h un hour).1) := by
  show ((f_X1_keep (f_X1_hold y T) (f_X6_orderToLeave T h un hour).1).1, _, hist2 y T _) = _
  rw [keep_1]
theorem X7_inKind (h un : Int32) : f_X7_inKind T y h un = ((f_X6_exitInKind T h un).1, (f_X6_exitInKind T h un).2, hist2 y T (f_X6_exitInKind T h un).1) := by
  show ((f_X1_keep (f_X1_hold y T) (f_X6_exitInKind T h un).1).1, _, hist2 y T _) = _
  rw [keep_1]
theorem X7_quote (q : Int32) : f_X7_quote T y q = ((f_X6_changeQuote T q).1, (f_X6_changeQuote T q).2, hist2 y T (f_X6_changeQuote T q).1) := by
  show ((f_X1_keep (f_X1_hold y T) (f_X6_changeQuote T q).1).1, _, hist2 y T _) = _
  rw [keep_1]
theorem X7_trade (q : Int32) : f_X7_trade T y q = ((f_X6_tradeLots T q).1, (f_X6_tradeLots T q).2, hist2 y T (f_X6_tradeLots T q).1) := by
  show ((f_X1_keep (f_X1_hold y T) (f_X6_tradeLots T q).1).1, _, hist2 y T _) = _
  rw [keep_1]
theorem X7_income (q : Int32) : f_X7_income T y q = ((f_X6_takeIncome T q).1, (f_X6_takeIncome T q).2, hist2 y T (f_X6_takeIncome T q).1) := by
  show ((f_X1_keep (f_X1_hold y T) (f_X6_takeIncome T q).1).1, _, hist2 y T _) = _
  rw [keep_1]
theorem X7_pay : f_X7_pay T y = ((f_X6_payIncome T).1, (f_X6_payIncome T).2, hist2 y T (f_X6_payIncome T).1) := by
  show ((f_X1_keep (f_X1_hold y T) (f_X6_payIncome T).1).1, _, hist2 y T _) = _
  rw [keep_1]
theorem X7_endDay (x : zDd) : f_X7_endDay T x y = ((f_X0_run x T).1, (f_X0_run x T).2.2, (f_X0_run x T).2.1, hist2 y T (f_X0_run x T).1) := by
  show ((f_X1_keep (f_X1_hold y T) (f_X0_run x T).1).1, _, _, hist2 y T _) = _
  rw [keep_1]
end X7
theorem LO_op {D c D' c' : Int} {T T' : zTr} {z : zPd} {y : zHs} {s : zSl} (hG : GI D c T) (hO : LO T z y s) (hG' : GI D' c' T') (r : Int32) : LO T' z (hist2 y T r) s := LO_mk hO hG' (HO_hist (LO_HO hO) (GI_oN hG) r)
theorem not_neg {x : Int} (h : 0 ≤ x ∧ x < 2147483648) : ¬ jI x < 0 := by rw [jI_0, jI_lt ⟨by omega, by omega⟩ ⟨by decide, by decide⟩]; omega
/-- a payment -/
theorem pay_7 {D c : Int} {T : zTr} {z : zPd} {y : zHs} {s : zSl} (h : GI D c T) (hO : LO T z y s) : ∃ T' y', f_X7_pay T y = (jI (isum (gtI T) 6), T', y') ∧ GI D c T' ∧ LO T' z y' s ∧ y' = hist2 y T (jI (isum (gtI T) 6)) ∧ cI T' = cI T - isum (gtI T) 6 ∧ poI T' = poI T - isum (gtI T) 6 ∧ evI T' = 0 ∧ uNew T' = 0 ∧ ∀ i, i < 6 → inI T' i = inI T i + gtI T i ∧ eeI T' i = eeI T i + enI T i ∧ uN T' i = 0 := by
  obtain ⟨T', e, g1, g2⟩ := pay_sp h
  refine ⟨T', hist2 y T (jI (isum (gtI T) 6)), ?_, g1, LO_op h hO g1 _, rfl, g2⟩
  rw [X7_pay, e]
