/-! all of both sides -/
def SR (b D : Int) (s : zSl) (S : zMs) : Prop := ∀ i, i < 2 → gSl_sv s i = gMs_sv S i ∧ oN (gSl_st s i) ∧ (¬ gSl_sv s i = 0 → gT b D (gSl_st s i) (fun k => gMs_sl S (183 * i + k)))
def PR (z : zPd) (S : zMs) : Prop := gPd_n z = gMs_pdm S ∧ gPd_n z ≤ 80 ∧ (∀ i, i < gPd_n z → gPd_sg z i = gMs_pd S i) ∧ ∀ i, zch (gPd_sg z i)
def bP (c n : Nat) : Int := 18000000 + 20000000 * (c : Int) - (if n = 0 then 0 else 15000000 + 625000 * (n : Int))
def FR (c : Nat) (T : zTr) (z : zPd) (y : zHs) (s : zSl) (S : zMs) : Prop := gT (bP c (gPd_n z)) (100 * (c : Int)) T (gMs_at S) ∧ HR (bP c (gPd_n z)) (100 * (c : Int)) y S ∧ SR (bP c (gPd_n z)) (100 * (c : Int)) s S ∧ PR z S
theorem SR_mono {b b' D D' : Int} {s : zSl} {S : zMs} (h1 : b ≤ b') (h2 : D ≤ D') (h : SR b D s S) : SR b' D' s S := fun i hi => ⟨(h i hi).1, (h i hi).2.1, fun z => gT_mono h1 h2 ((h i hi).2.2 z)⟩
theorem SR_S {b D : Int} {s : zSl} {S S' : zMs} (e1 : gMs_sv S' = gMs_sv S) (e2 : gMs_sl S' = gMs_sl S) (h : SR b D s S) : SR b D s S' := by
  unfold SR
  rw [e1, e2]; exact h
theorem PR_S {z : zPd} {S S' : zMs} (e1 : gMs_pdm S' = gMs_pdm S) (e2 : gMs_pd S' = gMs_pd S) (h : PR z S) : PR z S' := by
  unfold PR
  rw [e1, e2]; exact h
theorem bP_step (c n : Nat) : bP (c + 1) n = bP c n + 20000000 := by
  unfold bP
  omega
theorem bP_le (c n : Nat) (hc : c ≤ 512) : bP c n ≤ 10258000000 := by
  unfold bP
  by_cases h : n = 0
  · rw [if_pos h]; omega
  · rw [if_neg h]; omega
theorem FR_g {c : Nat} {T : zTr} {z : zPd} {y : zHs} {s : zSl} {S : zMs} (h : FR c T z y s S) (hc : c ≤ 512) : gP 50000 T ≤ 10300000000 := by
  have h1 := (pPhi_gP h.1.2.1).1
  have h2 := h.1.2.2
  have h3 := bP_le c (gPd_n z) hc
  omega
theorem FR_same {c : Nat} {T : zTr} {z : zPd} {y : zHs} {s : zSl} {S : zMs} (h : FR c T z y s S) : FR (c + 1) T z y s S := by
  obtain ⟨h1, h2, h3, h4⟩ := h
  have e := bP_step c (gPd_n z)
  exact ⟨gT_mono (by omega) (by omega) h1, HR_mono (by omega) (by omega) h2, SR_mono (by omega) (by omega) h3, h4⟩
theorem FR_chg {c : Nat} {T T' : zTr} {z : zPd} {y : zHs} {s : zSl} {S S' : zMs} {D at5 : Int} {r r' : Int32} (h : FR c T z y s S) (hD : D ≤ 100 * (c : Int) + 100) (ho : opR D T S true (r, T') (r', S') 20000000 at5) : r = r' ∧ FR (c + 1) T' z (hist2 y T r) s S' := by
  obtain ⟨h1, h2, h3, h4⟩ := h
  obtain ⟨hr, ho⟩ := ho
  refine ⟨hr, ?_⟩
  have e := bP_step c (gPd_n z)
  rcases ho with ⟨o1, o2, o3⟩ | ⟨o1, A, sm, o2, o3, o4, o5, o6⟩
  · have hneg : r < 0 := by rw [i32_lt_iff]; exact o1
    have e2 : T' = T := o2
    have e3 : S' = S := o3
    rw [e2, e3]
    exact ⟨gT_mono (by omega) (by omega) h1, HR_mono (by omega) (by omega) (HR_no h2 (gT_n h1) hneg), SR_mono (by omega) (by omega) h3, h4⟩
  · have hpos : ¬ r < 0 := by
      rw [i32_lt_iff]
      have z0 : (0 : Int32).toInt = 0 := rfl
      have o1' : 0 ≤ r.toInt := o1
      omega
    have e3 : S' = sMs_sh (sMs_at (f_X8_keep S) A) sm := o2
    have o4' : Inv D T' := o4
    have o5' : pPhi T' ≤ pPhi T + 20000000 := o5
    have o7 := h1.2.2
    rw [e3]
    exact ⟨⟨o3, Inv_mono (by omega) o4', by omega⟩, HR_mono (by omega) (by omega) (HR_S rfl rfl rfl (HR_yes h2 h1 hpos)), SR_mono (by omega) (by omega) (SR_S rfl rfl h3), PR_S rfl rfl h4⟩
/-- a change that the class keeps in its past -/
theorem FR_op {c : Nat} {T : zTr} {z : zPd} {y : zHs} {s : zSl} {S : zMs} {D at5 : Int} {k : Int32 × zTr} {m : Int32 × zMs} (h : FR c T z y s S) (hD : D ≤ 100 * (c : Int) + 100) (ho : opR D T S true k m 20000000 at5) : (f_X1_keep (f_X1_hold y T) k.1).1 = m.1 ∧ FR (c + 1) k.2 z (hist2 y T k.1) s m.2 := by
  rw [keep_1]
  exact FR_chg h hD ho
section changes
variable {c : Nat} {T : zTr} {z : zPd} {y : zHs} {s : zSl} {S : zMs}
theorem set_FR (hc : c ≤ 512) (h : FR c T z y s S) (se v : Int32) : (f_X7_set T y se v).1 = (f_X8_set S se v).1 ∧ FR (c + 1) (f_X7_set T y se v).2.1 z (f_X7_set T y se v).2.2 s (f_X8_set S se v).2 := FR_op h (D := 100 * (c : Int)) (by omega) (set_op se v h.1.2.1 h.1.1)
theorem buy_FR (hc : c ≤ 512) (h : FR c T z y s S) (ho am hour : Int32) : (f_X7_buy T y ho am hour).1 = (f_X8_buy S ho am hour).1 ∧ FR (c + 1) (f_X7_buy T y ho am hour).2.1 z (f_X7_buy T y ho am hour).2.2 s (f_X8_buy S ho am hour).2 := FR_op h (D := 100 * (c : Int)) (by omega) (buy_op ho am hour true h.1.2.1 (by omega) h.1.1)
theorem leave_FR (hc : c ≤ 512) (h : FR c T z y s S) (ho un hour : Int32) : (f_X7_leave T y ho un hour).1 = (f_X8_leave S ho un hour).1 ∧ FR (c + 1) (f_X7_leave T y ho un hour).2.1 z (f_X7_leave T y ho un hour).2.2 s (f_X8_leave S ho un hour).2 := FR_op h (D := 100 * (c : Int)) (by omega) (leave_op ho un hour true h.1.2.1 (by omega) h.1.1)
theorem inKind_FR (hc : c ≤ 512) (h : FR c T z y s S) (ho un : Int32) : (f_X7_inKind T y ho un).1 = (f_X8_inKind S ho un).1 ∧ FR (c + 1) (f_X7_inKind T y ho un).2.1 z (f_X7_inKind T y ho un).2.2 s (f_X8_inKind S ho un).2 := FR_op h (D := 100 * (c : Int)) (by omega) (kind_op ho un h.1.2.1 h.1.1 (by have := FR_g h hc; omega))
theorem quote_FR (hc : c ≤ 512) (h : FR c T z y s S) (q : Int32) : (f_X7_quote T y q).1 = (f_X8_quote S q).1 ∧ FR (c + 1) (f_X7_quote T y q).2.1 z (f_X7_quote T y q).2.2 s (f_X8_quote S q).2 := FR_op h (D := 100 * (c : Int)) (by omega) (quote_op q true h.1.2.1 h.1.1)
theorem trade_FR (hc : c ≤ 512) (h : FR c T z y s S) (bo : Int32) : (f_X7_trade T y bo).1 = (f_X8_trade S bo).1 ∧ FR (c + 1) (f_X7_trade T y bo).2.1 z (f_X7_trade T y bo).2.2 s (f_X8_trade S bo).2 := FR_op h (D := 100 * (c : Int)) (by omega) (trade_op bo h.1.2.1 h.1.1 (by have := FR_g h hc; omega))
theorem income_FR (hc : c ≤ 512) (h : FR c T z y s S) (am : Int32) : (f_X7_income T y am).1 = (f_X8_income S am).1 ∧ FR (c + 1) (f_X7_income T y am).2.1 z (f_X7_income T y am).2.2 s (f_X8_income S am).2 := FR_op h (D := 100 * (c : Int)) (by omega) (income_op am true h.1.2.1 h.1.1 (by have := FR_g h hc; omega))
theorem pay_FR (hc : c ≤ 512) (h : FR c T z y s S) : (f_X7_pay T y).1 = (f_X8_pay S).1 ∧ FR (c + 1) (f_X7_pay T y).2.1 z (f_X7_pay T y).2.2 s (f_X8_pay S).2 := FR_op h (D := 100 * (c : Int)) (by omega) (pay_op true h.1.2.1 h.1.1 (by have := FR_g h hc; omega))
theorem endDay_FR (hc : c ≤ 512) (h : FR c T z y s S) (x : zDd) : (f_X7_endDay T x y).1 = (f_X8_endDay S).1 ∧ FR (c + 1) (f_X7_endDay T x y).2.1 z (f_X7_endDay T x y).2.2.2 s (f_X8_endDay S).2 ∧ ok_endIt (f_X8_keepIf S true) := by
  obtain ⟨h1, h2⟩ := end_op (D := 100 * (c : Int)) x true h.1.2.1 (by omega) (by have := FR_g h hc; omega) h.1.1
  obtain ⟨e1, e2⟩ := FR_op h (D := 100 * (c : Int) + 1) (by omega) h1
  exact ⟨e1, e2, h2⟩
end changes
