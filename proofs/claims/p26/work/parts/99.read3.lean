/-! reading an order, both sides alike -/
def recd (z : zPd) (M : zMs) (k : Nat) : Prop := gMs_so M k = gPd_kd z ∧ ((gPd_kd z = nI 98 ∨ gPd_kd z = nI 108) → gMs_nu M (3 * k) = gPd_ho z ∧ gMs_nu M (3 * k + 1) = gPd_nu z ∧ gMs_nu M (3 * k + 2) = gPd_hr z) ∧ ((gPd_kd z = nI 105 ∨ gPd_kd z = nI 113) → gMs_nu M (3 * k) = gPd_nu z)
def aBd (z : zPd) (a : Nat) : Prop := (gPd_kd z = nI 98 ∨ gPd_kd z = nI 105) → 0 ≤ (gPd_nu z).toInt ∧ (gPd_nu z).toInt ≤ 125000 * ((gPd_at z : Int) - (a : Int) + 1) ∧ (gPd_nu z).toInt ≤ 1000000
def orderR (x : zPd) (S : zMs) (r : Bool × zPd) (S' : zMs) : Prop :=
  gPd_at r.2 = gMs_sp S' ∧
  (r.1 = true → gMs_wr S' = false ∧ gMs_od S' = gMs_od S + 1 ∧ recd r.2 S' (gMs_od S) ∧ (∀ i, i < gMs_od S → gMs_so S' i = gMs_so S i) ∧ (∀ i, i < 3 * gMs_od S → gMs_nu S' i = gMs_nu S i) ∧ gPd_at x + 1 ≤ gPd_at r.2 ∧ aBd r.2 (gPd_at x)) ∧
  (r.1 = false → failS x S')
/-- an order read is written down -/
noncomputable def finO (O : zMs) (c : Int32) : zMs := sMs_so (sMs_od O (if gMs_wr O = false then gMs_od O + 1 else gMs_od O)) (if gMs_wr O = false then upd (gMs_so O) (gMs_od O) c else gMs_so O)
theorem fin_fail {x : zPd} {O : zMs} {c : Int32} (h : failS x O) : failS x (finO O c) := h
theorem fin_ok {O : zMs} {c : Int32} (h : gMs_wr O = false) : gMs_wr (finO O c) = false ∧ gMs_od (finO O c) = gMs_od O + 1 ∧ gMs_nu (finO O c) = gMs_nu O ∧ (∀ i, gMs_so (finO O c) i = if i = gMs_od O then c else gMs_so O i) := by
  unfold finO
  rw [if_pos h, if_pos h]
  exact ⟨h, rfl, rfl, fun i => upd_at _ _ _ _⟩
theorem zk_at_deal {x : zPd} (hz : zpd x) : gPd_at x ≤ gPd_at (f_X5_readDeal x).2 := (zk_deal hz).2.2.1
theorem ord_deal {x : zPd} {S : zMs} {c : Int32} (hP : PR x S) (hat : gPd_at x = gMs_sp S) (hlt : gPd_at x < gPd_n x) (hc : c = nI 98 ∨ c = nI 108) : orderR x S (f_X5_readDeal (sPd_kd (sPd_at x (gPd_at x + 1)) c)) (finO (f_X8_takeOrdering (sMs_wr (sMs_sp S (gMs_sp S + 1)) false)) c) := by
  obtain ⟨d1, d2, d3, d4⟩ := deal_sim (x := sPd_kd (sPd_at x (gPd_at x + 1)) c) (S := sMs_wr (sMs_sp S (gMs_sp S + 1)) false) (PR_x hP rfl rfl rfl rfl) (show gPd_at x + 1 = gMs_sp S + 1 by rw [hat]) hlt rfl
  have hk := zk_at_deal (x := sPd_kd (sPd_at x (gPd_at x + 1)) c) ⟨hP.2.1, hlt, hP.2.2.2⟩
  generalize f_X5_readDeal (sPd_kd (sPd_at x (gPd_at x + 1)) c) = r at d1 d2 d3 d4 hk ⊢
  generalize f_X8_takeOrdering (sMs_wr (sMs_sp S (gMs_sp S + 1)) false) = O at d1 d2 d3 d4 ⊢
  refine ⟨d1, fun hr => ?_, fun hr => fin_fail (d4 hr)⟩
  obtain ⟨e1, e2, e3, e4, e5, e6, e7⟩ := d3 hr
  obtain ⟨f1, f2, f3, f4⟩ := fin_ok (c := c) e1
  have hk2 : gPd_kd r.2 = c := d2
  have e4' : gMs_od O = gMs_od S := e4
  have e2' : ∀ i, gMs_nu O i = if i = 3 * gMs_od S + 2 then gPd_hr r.2 else if i = 3 * gMs_od S + 1 then gPd_nu r.2 else if i = 3 * gMs_od S then gPd_ho r.2 else gMs_nu S i := e2
  refine ⟨f1, by rw [f2, e4'], ⟨?_, fun _ => ⟨?_, ?_, ?_⟩, fun q => ?_⟩, fun i hi => ?_, fun i hi => ?_, hk, fun _ => ⟨e5, ?_, e7⟩⟩
  · rw [f4, if_pos e4'.symm, hk2]
  · rw [f3, e2', if_neg (by omega), if_neg (by omega), if_pos rfl]
  · rw [f3, e2', if_neg (by omega), if_pos rfl]
  · rw [f3, e2', if_pos rfl]
  · rw [hk2] at q
    rcases hc with rfl | rfl <;> exact absurd q (by decide)
  · rw [f4, if_neg (by rw [e4']; omega), e3]
  · rw [f3, e2', if_neg (by omega), if_neg (by omega), if_neg (by omega)]
  · have e6' : (gPd_nu r.2).toInt ≤ 125000 * ((gPd_at r.2 : Int) - ((gPd_at x + 1 : Nat) : Int)) := e6
    omega
theorem ord_num {x : zPd} {S : zMs} {c : Int32} (hP : PR x S) (hat : gPd_at x = gMs_sp S) (hlt : gPd_at x < gPd_n x) (hc : c = nI 105 ∨ c = nI 113) : orderR x S ((if (f_X5_readNumber (sPd_kd (sPd_at x (gPd_at x + 1)) c) (nI 1000000)).1 < 0 then false else true), sPd_nu (f_X5_readNumber (sPd_kd (sPd_at x (gPd_at x + 1)) c) (nI 1000000)).2 (f_X5_readNumber (sPd_kd (sPd_at x (gPd_at x + 1)) c) (nI 1000000)).1) (finO (f_X8_takeNumber (sMs_wr (sMs_sp S (gMs_sp S + 1)) false) 0 (nI 1000000)) c) := by
  obtain ⟨p, q1, q2, q3, q4, q5⟩ := number_sim (x := sPd_kd (sPd_at x (gPd_at x + 1)) c) (S := sMs_wr (sMs_sp S (gMs_sp S + 1)) false) (pl := 0) (gr := nI 1000000) (PR_x hP rfl rfl rfl rfl) (show gPd_at x + 1 = gMs_sp S + 1 by rw [hat]) hlt rfl (by decide)
  generalize f_X5_readNumber (sPd_kd (sPd_at x (gPd_at x + 1)) c) (nI 1000000) = r at q1 q5 ⊢
  rw [q1]
  rcases q5 with ⟨v1, v2, v3, v4, v5⟩ | ⟨v1, v2⟩
  · rw [v2, if_neg (show ¬ r.1 < 0 by rw [sw_0]; omega)]
    generalize hO : sMs_nu (sMs_sp (sMs_wr (sMs_sp S (gMs_sp S + 1)) false) p) (upd (gMs_nu (sMs_wr (sMs_sp S (gMs_sp S + 1)) false)) (3 * gMs_od (sMs_wr (sMs_sp S (gMs_sp S + 1)) false) + 0) r.1) = O
    have o1 : gMs_wr O = false ∧ gMs_od O = gMs_od S ∧ gMs_so O = gMs_so S ∧ gMs_nu O = upd (gMs_nu S) (3 * gMs_od S) r.1 ∧ gMs_sp O = p := by rw [← hO]; exact ⟨rfl, rfl, rfl, rfl, rfl⟩
    clear hO
    obtain ⟨o1, o2, o3, o4, o5⟩ := o1
    obtain ⟨f1, f2, f3, f4⟩ := fin_ok (c := c) o1
    refine ⟨o5.symm, fun _ => ⟨f1, by rw [f2, o2], ⟨?_, fun q => ?_, fun _ => ?_⟩, fun i hi => ?_, fun i hi => ?_, ?_, fun _ => ⟨v1, ?_, v4⟩⟩, fun z => (by cases z)⟩
    · rw [f4, if_pos o2.symm]
    · have q' : c = nI 98 ∨ c = nI 108 := q
      rcases hc with rfl | rfl <;> exact absurd q' (by decide)
    · rw [f3, o4, upd_at, if_pos rfl]
    · rw [f4, if_neg (by rw [o2]; omega), o3]
    · rw [f3, o4, upd_at, if_neg (by omega)]
    · show gPd_at x + 1 ≤ p
      exact q4
    · have v3' : r.1.toInt ≤ 125000 * ((p : Int) - ((gPd_at x + 1 : Nat) : Int) + 2) := v3
      show r.1.toInt ≤ 125000 * ((p : Int) - (gPd_at x : Int) + 1)
      omega
  · rw [v1, if_pos (show (-1 : Int32) < 0 by decide)]
    exact ⟨q2.symm, fun z => (by cases z), fun _ => fin_fail v2⟩
theorem ord_bare {x : zPd} {S : zMs} {c : Int32} (hat : gPd_at x = gMs_sp S) (hc : c = nI 100 ∨ c = nI 112) : orderR x S (true, sPd_kd (sPd_at x (gPd_at x + 1)) c) (finO (sMs_wr (sMs_sp S (gMs_sp S + 1)) false) c) := by
  obtain ⟨f1, f2, f3, f4⟩ := fin_ok (O := sMs_wr (sMs_sp S (gMs_sp S + 1)) false) (c := c) rfl
  refine ⟨show gPd_at x + 1 = gMs_sp S + 1 by rw [hat], fun _ => ⟨f1, f2, ⟨?_, fun q => ?_, fun q => ?_⟩, fun i hi => ?_, fun i hi => ?_, Nat.le_refl _, fun q => ?_⟩, fun z => (by cases z)⟩
  · rw [f4, if_pos rfl]
  · have q' : c = nI 98 ∨ c = nI 108 := q
    rcases hc with rfl | rfl <;> exact absurd q' (by decide)
  · have q' : c = nI 105 ∨ c = nI 113 := q
    rcases hc with rfl | rfl <;> exact absurd q' (by decide)
  · rw [f4, if_neg (show ¬ i = gMs_od S by omega)]
  · rw [f3]
  · have q' : c = nI 98 ∨ c = nI 105 := q
    rcases hc with rfl | rfl <;> exact absurd q' (by decide)
theorem order_sim {x : zPd} {S : zMs} (hP : PR x S) (hat : gPd_at x = gMs_sp S) (hle : gPd_at x ≤ gPd_n x) (hw : gMs_wr S = false) : orderR x S (f_X5_readOrder x) (f_X8_takeOrder S) := by
  have hn : f_X8_next S = f_X5_signAt x (gPd_at x) := by rw [next_sign hP, ← hat]
  have hlt : ¬ f_X5_signAt x (gPd_at x) = 0 → gPd_at x < gPd_n x := fun h => xsign_lt h
  unfold f_X5_readOrder f_X8_takeOrder
  rw [zsl_e, zsl_e]
  dsimp only
  rw [hn]
  generalize f_X5_signAt x (gPd_at x) = c at hlt
  by_cases c1 : c = nI 98
  · subst c1
    exact ord_deal hP hat (hlt (by decide)) (Or.inl rfl)
  by_cases c2 : c = nI 100
  · subst c2
    exact ord_bare hat (Or.inl rfl)
  by_cases c3 : c = nI 105
  · subst c3
    exact ord_num hP hat (hlt (by decide)) (Or.inl rfl)
  by_cases c4 : c = nI 108
  · subst c4
    exact ord_deal hP hat (hlt (by decide)) (Or.inr rfl)
  by_cases c5 : c = nI 112
  · subst c5
    exact ord_bare hat (Or.inr rfl)
  by_cases c6 : c = nI 113
  · subst c6
    exact ord_num hP hat (hlt (by decide)) (Or.inr rfl)
  rw [if_neg c1, if_neg c2, if_neg c3, if_neg c4, if_neg c5, if_neg c6, if_neg c1, if_neg c4, if_neg c6, if_neg c3, if_neg c2, if_neg c5, if_neg (show ¬ true = false by decide)]
  exact ⟨hat, fun z => (by cases z), fun _ => Or.inl rfl⟩
