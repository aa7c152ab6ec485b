/-! what holds of orders, told by their list -/
def okL (mx : Int) (l : List (Int32 × Int32 × Int32)) : Prop := l.length ≤ 20 ∧ (∀ t ∈ l, vp_in t.1 6 ∧ 1 ≤ t.2.1.toInt ∧ t.2.1.toInt ≤ mx) ∧ l.Pairwise (fun a b => a.2.2 ≤ b.2.2)
theorem oL_get {o : zOd} {i : Nat} (h : i < (oL o).length) : (oL o)[i] = trO o i := by
  have e : (oL o)[i]? = some (trO o i) := by
    have hi : i < gOd_n o := by rw [oL_len] at h; exact h
    show ((List.range (gOd_n o)).map (trO o))[i]? = _
    rw [List.getElem?_map, List.getElem?_range hi]; rfl
  rw [List.getElem?_eq_getElem h] at e
  exact Option.some.inj e
theorem oL_mem {o : zOd} {t : Int32 × Int32 × Int32} : t ∈ oL o ↔ ∃ i, i < gOd_n o ∧ trO o i = t := by
  unfold oL
  rw [List.mem_map]
  constructor
  · rintro ⟨i, h1, h2⟩; exact ⟨i, List.mem_range.mp h1, h2⟩
  · rintro ⟨i, h1, h2⟩; exact ⟨i, List.mem_range.mpr h1, h2⟩
theorem iO_iff {mx : Int} {o : zOd} : iO mx o ↔ okL mx (oL o) := by
  unfold iO okL
  rw [oL_len, List.pairwise_iff_getElem]
  constructor
  · rintro ⟨h1, h2, h3⟩
    refine ⟨h1, fun t ht => ?_, fun i j hi hj hij => ?_⟩
    · obtain ⟨i, a, rfl⟩ := oL_mem.mp ht
      exact h2 i a
    · rw [oL_get, oL_get]
      rw [oL_len] at hj
      exact h3 i j (Nat.le_of_lt hij) hj
  · rintro ⟨h1, h2, h3⟩
    refine ⟨h1, fun i hi => h2 _ (oL_mem.mpr ⟨i, hi, rfl⟩), fun i j hij hj => ?_⟩
    by_cases e : i = j
    · subst e; exact Int32.le_refl _
    · have := h3 i j (by rw [oL_len]; omega) (by rw [oL_len]; exact hj) (by omega)
      rw [oL_get, oL_get] at this
      exact this
/-- a holder's bound units, told by the list -/
def lS (h : Nat) : List (Int32 × Int32 × Int32) → Int
  | [] => 0
  | t :: l => (if t.1 = nI h then t.2.1.toInt else 0) + lS h l
theorem lS_app (h : Nat) : ∀ a b : List (Int32 × Int32 × Int32), lS h (a ++ b) = lS h a + lS h b
  | [], b => by show lS h b = 0 + lS h b; omega
  | t :: a, b => by
    show _ + lS h (a ++ b) = _ + lS h a + lS h b
    rw [lS_app h a b]; omega
theorem hS_lS (o : zOd) (h : Nat) : hS o h = lS h (oL o) := by
  unfold hS oL
  generalize gOd_n o = n
  induction n with
  | zero => rfl
  | succ n ih =>
    rw [range_map_succ, lS_app, ← ih]
    show _ + _ = _ + ((if (trO o n).1 = nI h then (trO o n).2.1.toInt else 0) + 0)
    rw [Int.add_zero]
    rfl
/-- all units of a list -/
def lT : List (Int32 × Int32 × Int32) → Int
  | [] => 0
  | t :: l => t.2.1.toInt + lT l
theorem lT_app : ∀ a b : List (Int32 × Int32 × Int32), lT (a ++ b) = lT a + lT b
  | [], b => by show lT b = 0 + lT b; omega
  | t :: a, b => by
    show _ + lT (a ++ b) = _ + lT a + lT b
    rw [lT_app a b]; omega
theorem lT_nn : ∀ l : List (Int32 × Int32 × Int32), (∀ t ∈ l, 0 ≤ t.2.1.toInt) → 0 ≤ lT l
  | [], _ => Int.le_refl _
  | t :: l, h => by
    have h1 := h t List.mem_cons_self
    have h2 := lT_nn l (fun t ht => h t (List.mem_cons_of_mem _ ht))
    show 0 ≤ _ + lT l
    omega
theorem pO_iff {t : Int32 × Int32 × Int32} : pO t = true ↔ 0 < t.2.1.toInt := by
  unfold pO
  rw [decide_eq_true_eq, i32_le_iff]
  show ¬ _ ≤ (0 : Int) ↔ _
  omega
theorem lS_filter (h : Nat) : ∀ l : List (Int32 × Int32 × Int32), (∀ t ∈ l, 0 ≤ t.2.1.toInt) → lS h (l.filter pO) = lS h l
  | [], _ => rfl
  | t :: l, hp => by
    have h1 := hp t List.mem_cons_self
    have h2 := lS_filter h l (fun t ht => hp t (List.mem_cons_of_mem _ ht))
    rw [List.filter_cons]
    by_cases c : pO t = true
    · rw [if_pos c]
      show _ + lS h (l.filter pO) = _ + lS h l
      rw [h2]
    · rw [if_neg c, h2]
      have : ¬ 0 < t.2.1.toInt := fun z => c (pO_iff.mpr z)
      show _ = (if _ then _ else 0) + lS h l
      split <;> omega
theorem hS_drop {o : zOd} (hz : ∀ i, i < gOd_n o → 0 ≤ (gOd_sz o i).toInt) (h : Nat) : hS (f_X4_dropEmpty o) h = hS o h := by
  rw [hS_lS, hS_lS, drop_oL]
  exact lS_filter h _ (fun t ht => by
    obtain ⟨i, a, rfl⟩ := oL_mem.mp ht
    exact hz i a)
theorem iO_drop {mx : Int} {o : zOd} (hn : gOd_n o ≤ 20) (hz : ∀ i, i < gOd_n o → vp_in (gOd_ho o i) 6 ∧ (gOd_sz o i).toInt ≤ mx) (hs : oSort o) : iO mx (f_X4_dropEmpty o) := by
  rw [iO_iff, drop_oL]
  refine ⟨Nat.le_trans (List.length_filter_le _ _) (by rw [oL_len]; exact hn), fun t ht => ?_, ?_⟩
  · obtain ⟨h1, h2⟩ := List.mem_filter.mp ht
    obtain ⟨i, a, rfl⟩ := oL_mem.mp h1
    exact ⟨(hz i a).1, pO_iff.mp h2, (hz i a).2⟩
  · apply List.Pairwise.filter
    rw [List.pairwise_iff_getElem]
    intro i j hi hj hij
    rw [oL_get, oL_get]
    rw [oL_len] at hj
    exact hs i j (Nat.le_of_lt hij) hj
/-- the empty orders go on both sides -/
theorem drop_RO {X : zMs} {o : zOd} (hR : RO 122 o (gMs_at X)) (hn : gOd_n o ≤ 20) (hz : ∀ i, i < gOd_n o → 0 ≤ (gOd_sz o i).toInt) : RO 122 (f_X4_dropEmpty o) (gMs_at (L_X8_pay2 (zcn X 122 + 1) X (zcn X 122)).1) ∧ (∀ i, i < 122 ∨ 183 ≤ i → gMs_at (L_X8_pay2 (zcn X 122 + 1) X (zcn X 122)).1 i = gMs_at X i) ∧ (L_X8_pay2 (zcn X 122 + 1) X (zcn X 122)).1 = sMs_at X (gMs_at (L_X8_pay2 (zcn X 122 + 1) X (zcn X 122)).1) := by
  rw [zcn_o hR hn]
  obtain ⟨n', r0, r1, r2, r3, r4⟩ := pay2_spec (gOd_n o) (gOd_n o) X hR.1 hn (Nat.le_refl _)
  refine ⟨RO_list r1 ?_, r3, r4⟩
  rw [r2, List.take_of_length_le (by rw [aL_len]; exact Nat.le_refl _), List.drop_of_length_le (by rw [aL_len]; exact Nat.le_refl _), List.append_nil, (RO_iff.mp hR).2, drop_oL, List.filter_map]
  congr 1
  refine List.filter_congr (fun t ht => ?_)
  obtain ⟨i, a, rfl⟩ := oL_mem.mp ht
  have hi := hz i a
  have key : pA (upT (trO o i)) = true ↔ pO (trO o i) = true := by
    rw [pO_iff]
    unfold pA
    rw [decide_eq_true_eq, i64_eq_iff]
    show ¬ ((gOd_sz o i).toInt64).toInt = (0 : Int) ↔ 0 < (gOd_sz o i).toInt
    rw [i32_l]; omega
  show pA (upT (trO o i)) = pO (trO o i)
  cases h1 : pA (upT (trO o i)) <;> cases h2 : pO (trO o i)
  · rfl
  · exact absurd (key.mpr h2) (by rw [h1]; decide)
  · exact absurd (key.mp h1) (by rw [h2]; decide)
  · rfl
