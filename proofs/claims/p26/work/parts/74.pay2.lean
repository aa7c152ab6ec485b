/-! all who leave -/
theorem iP_w {T0 T : zTr} {k k' : Nat} (h : iP T0 T k) (hk : k ≤ k') : iP T0 T k' := ⟨h.1, h.2.1, h.2.2.1, h.2.2.2.1, h.2.2.2.2.1, h.2.2.2.2.2.1, h.2.2.2.2.2.2.1, fun i hi => ⟨fun q => (h.2.2.2.2.2.2.2 i hi).1 (Nat.le_trans hk q), (h.2.2.2.2.2.2.2 i hi).2⟩⟩
/-- both sides while those who leave are paid -/
def PS (S0 : zMs) (T0 : zTr) (x : zDd) (sm : Nat → Int64) (T : zTr) (X : zMs) (k : Nat) : Prop := simD S0 sm T X ∧ iP T0 T k ∧ iLa x (gTr_la T) ∧ iSd T0 T
theorem PS_n {S0 : zMs} {T0 : zTr} {x : zDd} {sm : Nat → Int64} {due k : Nat} {T : zTr} {X : zMs} (hc : ctx T0 x sm due) (h : PS S0 T0 x sm T X k) : zcn X 122 = gOd_n (gTr_le T0) := by
  have h1 := h.1.2.2.2.1
  have h2 := h.2.1.1.2.2.2.2.1
  rw [zcn_o h1 (by rw [h2]; exact hc.2.1.1), h2]
/-- a share that is none: nothing is done -/
theorem pay_none {X : zMs} {price inc : Int64} {go : Bool} {k f : Nat} (h : zcn X 122 ≤ k ∨ go = false ∨ gMs_sh X k ≤ 0) : (L_X8_pay1 price inc (f + 1) X go k) = if zcn X 122 ≤ k ∨ go = false then (X, go, k) else L_X8_pay1 price inc f X go (k + 1) := by
  rw [L_X8_pay1_s]
  by_cases c1 : zcn X 122 ≤ k
  · rw [if_pos c1, if_pos (Or.inl c1)]
  · rw [if_neg c1]
    by_cases c2 : go = false
    · rw [if_pos c2, if_pos (Or.inr c2)]
    · have c3 : gMs_sh X k ≤ 0 := by
        rcases h with h | h | h
        · exact absurd h c1
        · exact absurd h c2
        · exact h
      have hor : ¬ (zcn X 122 ≤ k ∨ go = false) := fun z => z.elim c1 c2
      rw [if_neg c2, if_neg hor]
      dsimp only
      rw [if_pos c3, if_pos c3, if_pos c3]
theorem pay_zero (price inc : Int64) (X : zMs) (go : Bool) (k : Nat) : L_X8_pay1 price inc 0 X go k = (X, go, k) := rfl
theorem pay_unf {price inc : Int64} {X : zMs} {k : Nat} (f : Nat) (h : ¬ zcn X 122 ≤ k) : L_X8_pay1 price inc (f + 1) X true k = L_X8_pay1 price inc f (L_X8_pay1 price inc (0 + 1) X true k).1 (L_X8_pay1 price inc (0 + 1) X true k).2.1 (L_X8_pay1 price inc (0 + 1) X true k).2.2 := by
  have c2 : ¬ true = false := by decide
  rw [L_X8_pay1_s price inc f X true k, L_X8_pay1_s price inc 0 X true k]
  simp only [if_neg h, if_neg c2, pay_zero]
theorem pay_tail {price inc : Int64} {X : zMs} : ∀ (f k : Nat) (go : Bool), zcn X 122 ≤ 20 → (∀ i, k ≤ i → i < 20 → gMs_sh X i ≤ 0) → (L_X8_pay1 price inc f X go k).1 = X
  | 0, k, go, _, _ => rfl
  | f + 1, k, go, hn, h => by
    have c : zcn X 122 ≤ k ∨ go = false ∨ gMs_sh X k ≤ 0 := by
      by_cases q : zcn X 122 ≤ k
      · exact Or.inl q
      · exact Or.inr (Or.inr (h k (Nat.le_refl _) (by omega)))
    rw [pay_none c]
    split
    · rfl
    · exact pay_tail f (k + 1) go hn (fun i a b => h i (by omega) b)
theorem pay_one {S0 : zMs} {T0 : zTr} {x : zDd} {sm : Nat → Int64} {due k : Nat} {T : zTr} {X : zMs} {go : Bool} (hc : ctx T0 x sm due) (h : PS S0 T0 x sm T X k) :
    ∃ T', PS S0 T0 x sm T' (L_X8_pay1 (gDd_price x) (gDd_ui x) (0 + 1) X go k).1 (L_X8_pay1 (gDd_price x) (gDd_ui x) (0 + 1) X go k).2.2 := by
  have hsh : gMs_sh X = sm := by rw [h.1.1]
  have hzn := PS_n hc h
  by_cases c : zcn X 122 ≤ k ∨ go = false ∨ gMs_sh X k ≤ 0
  · rw [pay_none c]
    split
    · exact ⟨T, h⟩
    · exact ⟨T, h.1, iP_w h.2.1 (Nat.le_succ _), h.2.2⟩
  · have c1 : ¬ zcn X 122 ≤ k := fun z => c (Or.inl z)
    have c2 : go = true := by cases go; exact absurd (Or.inr (Or.inl rfl)) c; rfl
    have c3 : ¬ sm k ≤ 0 := fun z => c (Or.inr (Or.inr (by rw [hsh]; exact z)))
    have hkd : k < due := by
      rcases Nat.lt_or_ge k due with q | q
      · exact q
      · have := hc.2.1.1
        have := hc.2.2.2.2.2.2.1 k q (by omega)
        rw [this] at c3
        exact absurd (Int64.le_refl 0) c3
    subst c2
    have hs : 0 < (gDd_sh x k).toInt := by
      have := (hc.2.2.2.2.2.1 k hkd).1
      rw [this, i64_le_iff] at c3
      have z0 : (0 : Int64).toInt = 0 := rfl
      omega
    obtain ⟨-, q2, q3, q4, q5, q6⟩ := pay_step hc h.2.1 h.2.2.1 h.2.2.2 h.1 hkd hs
    exact ⟨_, q3, by rw [q2]; exact q4, q5, q6⟩
theorem pay_loop {S0 : zMs} {T0 : zTr} {x : zDd} {sm : Nat → Int64} {due : Nat} (hc : ctx T0 x sm due) : ∀ (m k f : Nat) (T : zTr) (X : zMs) (go : Bool), k + m = due → gOd_n (gTr_le T0) - k < f → PS S0 T0 x sm T X k →
    PS S0 T0 x sm (L_X0_pay x due (m + 1) T go k).1 (L_X8_pay1 (gDd_price x) (gDd_ui x) f X go k).1 (gOd_n (gTr_le T0)) := by
  have hd := hc.2.2.2.1
  have hn20 := hc.2.1.1
  intro m
  induction m with
  | zero =>
    intro k f T X go hk hf h
    have hsh : gMs_sh X = sm := by rw [h.1.1]
    have hzn := PS_n hc h
    rw [L_X0_pay_s, if_pos (by omega)]
    have e := pay_tail (price := gDd_price x) (inc := gDd_ui x) (X := X) f k go (by omega) (fun i a b => by
      rw [hsh, hc.2.2.2.2.2.2.1 i (by omega) b]; exact Int64.le_refl 0)
    rw [e]
    exact ⟨h.1, iP_w h.2.1 (by omega), h.2.2⟩
  | succ m ih =>
    intro k f T X go hk hf h
    have hsh : gMs_sh X = sm := by rw [h.1.1]
    have hzn := PS_n hc h
    obtain ⟨f, rfl⟩ : ∃ n, f = n + 1 := ⟨f - 1, by omega⟩
    rw [L_X0_pay_s, if_neg (by omega)]
    cases go with
    | false =>
      rw [if_pos rfl, pay_none (Or.inr (Or.inl rfl)), if_pos (Or.inr rfl)]
      exact ⟨h.1, iP_w h.2.1 (by omega), h.2.2⟩
    | true =>
      rw [if_neg (by decide)]
      dsimp only
      have hsk := (hc.2.2.2.2.2.1 k (by omega)).1
      by_cases c : gDd_sh x k ≤ 0
      · rw [if_pos c, if_pos c, pay_none (Or.inr (Or.inr (by rw [hsh, hsk]; exact c))), if_neg (fun z => z.elim (fun z => by omega) (fun z => by cases z))]
        exact ih (k + 1) f T X true (by omega) (by omega) ⟨h.1, iP_w h.2.1 (Nat.le_succ _), h.2.2⟩
      · rw [if_neg c, if_neg c]
        have hs : 0 < (gDd_sh x k).toInt := by
          rw [i64_le_iff] at c
          have z0 : (0 : Int64).toInt = 0 := rfl
          omega
        obtain ⟨q1, q2, q3, q4, q5, q6⟩ := pay_step hc h.2.1 h.2.2.1 h.2.2.2 h.1 (by omega) hs
        have e := pay_unf (price := gDd_price x) (inc := gDd_ui x) (X := X) (k := k) f (by omega)
        rw [e, q1, q2]
        exact ih (k + 1) f _ _ _ (by omega) (by omega) ⟨q3, q4, q5, q6⟩
/-- what the reference asks of a state in which those who leave are paid -/
theorem okp_of {S0 S' : zMs} {T0 : zTr} {x : zDd} {sm : Nat → Int64} {due k : Nat} {T : zTr} {X : zMs} {go : Bool} (hc : ctx T0 x sm due) (hS' : zcn S' 122 = gOd_n (gTr_le T0)) (h : PS S0 T0 x sm T X k) : okp_pay S' X go k := by
  have hzn := PS_n hc h
  have hn20 := hc.2.1.1
  have hsh : gMs_sh X = sm := by rw [h.1.1]
  obtain ⟨hX, hRC, hRb, hRl, hRm⟩ := h.1
  have e5 := h.2.1.1.2.2.2.2.1
  have e6 := h.2.1.1.2.2.2.2.2.1
  refine ⟨zCk_o hRl (by omega), by rw [hzn, hS'], fun hk hgo Y hYs hYa h0 => ?_⟩
  have hkd : k < due := by
    rcases Nat.lt_or_ge k due with q | q
    · exact q
    · rw [hYs, hsh, hc.2.2.2.2.2.2.1 k q (by omega)] at h0
      exact absurd h0 (by decide)
  obtain ⟨j1, j2⟩ := hJ_of hc.2.1 (k := k) (by omega)
  obtain ⟨s1, s2, s3, s4, -⟩ := share_in hc h.2.1 hkd
  have hsk : gMs_sh Y k = gDd_sh x k := by rw [hYs, hsh]; exact (hc.2.2.2.2.2.1 k hkd).1
  have ho := (ofO_eq hRl (i := k) (by omega)).2.2
  rw [e6, j1] at ho
  have hz : zho X k = hJ T0 k := by
    unfold zho
    rw [ho, i32_l, nI_int (by omega)]
    rfl
  refine ⟨?_, by rw [hz]; exact j2, fun hf => ?_⟩
  · show gMs_at Y (122 + 1 + 3 * k + 0) = _
    rw [hYa _ (by omega)]
    refine Eq.trans (show gMs_at X (122 + 1 + 3 * k + 0) = _ from ho) ?_
    rw [hz, nI_l (by omega)]
  · rw [hz] at hf
    have hof : f_X8_of Y (hJ T0 k) 0 = gHd_old (gTr_hd T (hJ T0 k)) := by
      show gMs_at Y (19 + 7 * hJ T0 k + 0) = _
      rw [hYa _ (by omega)]
      exact (hRC.2.2.2.2.2.2.2 _ j2).1
    rw [hsk, hof, i64_min_le] at hf
    have hne := ui_ne h.2.1.2.2.2.2.1 j2 ⟨s1, s4⟩ hf
    have hall : f_X8_allNew Y = f_X6_newUnits T := by
      rw [new_z]
      refine zsum_congr 6 (fun i hi => ?_)
      show gMs_at Y (19 + 7 * i + 1) = _
      rw [hYa _ (by omega)]
      exact (hRC.2.2.2.2.2.2.2 i hi).2.1
    rw [hall]
    exact hne
