/-! units go and are made -/
theorem i64_min_le (x c : Int64) : (if x ≤ c then x else c) = (if c < x then c else x) := by
  by_cases h : x ≤ c
  · rw [if_pos h, if_neg (Int64.not_lt.mpr h)]
  · rw [if_neg h, if_pos (Int64.not_le.mp h)]
theorem i64_max0 (d : Int64) : (if 0 ≤ d then d else 0) = (if 0 < d then d else 0) := by
  by_cases h : 0 < d
  · rw [if_pos h, if_pos (Int64.le_of_lt h)]
  · rw [if_neg h]
    by_cases h2 : 0 ≤ d
    · rw [if_pos h2]
      rw [i64_lt_iff] at h; rw [i64_le_iff] at h2
      exact i64_eq_iff.mpr (by omega)
    · rw [if_neg h2]
theorem i64_zdiv {r : Int64} (h : 0 < r.toInt) : (0 : Int64) / r = 0 := i64_eq_iff.mpr (by
  rw [i64_div (x := 0) (y := r.toInt) rfl rfl (by omega) h, Int.zero_ediv]; rfl)
theorem f_add_s (S : zMs) (h w : Nat) (x : Int64) : gMs_at (f_X8_add S h w x) (19 + 7 * h + w) = gMs_at S (19 + 7 * h + w) + x := vp_updL_s _ _ _
/-- how many of the old ones go -/
def gOld (old many : Int64) : Int64 := if old < many then old else many
theorem go_at (S : zMs) {h : Nat} (hh : h < 6) (many inc : Int64) :
    gMs_at (f_X8_goUnits S h many inc) (19 + 7 * h + 0) = gMs_at S (19 + 7 * h + 0) - gOld (gMs_at S (19 + 7 * h + 0)) many ∧
    gMs_at (f_X8_goUnits S h many inc) (19 + 7 * h + 1) = gMs_at S (19 + 7 * h + 1) - (many - gOld (gMs_at S (19 + 7 * h + 0)) many) ∧
    gMs_at (f_X8_goUnits S h many inc) 8 = (if gMs_at S 5 < (if 0 < gMs_at S 8 - many * inc / 1000 then gMs_at S 8 - many * inc / 1000 else 0) then gMs_at S 5 else (if 0 < gMs_at S 8 - many * inc / 1000 then gMs_at S 8 - many * inc / 1000 else 0)) ∧
    gMs_at (f_X8_goUnits S h many inc) 9 = (if many - gOld (gMs_at S (19 + 7 * h + 0)) many ≤ 0 then gMs_at S 9 else gMs_at S 9 - (many - gOld (gMs_at S (19 + 7 * h + 0)) many) * gMs_at S 9 / f_X8_allNew S) ∧
    (∀ i, i ≠ 8 → i ≠ 9 → i ≠ 19 + 7 * h + 0 → i ≠ 19 + 7 * h + 1 → gMs_at (f_X8_goUnits S h many inc) i = gMs_at S i) := by
  unfold f_X8_goUnits
  rw [zsl_e]
  dsimp only
  rw [i64_max0]
  generalize hd : (if 0 < gMs_at S 8 - many * inc / 1000 then gMs_at S 8 - many * inc / 1000 else 0) = d
  have hof : f_X8_of (sMs_at S (vp_updL (gMs_at S) 8 d)) h 0 = gMs_at S (19 + 7 * h + 0) := f_of_lt S (by decide)
  rw [hof, i64_min_le]
  have hg : (if gMs_at S (19 + 7 * h + 0) < many then gMs_at S (19 + 7 * h + 0) else many) = gOld (gMs_at S (19 + 7 * h + 0)) many := rfl
  rw [hg]
  generalize gOld (gMs_at S (19 + 7 * h + 0)) many = g
  rw [f_allNew_lt S (by decide)]
  generalize hB : (if many - g ≤ 0 then vp_updL (gMs_at S) 8 d else vp_updL (vp_updL (gMs_at S) 8 d) 9 (vp_updL (gMs_at S) 8 d 9 - (many - g) * vp_updL (gMs_at S) 8 d 9 / f_X8_allNew S)) = B
  have b8 : B 8 = d := by
    rw [← hB]; split
    · exact vp_updL_s _ _ _
    · rw [vp_updL_n _ _ (by decide), vp_updL_s]
  have b9 : B 9 = (if many - g ≤ 0 then gMs_at S 9 else gMs_at S 9 - (many - g) * gMs_at S 9 / f_X8_allNew S) := by
    rw [← hB]
    by_cases c : many - g ≤ 0
    · rw [if_pos c, if_pos c, vp_updL_n _ _ (by decide)]
    · rw [if_neg c, if_neg c, vp_updL_s, vp_updL_n _ _ (by decide)]
  have bo : ∀ i, i ≠ 8 → i ≠ 9 → B i = gMs_at S i := fun i h1 h2 => by
    rw [← hB]; split
    · exact vp_updL_n _ _ h1
    · rw [vp_updL_n _ _ h2, vp_updL_n _ _ h1]
  generalize hX : f_X8_add (f_X8_add (sMs_at S B) h 0 (-g)) h 1 (-(many - g)) = X
  have x8 : gMs_at X 8 = d := by
    rw [← hX, f_add_at _ (by omega), f_add_at _ (by omega)]; exact b8
  have x5 : gMs_at X 5 = gMs_at S 5 := by
    rw [← hX, f_add_at _ (by omega), f_add_at _ (by omega)]; exact bo 5 (by decide) (by decide)
  refine ⟨?_, ?_, ?_, ?_, ?_⟩
  · rw [f_hold_at _ (by omega), ← hX, f_add_at _ (by omega), f_add_s]
    show B (19 + 7 * h + 0) + -g = _
    rw [bo _ (by omega) (by omega), Int64.sub_eq_add_neg]
  · rw [f_hold_at _ (by omega), ← hX, f_add_s, f_add_at _ (by omega)]
    show B (19 + 7 * h + 1) + -(many - g) = _
    rw [bo _ (by omega) (by omega), Int64.sub_eq_add_neg (gMs_at S (19 + 7 * h + 1))]
  · show vp_updL (gMs_at X) 8 (if gMs_at X 8 ≤ gMs_at X 5 then gMs_at X 8 else gMs_at X 5) 8 = _
    rw [vp_updL_s, x8, x5, i64_min_le]
  · rw [f_hold_at _ (by omega), ← hX, f_add_at _ (by omega), f_add_at _ (by omega)]; exact b9
  · intro i h1 h2 h3 h4
    rw [f_hold_at _ h1, ← hX, f_add_at _ h4, f_add_at _ h3]; exact bo i h1 h2
theorem gOld_int {o m : Int64} : (gOld o m).toInt = if o.toInt < m.toInt then o.toInt else m.toInt := by
  unfold gOld
  by_cases h : o < m
  · rw [if_pos h, if_pos (i64_lt_iff.mp h)]
  · rw [if_neg h, if_neg (fun z => h (i64_lt_iff.mpr z))]
/-- the evening pool: both sides alike -/
theorem even_eq {T : zTr} (hH : iH T) {h : Nat} (hh : h < 6) {un e : Int64} (hu : 0 ≤ un.toInt ∧ un.toInt ≤ uU T h) :
    (if un - gOld (gHd_old (gTr_hd T h)) un ≤ 0 then e else e - (un - gOld (gHd_old (gTr_hd T h)) un) * e / f_X6_newUnits T) = (if f_X6_newUnits T ≤ 0 then e else e - (un - gOld (gHd_old (gTr_hd T h)) un) * e / f_X6_newUnits T) := by
  have h1 := hH.1 h hh
  have h3 := uNew_ge hH hh
  have h4 : uU T h = uO T h + uN T h := rfl
  have h5 := uU_le hH hh
  have h6 := hH.2
  have hg := gOld_int (o := gHd_old (gTr_hd T h)) (m := un)
  have ho : (gHd_old (gTr_hd T h)).toInt = uO T h := rfl
  rw [ho] at hg
  have hgb : 0 ≤ (gOld (gHd_old (gTr_hd T h)) un).toInt ∧ (gOld (gHd_old (gTr_hd T h)) un).toInt ≤ un.toInt ∧ un.toInt - (gOld (gHd_old (gTr_hd T h)) un).toInt ≤ uN T h := by
    rw [hg]; split <;> omega
  have hf : (un - gOld (gHd_old (gTr_hd T h)) un).toInt = un.toInt - (gOld (gHd_old (gTr_hd T h)) un).toInt := i64_sub rfl rfl (by omega) (by omega)
  generalize un - gOld (gHd_old (gTr_hd T h)) un = f at hf ⊢
  have hn := new_int hH
  by_cases c : f ≤ 0
  · rw [if_pos c]
    rw [i64_le_iff] at c
    have hz : (0 : Int64).toInt = 0 := rfl
    have f0 : f = 0 := i64_eq_iff.mpr (by omega)
    by_cases c2 : f_X6_newUnits T ≤ 0
    · rw [if_pos c2]
    · rw [if_neg c2, f0, Int64.zero_mul, i64_zdiv (by rw [i64_le_iff] at c2; omega), Int64.sub_zero]
  · rw [if_neg c, if_neg]
    rw [i64_le_iff] at c ⊢
    have hz : (0 : Int64).toInt = 0 := rfl
    omega
theorem ui_ne {T : zTr} (hH : iH T) {h : Nat} (hh : h < 6) {un : Int64} (hu : 0 ≤ un.toInt ∧ un.toInt ≤ uU T h) (c : 0 < un - gOld (gHd_old (gTr_hd T h)) un) : ¬ f_X6_newUnits T = 0 := by
  have h1 := hH.1 h hh
  have h3 := uNew_ge hH hh
  have h4 : uU T h = uO T h + uN T h := rfl
  have h5 := uU_le hH hh
  have h6 := hH.2
  have hg := gOld_int (o := gHd_old (gTr_hd T h)) (m := un)
  have ho : (gHd_old (gTr_hd T h)).toInt = uO T h := rfl
  rw [ho] at hg
  have hgb : 0 ≤ (gOld (gHd_old (gTr_hd T h)) un).toInt ∧ (gOld (gHd_old (gTr_hd T h)) un).toInt ≤ un.toInt ∧ un.toInt - (gOld (gHd_old (gTr_hd T h)) un).toInt ≤ uN T h := by
    rw [hg]; split <;> omega
  have hf : (un - gOld (gHd_old (gTr_hd T h)) un).toInt = un.toInt - (gOld (gHd_old (gTr_hd T h)) un).toInt := i64_sub rfl rfl (by omega) (by omega)
  rw [i64_lt_iff, hf] at c
  have hz : (0 : Int64).toInt = 0 := rfl
  rw [i64_eq_iff, new_int hH]
  omega
/-- units go for cash: both sides alike -/
theorem take_eq {T : zTr} {S : zMs} (hR : RC T (gMs_at S)) (hH : iH T) {h : Nat} (hh : h < 6) {un am ofu : Int64} (hu : 0 ≤ un.toInt ∧ un.toInt ≤ uU T h) :
    RC (f_X6_takeUnits T h un am ofu) (gMs_at (f_X8_add (f_X8_goUnits (sMs_at S (vp_updL (gMs_at S) 5 (gMs_at S 5 - am))) h un ofu) h 3 am)) ∧
    ∀ i, (11 ≤ i ∧ i ≤ 18 ∨ 61 ≤ i) → gMs_at (f_X8_add (f_X8_goUnits (sMs_at S (vp_updL (gMs_at S) 5 (gMs_at S 5 - am))) h un ofu) h 3 am) i = gMs_at S i := by
  obtain ⟨r1, r5, r6, r7, r8, r9, r10, rh⟩ := hR
  generalize hS1 : sMs_at S (vp_updL (gMs_at S) 5 (gMs_at S 5 - am)) = S1
  have s5 : gMs_at S1 5 = gTr_cash T - am := by
    rw [← hS1]
    show vp_updL (gMs_at S) 5 (gMs_at S 5 - am) 5 = _
    rw [vp_updL_s, r5]
  have so : ∀ i, i ≠ 5 → gMs_at S1 i = gMs_at S i := fun i hi => by rw [← hS1]; exact vp_updL_n _ _ hi
  obtain ⟨g0, g1, g8, g9, go⟩ := go_at S1 hh un ofu
  have hn : f_X8_allNew S1 = f_X6_newUnits T := by
    rw [← hS1, f_allNew_lt S (by decide)]
    exact allNew_eq ⟨r1, r5, r6, r7, r8, r9, r10, rh⟩
  have e0 : gMs_at S1 (19 + 7 * h + 0) = gHd_old (gTr_hd T h) := (so _ (by omega)).trans (rh h hh).1
  have e1 : gMs_at S1 (19 + 7 * h + 1) = gHd_new (gTr_hd T h) := (so _ (by omega)).trans (rh h hh).2.1
  rw [e0] at g0 g1 g9
  rw [e1] at g1
  rw [s5, so 8 (by decide), r8] at g8
  rw [so 9 (by decide), r9, hn, even_eq hH hh hu] at g9
  generalize hG : f_X8_goUnits S1 h un ofu = G at g0 g1 g8 g9 go ⊢
  have hU : f_X6_takeUnits T h un am ofu = sTr_hd (sTr_even (sTr_pool (sTr_cash T (gTr_cash T - am)) (gMs_at G 8)) (gMs_at G 9)) (zup (gTr_hd T) h (sHd_paid (sHd_new (sHd_old (gTr_hd T h) (gHd_old (gTr_hd T h) - gOld (gHd_old (gTr_hd T h)) un)) (gHd_new (gTr_hd T h) - (un - gOld (gHd_old (gTr_hd T h)) un))) (gHd_paid (gTr_hd T h) + am))) := by
    rw [g8, g9]; rfl
  rw [hU]
  refine ⟨⟨fun k hk => ?_, ?_, ?_, ?_, ?_, ?_, ?_, fun j hj => ?_⟩, fun i hi => ?_⟩
  · rw [f_add_at _ (by omega), go _ (by omega) (by omega) (by omega) (by omega), so _ (by omega)]; exact r1 k hk
  · rw [f_add_at _ (by omega), go _ (by omega) (by omega) (by omega) (by omega)]; exact s5
  · rw [f_add_at _ (by omega), go _ (by omega) (by omega) (by omega) (by omega), so _ (by omega)]; exact r6
  · rw [f_add_at _ (by omega), go _ (by omega) (by omega) (by omega) (by omega), so _ (by omega)]; exact r7
  · rw [f_add_at _ (by omega)]
  · rw [f_add_at _ (by omega)]
  · rw [f_add_at _ (by omega), go _ (by omega) (by omega) (by omega) (by omega), so _ (by omega)]; exact r10
  · by_cases e : j = h
    · subst e
      obtain ⟨h0, h1, h2, h3, h4, h5, h6⟩ := rh j hj
      show _ = gHd_old (zup _ j _ j) ∧ _ = gHd_new (zup _ j _ j) ∧ _ = gHd_bought (zup _ j _ j) ∧ _ = gHd_paid (zup _ j _ j) ∧ _ = gHd_inc (zup _ j _ j) ∧ _ = gHd_eve (zup _ j _ j) ∧ _ = gHd_lots (zup _ j _ j)
      rw [zup_s]
      refine ⟨?_, ?_, ?_, ?_, ?_, ?_, ?_⟩
      · rw [f_add_at _ (by omega)]; exact g0
      · rw [f_add_at _ (by omega)]; exact g1
      · rw [f_add_at _ (by omega), go _ (by omega) (by omega) (by omega) (by omega), so _ (by omega)]; exact h2
      · rw [f_add_s, go _ (by omega) (by omega) (by omega) (by omega), so _ (by omega), h3]
      · rw [f_add_at _ (by omega), go _ (by omega) (by omega) (by omega) (by omega), so _ (by omega)]; exact h4
      · rw [f_add_at _ (by omega), go _ (by omega) (by omega) (by omega) (by omega), so _ (by omega)]; exact h5
      · rw [f_add_at _ (by omega), go _ (by omega) (by omega) (by omega) (by omega), so _ (by omega)]; exact h6
    · show _ = gHd_old (zup _ h _ j) ∧ _ = gHd_new (zup _ h _ j) ∧ _ = gHd_bought (zup _ h _ j) ∧ _ = gHd_paid (zup _ h _ j) ∧ _ = gHd_inc (zup _ h _ j) ∧ _ = gHd_eve (zup _ h _ j) ∧ _ = gHd_lots (zup _ h _ j)
      rw [zup_n _ _ e]
      have q : ∀ w, w < 7 → gMs_at (f_X8_add G h 3 am) (19 + 7 * j + w) = gMs_at S (19 + 7 * j + w) := fun w hw => by
        rw [f_add_at _ (by omega), go _ (by omega) (by omega) (by omega) (by omega), so _ (by omega)]
      rw [q 0 (by omega), q 1 (by omega), q 2 (by omega), q 3 (by omega), q 4 (by omega), q 5 (by omega), q 6 (by omega)]
      exact rh j hj
  · rw [f_add_at _ (by omega), go _ (by omega) (by omega) (by omega) (by omega), so _ (by omega)]
