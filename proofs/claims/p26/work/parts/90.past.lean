/-! the days gone by -/
theorem RTr_ext {D : Int} {t : zTr} {A B : Nat → Int64} (hI : Inv D t) (h : RTr t A) (e : ∀ i, i < 183 → B i = A i) : RTr t B := by
  obtain ⟨⟨r1, r5, r6, r7, r8, r9, r10, rh⟩, hb, hl, hd⟩ := h
  refine ⟨⟨fun k hk => ?_, ?_, ?_, ?_, ?_, ?_, ?_, fun i hi => ?_⟩, ?_, ?_, ?_⟩
  · rw [e k (by omega)]; exact r1 k hk
  · rw [e 5 (by omega)]; exact r5
  · rw [e 6 (by omega)]; exact r6
  · rw [e 7 (by omega)]; exact r7
  · rw [e 8 (by omega)]; exact r8
  · rw [e 9 (by omega)]; exact r9
  · rw [e 10 (by omega)]; exact r10
  · rw [e (19 + 7 * i + 0) (by omega), e (19 + 7 * i + 1) (by omega), e (19 + 7 * i + 2) (by omega), e (19 + 7 * i + 3) (by omega), e (19 + 7 * i + 4) (by omega), e (19 + 7 * i + 5) (by omega), e (19 + 7 * i + 6) (by omega)]; exact rh i hi
  · exact RO_ext hI.2.1.1 hb (fun i h1 h2 => e i (by omega))
  · exact RO_ext hI.2.2.1.1 hl (fun i h1 h2 => e i (by omega))
  · obtain ⟨d1, d2, d3⟩ := hd
    refine ⟨by rw [e 18 (by omega)]; exact d1, by rw [e 11 (by omega)]; exact d2, fun z => ?_⟩
    rw [e 12 (by omega), e 13 (by omega), e 14 (by omega), e 15 (by omega), e 16 (by omega), e 17 (by omega)]
    exact d3 z
/-- a trust on both sides, and what it is worth at most -/
def gT (b D : Int) (t : zTr) (A : Nat → Int64) : Prop := RTr t A ∧ Inv D t ∧ pPhi t ≤ b
theorem Inv_mono {D D' : Int} {t : zTr} (h : D ≤ D') (hI : Inv D t) : Inv D' t := ⟨hI.1, hI.2.1, hI.2.2.1, hI.2.2.2.1, ⟨hI.2.2.2.2.1.1, Int.le_trans hI.2.2.2.2.1.2 h⟩, hI.2.2.2.2.2⟩
theorem gT_mono {b b' D D' : Int} {t : zTr} {A : Nat → Int64} (h1 : b ≤ b') (h2 : D ≤ D') (h : gT b D t A) : gT b' D' t A := ⟨h.1, Inv_mono h2 h.2.1, Int.le_trans h.2.2 h1⟩
theorem gT_ext {b D : Int} {t : zTr} {A B : Nat → Int64} (h : gT b D t A) (e : ∀ i, i < 183 → B i = A i) : gT b D t B := ⟨RTr_ext h.2.1 h.1 e, h.2⟩
theorem gT_TE {b D : Int} {t u : zTr} {A : Nat → Int64} (e : TE t u) (h : gT b D u A) : gT b D t A := ⟨TE_RTr e h.1, TE_Inv e h.2.1, by rw [TE_pPhi e]; exact h.2.2⟩
theorem gT_n {b D : Int} {t : zTr} {A : Nat → Int64} (h : gT b D t A) : gOd_n (gTr_bu t) ≤ 20 ∧ gOd_n (gTr_le t) ≤ 20 := ⟨h.2.1.2.1.1, h.2.1.2.2.1.1⟩
def oN (t : zTr) : Prop := gOd_n (gTr_bu t) ≤ 20 ∧ gOd_n (gTr_le t) ≤ 20
theorem TE_oN {t u : zTr} (e : TE t u) (h : oN u) : oN t := by
  unfold oN
  rw [e.2.2.2.2.2.2.2.2.1.1, e.2.2.2.2.2.2.2.2.2.1.1]; exact h
/-- the past on both sides -/
def HR (b D : Int) (y : zHs) (S : zMs) : Prop := gHs_first y < 7 ∧ gHs_count y ≤ 6 ∧ gMs_pm S = gHs_count y ∧ gMs_pf S < 6 ∧ (∀ i, i < 7 → oN (gHs_st y i)) ∧ ∀ i, i < gHs_count y → gT b D (gHs_st y ((gHs_first y + i) % 7)) (fun k => gMs_past S (183 * ((gMs_pf S + i) % 6) + k))
theorem HR_mono {b b' D D' : Int} {y : zHs} {S : zMs} (h1 : b ≤ b') (h2 : D ≤ D') (h : HR b D y S) : HR b' D' y S := ⟨h.1, h.2.1, h.2.2.1, h.2.2.2.1, h.2.2.2.2.1, fun i hi => gT_mono h1 h2 (h.2.2.2.2.2 i hi)⟩
theorem HR_S {b D : Int} {y : zHs} {S S' : zMs} (e1 : gMs_pm S' = gMs_pm S) (e2 : gMs_pf S' = gMs_pf S) (e3 : gMs_past S' = gMs_past S) (h : HR b D y S) : HR b D y S' := by
  unfold HR
  rw [e1, e2, e3]; exact h
/-- what the class makes of its past by an answer -/
noncomputable def hist2 (y : zHs) (t : zTr) (r : Int32) : zHs := sHs_count (sHs_first (f_X1_hold y t) (gHs_first (f_X1_keep (f_X1_hold y t) r).2)) (gHs_count (f_X1_keep (f_X1_hold y t) r).2)
theorem keep_1 (y : zHs) (r : Int32) : (f_X1_keep y r).1 = r := by
  unfold f_X1_keep
  dsimp only
  split
  · rfl
  · split <;> rfl
theorem keep_neg {y : zHs} {r : Int32} (h : r < 0) : f_X1_keep y r = (r, y) := by
  unfold f_X1_keep
  dsimp only
  rw [if_pos h, if_pos h]
theorem keep_less {y : zHs} {r : Int32} (h : ¬ r < 0) (c : gHs_count y < 6) : f_X1_keep y r = (r, sHs_count y (gHs_count y + 1)) := by
  unfold f_X1_keep
  dsimp only
  rw [if_neg h, if_neg (show ¬ 6 ≤ gHs_count y by omega)]
theorem keep_six {y : zHs} {r : Int32} (h : ¬ r < 0) (c : gHs_count y = 6) : f_X1_keep y r = (r, sHs_first y ((gHs_first y + 1) % 7)) := by
  unfold f_X1_keep
  dsimp only
  rw [if_neg h, if_pos (show 6 ≤ gHs_count y by omega), if_neg h]
theorem hist_no {y : zHs} {t : zTr} {r : Int32} (h : r < 0) : hist2 y t r = sHs_st y (zup (gHs_st y) ((gHs_first y + gHs_count y) % 7) (f_X6_become (gHs_st y ((gHs_first y + gHs_count y) % 7)) t)) := by
  unfold hist2
  rw [keep_neg h]
  rfl
theorem hist_yes {y : zHs} {t : zTr} {r : Int32} (h : ¬ r < 0) (hc : gHs_count y ≤ 6) : gHs_st (hist2 y t r) = zup (gHs_st y) ((gHs_first y + gHs_count y) % 7) (f_X6_become (gHs_st y ((gHs_first y + gHs_count y) % 7)) t) ∧ (gHs_count y < 6 → gHs_first (hist2 y t r) = gHs_first y ∧ gHs_count (hist2 y t r) = gHs_count y + 1) ∧ (gHs_count y = 6 → gHs_first (hist2 y t r) = (gHs_first y + 1) % 7 ∧ gHs_count (hist2 y t r) = 6) := by
  refine ⟨rfl, fun c => ?_, fun c => ?_⟩
  · unfold hist2
    rw [keep_less h (y := f_X1_hold y t) c]
    exact ⟨rfl, rfl⟩
  · unfold hist2
    rw [keep_six h (y := f_X1_hold y t) c]
    exact ⟨rfl, c⟩
theorem hist_oN {y : zHs} {t : zTr} (hN : ∀ i, i < 7 → oN (gHs_st y i)) (ht : oN t) : ∀ i, i < 7 → oN (zup (gHs_st y) ((gHs_first y + gHs_count y) % 7) (f_X6_become (gHs_st y ((gHs_first y + gHs_count y) % 7)) t) i) := fun i hi => by
  rw [zup_at]
  by_cases c : i = (gHs_first y + gHs_count y) % 7
  · rw [if_pos c]; exact TE_oN (become_TE _ _) ht
  · rw [if_neg c]; exact hN i hi
theorem HR_no {b D : Int} {y : zHs} {S : zMs} {t : zTr} {r : Int32} (h : HR b D y S) (ht : oN t) (hr : r < 0) : HR b D (hist2 y t r) S := by
  obtain ⟨h1, h2, h3, h4, h5, h6⟩ := h
  rw [hist_no hr]
  refine ⟨h1, h2, h3, h4, hist_oN h5 ht, fun i hi => ?_⟩
  have hi2 : i < gHs_count y := hi
  show gT b D (zup (gHs_st y) ((gHs_first y + gHs_count y) % 7) (f_X6_become (gHs_st y ((gHs_first y + gHs_count y) % 7)) t) ((gHs_first y + i) % 7)) _
  rw [zup_at, if_neg (by omega)]
  exact h6 i hi2
theorem keep_form (S : zMs) : gMs_past (f_X8_keep S) = va_cpy (gMs_at S) (gMs_past S) 0 (183 * ((gMs_pf (f_X8_keep S) + (gMs_pm (f_X8_keep S) - 1)) % 6)) 183 ∧ (gMs_pm S < 6 → gMs_pf (f_X8_keep S) = gMs_pf S ∧ gMs_pm (f_X8_keep S) = gMs_pm S + 1) ∧ (gMs_pm S = 6 → gMs_pf (f_X8_keep S) = (gMs_pf S + 1) % 6 ∧ gMs_pm (f_X8_keep S) = 6) := by
  unfold f_X8_keep
  dsimp only
  refine ⟨rfl, fun c => ?_, fun c => ?_⟩
  · rw [if_neg (show ¬ gMs_pm S = 6 by omega), if_neg (show ¬ gMs_pm S = 6 by omega)]
    exact ⟨rfl, rfl⟩
  · rw [if_pos c, if_pos c, c]
    exact ⟨rfl, rfl⟩
theorem HR_yes {b D : Int} {y : zHs} {S : zMs} {t : zTr} {r : Int32} (h : HR b D y S) (ht : gT b D t (gMs_at S)) (hr : ¬ r < 0) : HR b D (hist2 y t r) (f_X8_keep S) := by
  obtain ⟨h1, h2, h3, h4, h5, h6⟩ := h
  obtain ⟨k1, k2, k3⟩ := hist_yes (t := t) hr h2
  obtain ⟨m1, m2, m3⟩ := keep_form S
  have hb : gT b D (f_X6_become (gHs_st y ((gHs_first y + gHs_count y) % 7)) t) (gMs_at S) := gT_TE (become_TE _ _) ht
  have hN := hist_oN h5 (t := t) (gT_n ht)
  rw [← k1] at hN
  by_cases c : gHs_count y < 6
  · obtain ⟨f1, c1⟩ := k2 c
    obtain ⟨f2, c2⟩ := m2 (by omega)
    rw [f2, c2] at m1
    refine ⟨by rw [f1]; exact h1, by rw [c1]; omega, by rw [c1, c2, h3], by rw [f2]; exact h4, hN, fun i hi => ?_⟩
    rw [k1, m1, f1, f2, zup_at]
    rw [c1] at hi
    by_cases ci : i = gHs_count y
    · subst ci
      rw [if_pos rfl]
      refine gT_ext hb (fun k hk => ?_)
      show va_cpy _ _ 0 _ 183 _ = _
      rw [h3, show gHs_count y + 1 - 1 = gHs_count y by omega, zcpy_in _ _ (by omega)]
      exact congrArg (gMs_at S) (by omega)
    · rw [if_neg (by omega)]
      refine gT_ext (h6 i (by omega)) (fun k hk => ?_)
      show va_cpy _ _ 0 _ 183 _ = _
      rw [h3, show gHs_count y + 1 - 1 = gHs_count y by omega, zcpy_out _ _ (by omega)]
  · obtain ⟨f1, c1⟩ := k3 (by omega)
    obtain ⟨f2, c2⟩ := m3 (by omega)
    rw [f2, c2] at m1
    refine ⟨by rw [f1]; omega, by rw [c1]; omega, by rw [c1, c2], by rw [f2]; omega, hN, fun i hi => ?_⟩
    rw [k1, m1, f1, f2, zup_at]
    rw [c1] at hi
    have c6 : gHs_count y = 6 := by omega
    rw [c6] at hb h6 ⊢
    by_cases ci : i = 5
    · subst ci
      rw [if_pos (by omega)]
      refine gT_ext hb (fun k hk => ?_)
      show va_cpy _ _ 0 _ 183 _ = _
      rw [zcpy_in _ _ (by omega)]
      exact congrArg (gMs_at S) (by omega)
    · rw [if_neg (by omega)]
      have q := h6 (i + 1) (by omega)
      have e1 : ((gHs_first y + 1) % 7 + i) % 7 = (gHs_first y + (i + 1)) % 7 := by omega
      have e2 : ((gMs_pf S + 1) % 6 + i) % 6 = (gMs_pf S + (i + 1)) % 6 := by omega
      rw [e1, e2]
      refine gT_ext q (fun k hk => ?_)
      show va_cpy _ _ 0 _ 183 _ = _
      rw [zcpy_out _ _ (by omega)]
