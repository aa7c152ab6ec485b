/-! the past, as a list: the latest states first -/
def HL (y : zHs) (l : List zTr) : Prop := l.length ≤ gHs_count y ∧ ∀ (i : Nat) (u : zTr), l[i]? = some u → TE (gHs_st y ((gHs_first y + (gHs_count y - 1 - i)) % 7)) u
def HO (y : zHs) : Prop := gHs_first y < 7 ∧ gHs_count y ≤ 6 ∧ ∀ i, i < 7 → oN (gHs_st y i)
theorem HL_nil (y : zHs) : HL y [] := ⟨Nat.zero_le _, fun i u h => by simp at h⟩
theorem hist_cases {y : zHs} (t : zTr) (r : Int32) (hc : gHs_count y ≤ 6) : (r < 0 ∧ hist2 y t r = sHs_st y (zup (gHs_st y) ((gHs_first y + gHs_count y) % 7) (f_X6_become (gHs_st y ((gHs_first y + gHs_count y) % 7)) t))) ∨ (¬ r < 0 ∧ gHs_st (hist2 y t r) = zup (gHs_st y) ((gHs_first y + gHs_count y) % 7) (f_X6_become (gHs_st y ((gHs_first y + gHs_count y) % 7)) t) ∧ ((gHs_count y < 6 ∧ gHs_first (hist2 y t r) = gHs_first y ∧ gHs_count (hist2 y t r) = gHs_count y + 1) ∨ (gHs_count y = 6 ∧ gHs_first (hist2 y t r) = (gHs_first y + 1) % 7 ∧ gHs_count (hist2 y t r) = 6))) := by
  by_cases h : r < 0
  · exact Or.inl ⟨h, hist_no h⟩
  · obtain ⟨h1, h2, h3⟩ := hist_yes (t := t) h hc
    refine Or.inr ⟨h, h1, ?_⟩
    by_cases c : gHs_count y < 6
    · exact Or.inl ⟨c, h2 c⟩
    · exact Or.inr ⟨by omega, h3 (by omega)⟩
theorem HO_hist {y : zHs} {t : zTr} (h : HO y) (ht : oN t) (r : Int32) : HO (hist2 y t r) := by
  obtain ⟨h1, h2, h3⟩ := h
  have hn := hist_oN h3 ht
  rcases hist_cases t r h2 with ⟨-, e⟩ | ⟨-, e, ⟨c, e1, e2⟩ | ⟨c, e1, e2⟩⟩
  · rw [e]; exact ⟨h1, h2, hn⟩
  · exact ⟨by rw [e1]; exact h1, by rw [e2]; omega, by rw [e]; exact hn⟩
  · exact ⟨by rw [e1]; omega, by rw [e2]; omega, by rw [e]; exact hn⟩
theorem HL_no {y : zHs} {t : zTr} {l : List zTr} {r : Int32} (hO : HO y) (h : HL y l) (hr : r < 0) : HL (hist2 y t r) l := by
  rw [hist_no hr]
  refine ⟨h.1, fun i u hi => ?_⟩
  have := h.2 i u hi
  have hl := (List.getElem?_eq_some_iff.mp hi).1
  have hc := h.1
  have h6 := hO.2.1
  show TE (zup (gHs_st y) ((gHs_first y + gHs_count y) % 7) _ ((gHs_first y + (gHs_count y - 1 - i)) % 7)) u
  rw [zup_at, if_neg (by omega)]
  exact this
theorem HL_yes {y : zHs} {t : zTr} {l : List zTr} {r : Int32} (hO : HO y) (h : HL y l) (hl5 : l.length ≤ 5) (hr : ¬ r < 0) : HL (hist2 y t r) (t :: l) := by
  have hc := h.1
  have hf := hO.1
  rcases hist_cases t r hO.2.1 with ⟨e, -⟩ | ⟨-, e, ⟨c, e1, e2⟩ | ⟨c, e1, e2⟩⟩
  · exact absurd e hr
  · refine ⟨by rw [e2]; simp; omega, fun i u hi => ?_⟩
    rw [e, e1, e2]
    cases i with
    | zero =>
      have hu : t = u := by simpa using hi
      subst hu
      rw [zup_at, if_pos (by omega)]
      exact become_TE _ _
    | succ i =>
      have hi2 : l[i]? = some u := by simpa using hi
      have hl := (List.getElem?_eq_some_iff.mp hi2).1
      rw [zup_at, if_neg (by omega)]
      have := h.2 i u hi2
      rw [show gHs_count y + 1 - 1 - (i + 1) = gHs_count y - 1 - i by omega]
      exact this
  · refine ⟨by rw [e2]; simp; omega, fun i u hi => ?_⟩
    rw [e, e1, e2]
    cases i with
    | zero =>
      have hu : t = u := by simpa using hi
      subst hu
      rw [zup_at, if_pos (by omega)]
      exact become_TE _ _
    | succ i =>
      have hi2 : l[i]? = some u := by simpa using hi
      have hl := (List.getElem?_eq_some_iff.mp hi2).1
      rw [zup_at, if_neg (by omega)]
      have := h.2 i u hi2
      rw [show ((gHs_first y + 1) % 7 + (6 - 1 - (i + 1))) % 7 = (gHs_first y + (gHs_count y - 1 - i)) % 7 by omega]
      exact this
/-- undoing brings the latest state back -/
theorem HL_undo {y : zHs} {T u : zTr} {l : List zTr} (hO : HO y) (h : HL y (u :: l)) : ∃ T' y', f_X7_undo T y = (nI (gHs_count y - 1), T', y') ∧ gHs_count y ≤ 6 ∧ TE T' u ∧ HO y' ∧ HL y' l := by
  have hc := h.1
  have hc2 : ¬ gHs_count y = 0 := by simp at hc; omega
  have e : f_X7_undo T y = (nI (gHs_count y - 1), f_X6_become T (gHs_st y ((gHs_first y + (gHs_count y - 1)) % 7)), sHs_count y (gHs_count y - 1)) := by
    unfold f_X7_undo f_X1_takeBack
    dsimp only
    rw [if_neg hc2, if_neg hc2, if_neg hc2]
  refine ⟨_, _, e, hO.2.1, TE_trans (become_TE _ _) (h.2 0 u rfl), ⟨hO.1, ?_, hO.2.2⟩, ?_, fun i v hi => ?_⟩
  · have := hO.2.1
    show gHs_count y - 1 ≤ 6
    omega
  · simp at hc
    show l.length ≤ gHs_count y - 1
    omega
  · have := h.2 (i + 1) v (by simpa using hi)
    show TE (gHs_st y ((gHs_first y + (gHs_count y - 1 - 1 - i)) % 7)) v
    rw [show gHs_count y - 1 - 1 - i = gHs_count y - 1 - (i + 1) by omega]
    exact this
theorem GI_oN {D c : Int} {T : zTr} (h : GI D c T) : oN T := ⟨h.1.2.1.1, h.1.2.2.1.1⟩
theorem LO_HO {T : zTr} {z : zPd} {y : zHs} {s : zSl} (h : LO T z y s) : HO y := h.2.1
theorem LO_mk {D c : Int} {T T' : zTr} {z : zPd} {y y' : zHs} {s : zSl} (h : LO T z y s) (hG : GI D c T') (hy : HO y') : LO T' z y' s := ⟨Inv_ok hG.1, hy, h.2.2⟩
theorem TE_GI {D c : Int} {T U : zTr} (h : TE T U) (hG : GI D c U) : GI D c T := by
  have hI := TE_Inv h hG.1
  obtain ⟨-, ⟨x1, x2, x3, x4, x5⟩, hD⟩ := hG
  have hp := TE_pPhi h
  have hS := TE_gP h 0
  obtain ⟨h1, h2, h3, h4, h5, h6, h7, h8, ⟨h9, h10⟩, ⟨h11, h12⟩, h13⟩ := h
  have hb : ∀ i, i < 6 → boI T i = boI U i ∧ paI T i = paI U i ∧ inI T i = inI U i ∧ eeI T i = eeI U i ∧ loI T i = loI U i := fun i hi => by
    unfold boI paI inI eeI loI
    rw [h8 i hi]
    exact ⟨rfl, rfl, rfl, rfl, rfl⟩
  have s1 : isum (boI T) 6 = isum (boI U) 6 := isum_congr 6 (fun i hi => (hb i hi).1)
  have s2 : isum (paI T) 6 = isum (paI U) 6 := isum_congr 6 (fun i hi => (hb i hi).2.1)
  have s3 : isum (inI T) 6 = isum (inI U) 6 := isum_congr 6 (fun i hi => (hb i hi).2.2.1)
  have s4 : pS (gTr_bu T) 0 = pS (gTr_bu U) 0 := by
    have e1 := @pS_oL (gTr_bu T)
    have e2 := @pS_oL (gTr_bu U)
    rw [e1, e2, h10]
  refine ⟨hI, ⟨fun i hi => ?_, ?_, ?_, ?_, fun i hi => ?_, fun i hi => ?_⟩, hD⟩
  · obtain ⟨b1, b2, b3, b4, b5⟩ := hb i hi
    rw [b1, b2, b3, b4, b5]
    exact x1 i hi
  · rw [s1]; unfold evI; rw [h3]; exact x2
  · rw [s1, s4]; exact x3
  · rw [hp, s2, s3]; exact x4
  · have g := x5.1 i (by omega)
    have e : trO (gTr_bu T) i = trO (gTr_bu U) i := by
      unfold oL at h10
      rw [h9] at h10
      exact map_range_inj h10 i (by omega)
    have e2 : gOd_dy (gTr_bu T) i = gOd_dy (gTr_bu U) i := congrArg (fun t => t.2.2) e
    unfold dI oD at g ⊢
    rw [h6, e2]
    exact g
  · have g := x5.2 i (by omega)
    have e : trO (gTr_le T) i = trO (gTr_le U) i := by
      unfold oL at h12
      rw [h11] at h12
      exact map_range_inj h12 i (by omega)
    have e2 : gOd_dy (gTr_le T) i = gOd_dy (gTr_le U) i := congrArg (fun t => t.2.2) e
    unfold oD at g ⊢
    rw [e2]
    exact g
