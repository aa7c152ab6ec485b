theorem Int_le_of {a b : Int} (h : a = b) : a ≤ b + 0 := by omega
/-! set -/
theorem RC_set {T : zTr} {A : Nat → Int64} {j : Nat} (v : Int32) (hj : j < 5) (h : RC T A) : RC (sTr_st T (upd (gTr_st T) j v)) (vp_updL A j v.toInt64) := by
  obtain ⟨r1, r5, r6, r7, r8, r9, r10, rh⟩ := h
  refine ⟨fun k hk => ?_, ?_, ?_, ?_, ?_, ?_, ?_, fun i hi => ?_⟩
  · show _ = (upd (gTr_st T) j v k).toInt64
    rw [upd_at, vp_updL_at]
    by_cases e : k = j
    · rw [if_pos e, if_pos e]
    · rw [if_neg e, if_neg e]; exact r1 k hk
  · rw [vp_updL_n _ _ (by omega)]; exact r5
  · rw [vp_updL_n _ _ (by omega)]; exact r6
  · rw [vp_updL_n _ _ (by omega)]; exact r7
  · rw [vp_updL_n _ _ (by omega)]; exact r8
  · rw [vp_updL_n _ _ (by omega)]; exact r9
  · rw [vp_updL_n _ _ (by omega)]; exact r10
  · rw [vp_updL_n _ _ (by omega), vp_updL_n _ _ (by omega), vp_updL_n _ _ (by omega), vp_updL_n _ _ (by omega), vp_updL_n _ _ (by omega), vp_updL_n _ _ (by omega), vp_updL_n _ _ (by omega)]; exact rh i hi
theorem iB_set {T : zTr} {j : Nat} {v : Int32} (hj : j < 5) (hv : 0 ≤ v.toInt ∧ v.toInt ≤ (zGi j).toInt) (h : iB T) : iB (sTr_st T (upd (gTr_st T) j v)) := by
  refine ⟨fun k hk => ?_, h.2⟩
  show 0 ≤ (upd (gTr_st T) j v k).toInt ∧ (upd (gTr_st T) j v k).toInt ≤ _
  rw [upd_at]
  by_cases e : k = j
  · subst e; rw [if_pos rfl]; exact hv
  · rw [if_neg e]; exact h.1 k hk
theorem Inv_set {D : Int} {T : zTr} {j : Nat} {v : Int32} (hj : j < 5) (hv : 0 ≤ v.toInt ∧ v.toInt ≤ (zGi j).toInt) (h : Inv D T) : Inv D (sTr_st T (upd (gTr_st T) j v)) := ⟨iB_set hj hv h.1, h.2.1, h.2.2.1, h.2.2.2.1, h.2.2.2.2⟩
theorem RTr_set {D : Int} {T : zTr} {A : Nat → Int64} {j : Nat} (v : Int32) (hI : Inv D T) (hj : j < 5) (h : RTr T A) : RTr (sTr_st T (upd (gTr_st T) j v)) (vp_updL A j v.toInt64) := RTr_C hI h (RC_set v hj h.1) (fun i hi => vp_updL_n _ _ (by omega)) rfl rfl rfl
theorem pPhi_st {T : zTr} (f : Nat → Int32) : pPhi (sTr_st T f) = pPhi T := rfl
theorem set_op {D : Int} {T : zTr} {S : zMs} (se v : Int32) (hI : Inv D T) (hR : RTr T (gMs_at S)) : opR D T S true (f_X6_changeSetting T se v) (f_X8_set S se v) 20000000 0 := by
  unfold f_X8_set f_X6_changeSetting
  rw [zsl_e]
  dsimp only
  have z0 : (0 : Int32).toInt = 0 := rfl
  have z5 : (nI 5).toInt = 5 := rfl
  have hin : f_X8_in se.toInt64 0 4 = false ↔ ¬ (0 ≤ se.toInt ∧ se.toInt ≤ 4) := by rw [in_false, i32_l]; rfl
  by_cases c1 : se < 0
  · rw [if_pos c1]
    rw [i32_lt_iff, z0] at c1
    rw [if_pos (hin.mpr (by omega))]; exact opR_no (by decide)
  rw [if_neg c1]
  rw [i32_lt_iff, z0] at c1
  by_cases c2 : nI 5 ≤ se
  · rw [if_pos c2]
    rw [i32_le_iff, z5] at c2
    rw [if_pos (hin.mpr (by omega))]; exact opR_no (by decide)
  rw [if_neg c2]
  rw [i32_le_iff, z5] at c2
  rw [if_neg (fun z => hin.mp z (by omega))]
  obtain ⟨j, hj, rfl⟩ := nI_of (x := se) (by rw [i32_lt_iff, z0]; exact c1)
  rw [nI_int hj] at c1 c2
  rw [nI_clamp hj]
  have hG : (lN (if nI j = 0 then 23 else if nI j = nI 2 then 100 else if nI j = nI 4 then 50 else 1000)).toInt = (zGi j).toInt := by
    rcases (show j = 0 ∨ j = 1 ∨ j = 2 ∨ j = 3 ∨ j = 4 by omega) with rfl | rfl | rfl | rfl | rfl <;> rfl
  have hin2 : f_X8_in v.toInt64 0 (lN (if nI j = 0 then 23 else if nI j = nI 2 then 100 else if nI j = nI 4 then 50 else 1000)) = false ↔ ¬ (0 ≤ v.toInt ∧ v.toInt ≤ (zGi j).toInt) := by rw [in_false, i32_l, hG]; rfl
  have hst := hI.1.1 j (by omega)
  by_cases c3 : v < 0
  · rw [if_pos c3]
    rw [i32_lt_iff, z0] at c3
    rw [if_pos (hin2.mpr (by omega))]; exact opR_no (by decide)
  rw [if_neg c3]
  rw [i32_lt_iff, z0] at c3
  by_cases c4 : v ≤ zGi j
  · rw [if_pos c4]
    rw [i32_le_iff] at c4
    rw [if_neg (fun z => hin2.mp z (by omega))]
    have hk : gMs_at (f_X8_keep S) = gMs_at S := rfl
    rw [hk, hR.1.1 j (by omega), i_l_i]
    exact opR_yes (b := true) _ hst.1 (RTr_set v hI (by omega) hR) (Inv_set (by omega) ⟨by omega, c4⟩ hI) (by rw [pPhi_st]; omega) (Int_le_of rfl)
  · rw [if_neg c4]
    rw [i32_le_iff] at c4
    rw [if_pos (hin2.mpr (by omega))]; exact opR_no (by decide)
/-! income -/
theorem RC_cash {T : zTr} {A : Nat → Int64} (c p : Int64) (h : RC T A) : RC (sTr_pool (sTr_cash T c) p) (vp_updL (vp_updL A 5 c) 8 p) := by
  obtain ⟨r1, r5, r6, r7, r8, r9, r10, rh⟩ := h
  have e : ∀ i, i ≠ 5 → i ≠ 8 → vp_updL (vp_updL A 5 c) 8 p i = A i := fun i h1 h2 => by rw [vp_updL_n _ _ h2, vp_updL_n _ _ h1]
  refine ⟨fun k hk => (e k (by omega) (by omega)).trans (r1 k hk), ?_, (e 6 (by omega) (by omega)).trans r6, (e 7 (by omega) (by omega)).trans r7, ?_, (e 9 (by omega) (by omega)).trans r9, (e 10 (by omega) (by omega)).trans r10, fun i hi => ?_⟩
  · rw [vp_updL_n _ _ (by omega), vp_updL_s]
  · rw [vp_updL_s]
  · obtain ⟨h0, h1, h2, h3, h4, h5, h6⟩ := rh i hi
    exact ⟨(e _ (by omega) (by omega)).trans h0, (e _ (by omega) (by omega)).trans h1, (e _ (by omega) (by omega)).trans h2, (e _ (by omega) (by omega)).trans h3, (e _ (by omega) (by omega)).trans h4, (e _ (by omega) (by omega)).trans h5, (e _ (by omega) (by omega)).trans h6⟩
theorem gP_bd {D : Int} {T : zTr} (hI : Inv D T) {B : Int} (hg : gP 50000 T ≤ B) : 5 * (gTr_cash T).toInt ≤ B ∧ 0 ≤ pS (gTr_bu T) 0 := by
  have h1 := pS_nn hI.2.1 0
  have h2 := hI.1.2.1
  unfold gP at hg
  omega
theorem income_op {D : Int} {T : zTr} {S : zMs} (a : Int32) (b : Bool) (hI : Inv D T) (hR : RTr T (gMs_at S)) (hg : gP 50000 T ≤ 10700000000) : opR D T S b (f_X6_takeIncome T a) (f_X8_tryIncome S a b) 20000000 (if 0 ≤ a.toInt then 5 * a.toInt else 0) := by
  unfold f_X8_tryIncome f_X6_takeIncome
  rw [zsl_e, issue_eq hR.1]
  have z1 : (nI 1).toInt = 1 := rfl
  have z2 : (nI 1000000).toInt = 1000000 := rfl
  have hin : f_X8_in a.toInt64 1 1000000 = false ↔ ¬ (1 ≤ a.toInt ∧ a.toInt ≤ 1000000) := by rw [in_false, i32_l]; rfl
  by_cases c : 1 ≤ a.toInt ∧ a.toInt ≤ 1000000
  · have c1 : ¬ a < nI 1 := by rw [i32_lt_iff, z1]; omega
    have c2 : a ≤ nI 1000000 := by rw [i32_le_iff, z2]; omega
    rw [if_neg c1, if_pos c2, if_neg (fun z => hin.mp z c), if_pos (show 0 ≤ a.toInt by omega)]
    try dsimp only
    by_cases c3 : f_X6_units T = 0
    · rw [if_pos c3, if_pos c3]; exact opR_no (by decide)
    rw [if_neg c3, if_neg c3, keepIf_at]
    have h8 : vp_updL (gMs_at S) 5 (gMs_at S 5 + a.toInt64) 8 = gMs_at S 8 := vp_updL_n _ _ (by decide)
    rw [h8, vp_updL_s, hR.1.2.1, hR.1.2.2.2.2.1]
    obtain ⟨g1, g2⟩ := gP_bd hI hg
    have hIs := hI
    obtain ⟨hB, hOb, hOl, hE, hdy, hYb, hYl⟩ := hI
    have hp := hB.2.2.2.1
    have q1 : (gTr_pool T + a.toInt64).toInt = (gTr_pool T).toInt + a.toInt := i64_add rfl (i32_l _) (by omega) (by omega)
    have q2 : (gTr_cash T + a.toInt64).toInt = (gTr_cash T).toInt + a.toInt := i64_add rfl (i32_l _) (by omega) (by omega)
    refine opR_yes _ ?_ (RTr_C hIs hR (RC_cash _ _ hR.1) (fun i hi => by rw [vp_updL_n _ _ (by omega), vp_updL_n _ _ (by omega)]) rfl rfl rfl) ⟨⟨hB.1, hB.2.1, hB.2.2.1, ⟨?_, ?_, ?_⟩, hB.2.2.2.2⟩, hOb, hOl, hE, hdy, hYb, hYl⟩ ?_ ?_
    · rw [l_i32 (by omega) (by omega)]; omega
    · show 0 ≤ (gTr_pool T + a.toInt64).toInt
      omega
    · show (gTr_pool T + a.toInt64).toInt ≤ (gTr_cash T + a.toInt64).toInt
      omega
    · show (gTr_cash T + a.toInt64).toInt ≤ 10000000000
      omega
    · unfold pPhi gP
      show 5 * (gTr_cash T + a.toInt64).toInt + 5 * pS (gTr_bu T) 0 + (20000 + 4 * (gTr_quote T).toInt) * (gTr_lots T).toInt + 2000 * (10000 - (gTr_quote T).toInt) ≤ _
      omega
    · unfold gP
      show 5 * (gTr_cash T + a.toInt64).toInt + 5 * pS (gTr_bu T) 0 + 50000 * (gTr_lots T).toInt ≤ _
      omega
  · by_cases c1 : a < nI 1
    · rw [if_pos c1, if_pos (hin.mpr c)]; exact opR_no (by decide)
    · have c2 : ¬ a ≤ nI 1000000 := by
        rw [i32_le_iff, z2]; rw [i32_lt_iff, z1] at c1; omega
      rw [if_neg c1, if_neg c2, if_pos (hin.mpr c)]; exact opR_no (by decide)
