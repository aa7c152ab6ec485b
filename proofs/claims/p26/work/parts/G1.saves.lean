/-! saving, bringing back, undoing. Written by wip/p26/law12.py -/
theorem X7_restore {T : zTr} {y : zHs} {s : zSl} {k : Nat} (hk : k < 2) (hv : gSl_sv s k = nI 1) : f_X7_restore T y s (jI (k : Int)) = (gTr_day (f_X6_become T (gSl_st s k)), f_X6_become T (gSl_st s k), hist2 y T (gTr_day (f_X6_become T (gSl_st s k)))) := by
  have e0 : ¬ jI (k : Int) < 0 := not_neg ⟨by omega, by omega⟩
  have e1 : jI (k : Int) < nI 2 := by rw [show nI 2 = jI 2 from (jI_n 2).symm, jI_lt ⟨by omega, by omega⟩ ⟨by decide, by decide⟩]; omega
  have e2 : (jI (k : Int)).toNatClampNeg = k := by
    rcases (show k = 0 ∨ k = 1 by omega) with rfl | rfl <;> rfl
  unfold f_X7_restore
  rw [if_neg e0, if_pos e1, e2, if_neg (by rw [hv]; decide)]
  show ((f_X1_keep (f_X1_hold y T) _).1, _, hist2 y T _) = _
  rw [keep_1]
theorem save_sp {D c : Int} {T : zTr} {z : zPd} {y : zHs} {s : zSl} (h : GI D c T) (hO : LO T z y s) {k : Nat} (hk : k < 2) : ∃ s', f_X7_save T s (jI (k : Int)) = (jI (dI T), s') ∧ LO T z y s' ∧ gSl_sv s' k = nI 1 ∧ TE (gSl_st s' k) T := by
  have e0 : ¬ jI (k : Int) < 0 := not_neg ⟨by omega, by omega⟩
  have e1 : jI (k : Int) < nI 2 := by rw [show nI 2 = jI 2 from (jI_n 2).symm, jI_lt ⟨by omega, by omega⟩ ⟨by decide, by decide⟩]; omega
  have e2 : (jI (k : Int)).toNatClampNeg = k := by
    rcases (show k = 0 ∨ k = 1 by omega) with rfl | rfl <;> rfl
  have e : f_X7_save T s (jI (k : Int)) = (jI (dI T), sSl_sv (sSl_st s (zup (gSl_st s) k (f_X6_become (gSl_st s k) T))) (upd (gSl_sv s) k (nI 1))) := by
    unfold f_X7_save
    rw [if_neg e0, if_pos e1, e2]
    show (gTr_day T, _) = _
    rw [jI_of (gTr_day T)]
    rfl
  obtain ⟨g1, g2, g3, g4⟩ := hO
  have hB := become_TE (gSl_st s k) T
  refine ⟨_, e, ⟨g1, g2, fun i hi => ?_, g4⟩, ?_, ?_⟩
  · show oN (zup (gSl_st s) k _ i)
    rw [zup_at]
    by_cases c : i = k
    · rw [if_pos c]; exact TE_oN hB (GI_oN h)
    · rw [if_neg c]; exact g3 i hi
  · show upd (gSl_sv s) k (nI 1) k = nI 1
    rw [upd_at, if_pos rfl]
  · show TE (zup (gSl_st s) k _ k) T
    rw [zup_at, if_pos rfl]
    exact hB
theorem rest_sp {D c D' c' : Int} {T U : zTr} {z : zPd} {y : zHs} {s : zSl} (h : GI D c U) (hT : GI D' c' T) (hO : LO T z y s) {k : Nat} (hk : k < 2) (hv : gSl_sv s k = nI 1) (hs : TE (gSl_st s k) U) : ∃ T' y', f_X7_restore T y s (jI (k : Int)) = (jI (dI U), T', y') ∧ TE T' U ∧ GI D c T' ∧ LO T' z y' s := by
  have hB := TE_trans (become_TE T (gSl_st s k)) hs
  have e := X7_restore (T := T) (y := y) hk hv
  have ed : gTr_day (f_X6_become T (gSl_st s k)) = jI (dI U) := by rw [jI_of (gTr_day _), ← (TE_v hB).2.2.2.2.2.2.2.2.1]; rfl
  rw [ed] at e
  exact ⟨_, _, e, hB, TE_GI hB h, LO_mk hO (TE_GI hB h) (HO_hist (LO_HO hO) (GI_oN hT) _)⟩
theorem undo_sp {D c : Int} {T u : zTr} {z : zPd} {y : zHs} {s : zSl} {l : List zTr} (hO : LO T z y s) (h : HL y (u :: l)) (hu : GI D c u) : ∃ (T' : zTr) (y' : zHs) (r : Int), f_X7_undo T y = (jI r, T', y') ∧ (0 ≤ r ∧ r ≤ 6) ∧ TE T' u ∧ GI D c T' ∧ LO T' z y' s ∧ HL y' l := by
  obtain ⟨T', y', e, hc, ht, hy, hl⟩ := HL_undo (T := T) (LO_HO hO) h
  exact ⟨T', y', ((gHs_count y - 1 : Nat) : Int), by rw [← jI_n]; exact e, ⟨by omega, by omega⟩, ht, TE_GI ht hu, LO_mk hO (TE_GI ht hu) hy, hl⟩
/-- the states to be undone, and what stands before them -/
def BK (T : zTr) : List zTr → zTr → Prop
  | [], t => TE t T
  | u :: l, _ => (∃ D c, GI D c u) ∧ BK T l u
theorem BK_TE {T : zTr} {l : List zTr} {t u : zTr} (e : TE t u) (h : BK T l u) : BK T l t := by
  cases l with
  | nil => exact TE_trans e h
  | cons v l => exact h
theorem op_HL {y : zHs} {t : zTr} {l : List zTr} {r : Int} (hO : HO y) (h : HL y l) (hl5 : l.length ≤ 5) (hr : 0 ≤ r ∧ r < 2147483648) : HL (hist2 y t (jI r)) (t :: l) := HL_yes hO h hl5 (not_neg hr)
