/-! a trust that became another: the same in all that counts -/
theorem L_bst_at (u : zTr) (a b c : Int64) (d e f : Int32) : ∀ (m k : Nat) (G : Nat → Int32), k + m = 5 → ∀ j, (L_X6_bst u a b c d e f (m + 1) G k).1 j = if k ≤ j ∧ j < 5 then gTr_st u j else G j
  | 0, k, G, h, j => by
    rw [L_X6_bst_s, if_pos (by omega), if_neg (by omega)]
  | m + 1, k, G, h, j => by
    rw [L_X6_bst_s, if_neg (by omega)]
    dsimp only
    rw [L_bst_at u a b c d e f m (k + 1) _ (by omega) j, upd_at]
    by_cases c1 : j = k
    · subst c1
      rw [if_neg (by omega), if_pos rfl, if_pos (by omega)]
    · rw [if_neg c1]
      by_cases c2 : k + 1 ≤ j ∧ j < 5
      · rw [if_pos c2, if_pos (by omega)]
      · rw [if_neg c2, if_neg (by omega)]
theorem L_bhd_at (u : zTr) (a b c : Int64) (d e f : Int32) (G1 : Nat → Int32) (k1 : Nat) : ∀ (m k : Nat) (F : Nat → zHd), k + m = 6 → ∀ j, (L_X6_bhd u a b c d e f G1 k1 (m + 1) F k).1 j = if k ≤ j ∧ j < 6 then gTr_hd u j else F j
  | 0, k, F, h, j => by
    rw [L_X6_bhd_s, if_pos (by omega), if_neg (by omega)]
  | m + 1, k, F, h, j => by
    rw [L_X6_bhd_s, if_neg (by omega), L_bhd_at u a b c d e f G1 k1 m (k + 1) _ (by omega) j, zup_at]
    by_cases c1 : j = k
    · subst c1
      rw [if_neg (by omega), if_pos rfl, if_pos (by omega)]
    · rw [if_neg c1]
      by_cases c2 : k + 1 ≤ j ∧ j < 6
      · rw [if_pos c2, if_pos (by omega)]
      · rw [if_neg c2, if_neg (by omega)]
theorem L_bec_at (q : zOd) (v : Nat) : ∀ (m k : Nat) (X : zOd), k + m = gOd_n X → gOd_n (L_X4_bec q v (m + 1) X k).1 = gOd_n X ∧ ∀ j, trO (L_X4_bec q v (m + 1) X k).1 j = if k ≤ j ∧ j < gOd_n X then trO q j else trO X j
  | 0, k, X, h => by
    rw [L_X4_bec_s, if_pos (by omega)]
    exact ⟨rfl, fun j => by rw [if_neg (by omega)]⟩
  | m + 1, k, X, h => by
    rw [L_X4_bec_s, if_neg (by omega)]
    dsimp only
    obtain ⟨h1, h2⟩ := L_bec_at q v m (k + 1) (f_X4_write X k (gOd_ho q k) (gOd_sz q k) (gOd_dy q k)) (show k + 1 + m = gOd_n X by omega)
    refine ⟨h1, fun j => ?_⟩
    rw [h2 j, write_tr]
    show (if k + 1 ≤ j ∧ j < gOd_n X then trO q j else if j = k then (gOd_ho q k, gOd_sz q k, gOd_dy q k) else trO X j) = _
    by_cases c1 : j = k
    · subst c1
      rw [if_neg (by omega), if_pos rfl, if_pos (by omega)]; rfl
    · rw [if_neg c1]
      by_cases c2 : k + 1 ≤ j ∧ j < gOd_n X
      · rw [if_pos c2, if_pos (by omega)]
      · rw [if_neg c2, if_neg (by omega)]
theorem bec_oL (o q : zOd) : gOd_n (f_X4_become o q) = gOd_n q ∧ oL (f_X4_become o q) = oL q := by
  obtain ⟨h1, h2⟩ := L_bec_at q (gOd_n q) (gOd_n q) 0 (sOd_n o (gOd_n q)) (Nat.zero_add _)
  have e : gOd_n (f_X4_become o q) = gOd_n q := h1
  refine ⟨e, ?_⟩
  unfold oL
  rw [e]
  refine map_range_congr _ (fun i hi => ?_)
  refine (h2 i).trans (if_pos ⟨Nat.zero_le _, hi⟩)
/-- the same in all that counts -/
def TE (t u : zTr) : Prop := gTr_cash t = gTr_cash u ∧ gTr_pool t = gTr_pool u ∧ gTr_even t = gTr_even u ∧ gTr_lots t = gTr_lots u ∧ gTr_quote t = gTr_quote u ∧ gTr_day t = gTr_day u ∧ (∀ k, k < 5 → gTr_st t k = gTr_st u k) ∧ (∀ h, h < 6 → gTr_hd t h = gTr_hd u h) ∧ (gOd_n (gTr_bu t) = gOd_n (gTr_bu u) ∧ oL (gTr_bu t) = oL (gTr_bu u)) ∧ (gOd_n (gTr_le t) = gOd_n (gTr_le u) ∧ oL (gTr_le t) = oL (gTr_le u)) ∧ gTr_la t = gTr_la u
theorem become_TE (t u : zTr) : TE (f_X6_become t u) u := by
  refine ⟨rfl, rfl, rfl, rfl, rfl, rfl, fun k hk => ?_, fun h hh => ?_, bec_oL _ _, bec_oL _ _, rfl⟩
  · exact (L_bst_at u (gTr_cash u) (gTr_pool u) (gTr_even u) (gTr_lots u) (gTr_quote u) (gTr_day u) 5 0 (gTr_st t) rfl k).trans (if_pos ⟨Nat.zero_le _, hk⟩)
  · exact (L_bhd_at u (gTr_cash u) (gTr_pool u) (gTr_even u) (gTr_lots u) (gTr_quote u) (gTr_day u) (gTr_st t) 0 6 0 (gTr_hd t) rfl h).trans (if_pos ⟨Nat.zero_le _, hh⟩)
theorem TE_uU {t u : zTr} (h : TE t u) {i : Nat} (hi : i < 6) : uO t i = uO u i ∧ uN t i = uN u i ∧ uU t i = uU u i := by
  have e := h.2.2.2.2.2.2.2.1 i hi
  unfold uU uO uN
  rw [e]
  exact ⟨rfl, rfl, rfl⟩
theorem TE_RTr {t u : zTr} {A : Nat → Int64} (h : TE t u) (hR : RTr u A) : RTr t A := by
  obtain ⟨e1, e2, e3, e4, e5, e6, es, eh, eb, el, ea⟩ := h
  obtain ⟨⟨r1, r5, r6, r7, r8, r9, r10, rh⟩, hb, hl, hd⟩ := hR
  refine ⟨⟨fun k hk => ?_, ?_, ?_, ?_, ?_, ?_, ?_, fun i hi => ?_⟩, ?_, ?_, ?_⟩
  · rw [es k hk]; exact r1 k hk
  · rw [e1]; exact r5
  · rw [e4]; exact r6
  · rw [e5]; exact r7
  · rw [e2]; exact r8
  · rw [e3]; exact r9
  · rw [e6]; exact r10
  · rw [eh i hi]; exact rh i hi
  · rw [RO_iff, eb.1, eb.2]; exact RO_iff.mp hb
  · rw [RO_iff, el.1, el.2]; exact RO_iff.mp hl
  · rw [ea]; exact hd
theorem TE_iH {t u : zTr} (h : TE t u) (hH : iH u) : iH t := by
  refine ⟨fun i hi => ?_, ?_⟩
  · rw [(TE_uU h hi).1, (TE_uU h hi).2.1]; exact hH.1 i hi
  · have e : uAll t = uAll u := isum_congr 6 (fun i hi => (TE_uU h hi).2.2)
    rw [e]; exact hH.2
theorem iY_oL {d : Int} {o q : zOd} (e : oL o = oL q) (h : iY d q) : iY d o := fun i hi => by
  have hm : trO o i ∈ oL o := oL_mem.mpr ⟨i, hi, rfl⟩
  rw [e] at hm
  obtain ⟨j, hj, ej⟩ := oL_mem.mp hm
  have h2 : gOd_dy q j = gOd_dy o i := congrArg (fun t => t.2.2) ej
  rw [← h2]; exact h j hj
theorem TE_Inv {D : Int} {t u : zTr} (h : TE t u) (hI : Inv D u) : Inv D t := by
  have hu := fun i hi => TE_uU h (i := i) hi
  have hH := fun z => TE_iH h z
  obtain ⟨e1, e2, e3, e4, e5, e6, es, eh, eb, el, ea⟩ := h
  obtain ⟨⟨b1, b2, b3, b4, b5⟩, hob, hol, hE, hd, yb, yl⟩ := hI
  refine ⟨⟨fun k hk => ?_, by rw [e4]; exact b2, by rw [e5]; exact b3, by rw [e1, e2]; exact b4, hH b5⟩, ?_, ?_, fun i hi => ?_, by rw [e6]; exact hd, ?_, ?_⟩
  · rw [es k hk]; exact b1 k hk
  · rw [iO_iff, eb.2]; exact iO_iff.mp hob
  · rw [iO_iff, el.2]; exact iO_iff.mp hol
  · rw [hS_lS, el.2, ← hS_lS, (hu i hi).2.2]; exact hE i hi
  · rw [e6]; exact iY_oL eb.2 yb
  · rw [e6]; exact iY_oL el.2 yl
theorem TE_gP {t u : zTr} (h : TE t u) (W : Int) : gP W t = gP W u := by
  unfold gP
  rw [h.1, h.2.2.2.1, pS_oL, pS_oL, h.2.2.2.2.2.2.2.2.1.2]
theorem TE_pPhi {t u : zTr} (h : TE t u) : pPhi t = pPhi u := by
  unfold pPhi
  rw [TE_gP h, h.2.2.2.2.1]
