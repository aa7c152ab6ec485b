/-! the first fault of a text, both sides alike -/
/-- the orders that the reference wrote down are those that the class reads again -/
def Rec (M : zMs) : Nat → zPd → Nat → Prop
  | 0, _, _ => False
  | m + 1, X, k => (f_X5_readOrder X).1 = true ∧ recd (f_X5_readOrder X).2 M k ∧ (((f_X5_skip (f_X5_readOrder X).2 (nI 59)).1 = false ∧ gMs_od M = k + 1) ∨ ((f_X5_skip (f_X5_readOrder X).2 (nI 59)).1 = true ∧ k + 1 < gMs_od M ∧ Rec M m (f_X5_skip (f_X5_readOrder X).2 (nI 59)).2 (k + 1)))
theorem Rec_od {M : zMs} : ∀ (m : Nat) (X : zPd) (k : Nat), Rec M m X k → k < gMs_od M
  | 0, _, _, h => h.elim
  | m + 1, X, k, h => by
    rcases h.2.2 with q | q
    · omega
    · omega
theorem fault_w {S : zMs} (h : gMs_wr S = true) : ∀ f, L_X8_fault f S = S
  | 0 => rfl
  | f + 1 => by rw [L_X8_fault_s, if_neg (by rw [h]; decide)]
theorem fault_fail {x : zPd} {S : zMs} (hP : PR x S) (hf : failS x S) {f : Nat} (hm : (gMs_pdm S - gMs_sp S) + (1 - (gMs_wr S).toNat) < f) : gMs_wr (L_X8_fault f S) = true ∧ gMs_sp (L_X8_fault f S) = gMs_sp S := by
  by_cases hw : gMs_wr S = true
  · rw [fault_w hw]
    exact ⟨hw, rfl⟩
  · have hw2 : gMs_wr S = false := by
      cases e : gMs_wr S
      · rfl
      · exact absurd e hw
    rcases hf with h | ⟨-, h⟩
    · exact absurd h hw
    have hlt := isD_lt h
    rw [hP.1] at hlt
    obtain ⟨g, rfl⟩ : ∃ g, f = g + 1 := ⟨f - 1, by omega⟩
    have hn : ¬ f_X8_next S = nI 59 := by
      rw [next_sign hP]
      intro w
      rw [w] at h
      unfold isD at h
      exact absurd h (by decide)
    have ht : gMs_wr (f_X8_takeSign S (nI 59)) = true ∧ gMs_sp (f_X8_takeSign S (nI 59)) = gMs_sp S := by
      unfold f_X8_takeSign
      dsimp only
      rw [if_pos hw2, if_neg hn]
      exact ⟨rfl, rfl⟩
    rw [L_X8_fault_s, if_pos hw2, if_neg (by omega), if_neg (by rw [ht.1]; decide), fault_w ht.1]
    exact ht
theorem recd_M {z : zPd} {S M : zMs} {k : Nat} (h1 : ∀ i, i < k + 1 → gMs_so M i = gMs_so S i) (h2 : ∀ i, i < 3 * (k + 1) → gMs_nu M i = gMs_nu S i) (h : recd z S k) : recd z M k := by
  unfold recd
  rw [h1 k (by omega), h2 (3 * k) (by omega), h2 (3 * k + 1) (by omega), h2 (3 * k + 2) (by omega)]
  exact h
/-- where the reading stands on both sides -/
def stR (X : zPd) (S : zMs) (k : Nat) : Prop := PR X S ∧ gPd_at X = gMs_sp S ∧ gPd_at X ≤ gPd_n X ∧ gMs_wr S = false ∧ gMs_od S = k ∧ 2 * k ≤ gPd_at X
theorem stR_zpd {X : zPd} {S : zMs} {k : Nat} (h : stR X S k) : zpd X := ⟨h.1.2.1, h.2.2.1, h.1.2.2.2⟩
theorem stR_zpp {X : zPd} {S : zMs} {k : Nat} (h : stR X S k) : zpp S := by
  obtain ⟨h1, h2, h3, h4, h5, h6⟩ := h
  have := h1.1
  have := h1.2.1
  exact ⟨by omega, by omega, by omega⟩
theorem fault_sim (T0 : zPd) : ∀ (m : Nat) (X : zPd) (k : Nat) (S : zMs) (f : Nat), k + m = 80 → stR X S k → (gMs_pdm (f_X8_takeOrder S) - gMs_sp (f_X8_takeOrder S)) + (1 - (gMs_wr (f_X8_takeOrder S)).toNat) < f →
    (if (L_X5_fault T0 (m + 1) X k).1 = true then (L_X5_fault T0 (m + 1) X k).2.1 else nI (gPd_at (L_X5_fault T0 (m + 1) X k).2.2.1)) = (if gMs_wr (L_X8_fault f (f_X8_takeOrder S)) = false then (-6) else nI (gMs_sp (L_X8_fault f (f_X8_takeOrder S)))) ∧
    (gMs_wr (L_X8_fault f (f_X8_takeOrder S)) = false → (∀ i, i < k → gMs_so (L_X8_fault f (f_X8_takeOrder S)) i = gMs_so S i) ∧ (∀ i, i < 3 * k → gMs_nu (L_X8_fault f (f_X8_takeOrder S)) i = gMs_nu S i) ∧ Rec (L_X8_fault f (f_X8_takeOrder S)) (m + 1) X k) := by
  intro m
  induction m with
  | zero =>
    intro X k S f hk hs hm
    obtain ⟨h1, h2, h3, h4, h5, h6⟩ := hs
    have := h1.2.1
    omega
  | succ m ih =>
    intro X k S f hk hs hm
    have hzd := stR_zpd hs
    have hzp := stR_zpp hs
    have hzk := zk_order hzd
    have hzs := zp_order hzp
    obtain ⟨h1, h2, h3, h4, h5, h6⟩ := hs
    have h80 := h1.2.1
    obtain ⟨o1, o2, o3⟩ := order_sim h1 h2 h3 h4
    have hPr : PR (f_X5_readOrder X).2 (f_X8_takeOrder S) := by
      refine PR_x h1 hzk.1 hzk.2.1 (zsame_pdm hzs.1) ?_
      have e := hzs.1
      unfold zsame at e
      rw [e]
    have hsp := hzs.2.2.1
    have eX : L_X5_fault T0 (m + 1 + 1) X k = (if (f_X5_readOrder X).1 = false then (true, nI (gPd_at (f_X5_readOrder X).2), (f_X5_readOrder X).2, k) else if gPd_at (f_X5_readOrder X).2 < gPd_n (f_X5_readOrder X).2 then (if (f_X5_skip (f_X5_readOrder X).2 (nI 59)).1 = false then (true, nI (gPd_at (f_X5_skip (f_X5_readOrder X).2 (nI 59)).2), (f_X5_skip (f_X5_readOrder X).2 (nI 59)).2, k) else L_X5_fault T0 (m + 1) (f_X5_skip (f_X5_readOrder X).2 (nI 59)).2 (k + 1)) else (true, (-6), (f_X5_readOrder X).2, k)) := by
      rw [L_X5_fault_s, if_neg (c := 80 ≤ k) (by omega)]
    have eR : ∀ M, Rec M (m + 1 + 1) X k = ((f_X5_readOrder X).1 = true ∧ recd (f_X5_readOrder X).2 M k ∧ (((f_X5_skip (f_X5_readOrder X).2 (nI 59)).1 = false ∧ gMs_od M = k + 1) ∨ ((f_X5_skip (f_X5_readOrder X).2 (nI 59)).1 = true ∧ k + 1 < gMs_od M ∧ Rec M (m + 1) (f_X5_skip (f_X5_readOrder X).2 (nI 59)).2 (k + 1)))) := fun M => rfl
    rw [eX, eR]
    clear eX eR
    have hzkn := hzk.1
    have hzka := hzk.2.2.2
    have hfail : failS X (f_X8_takeOrder S) → failS (f_X5_readOrder X).2 (f_X8_takeOrder S) := fun q => q.imp id (fun w => ⟨w.1, by
      have e : ∀ p, f_X5_signAt (f_X5_readOrder X).2 p = f_X5_signAt X p := fun p => by
        unfold f_X5_signAt
        rw [hzk.1, hzk.2.1]
      rw [e]; exact w.2⟩)
    generalize f_X5_readOrder X = r at o1 o2 o3 hPr hzkn hzka hfail ⊢
    generalize f_X8_takeOrder S = S' at o1 o2 o3 hPr hm hsp hfail ⊢
    by_cases hr : r.1 = false
    · obtain ⟨w1, w2⟩ := fault_fail hPr (hfail (o3 hr)) hm
      rw [if_pos hr, if_pos rfl, w1, if_neg (show ¬ true = false by decide), w2, o1]
      exact ⟨rfl, fun z => (by cases z)⟩
    · have hr2 : r.1 = true := by
        cases e : r.1
        · exact absurd e hr
        · rfl
      obtain ⟨p1, p2, p3, p4, p5, p6, p7⟩ := o2 hr2
      obtain ⟨g, rfl⟩ : ∃ g, f = g + 1 := ⟨f - 1, by omega⟩
      rw [if_neg hr]
      by_cases hlt : gPd_at r.2 < gPd_n r.2
      · rw [if_pos hlt]
        have hlt2 : ¬ gMs_pdm S' ≤ gMs_sp S' := by rw [← o1, ← hPr.1]; omega
        have e8 : L_X8_fault (g + 1) S' = (if gMs_wr (f_X8_takeSign S' (nI 59)) = false then L_X8_fault g (f_X8_takeOrder (f_X8_takeSign S' (nI 59))) else L_X8_fault g (f_X8_takeSign S' (nI 59))) := by
          rw [L_X8_fault_s, if_pos p1, if_neg hlt2]
        rw [e8]
        rcases sign_sim (nI 59) hPr o1 p1 with ⟨s1, s2, s3⟩ | ⟨s1, s2, s3, s4⟩
        · rw [s2, s3]
          dsimp only
          rw [if_neg (show ¬ true = false by decide), if_pos (show gMs_wr (sMs_sp S' (gPd_at r.2 + 1)) = false from p1)]
          have hst : stR (sPd_at r.2 (gPd_at r.2 + 1)) (sMs_sp S' (gPd_at r.2 + 1)) (k + 1) := by
            refine ⟨PR_x hPr rfl rfl rfl rfl, rfl, hlt, p1, ?_, ?_⟩
            · show gMs_od S' = k + 1
              rw [p2, h5]
            · show 2 * (k + 1) ≤ gPd_at r.2 + 1
              omega
          have hmm : (gMs_pdm (f_X8_takeOrder (sMs_sp S' (gPd_at r.2 + 1))) - gMs_sp (f_X8_takeOrder (sMs_sp S' (gPd_at r.2 + 1)))) + (1 - (gMs_wr (f_X8_takeOrder (sMs_sp S' (gPd_at r.2 + 1)))).toNat) < g := by
            have q := zp_order (stR_zpp hst)
            have q1 := zsame_pdm q.1
            have q2 := q.2.1
            have q3 : gMs_sp (sMs_sp S' (gPd_at r.2 + 1)) = gPd_at r.2 + 1 := rfl
            have q4 : gMs_pdm (sMs_sp S' (gPd_at r.2 + 1)) = gMs_pdm S' := rfl
            rw [p1] at hm
            have q5 : (1 - (false).toNat : Nat) = 1 := rfl
            rw [q5] at hm
            omega
          obtain ⟨i1, i2⟩ := ih (sPd_at r.2 (gPd_at r.2 + 1)) (k + 1) (sMs_sp S' (gPd_at r.2 + 1)) g (by omega) hst hmm
          refine ⟨i1, fun hw => ?_⟩
          obtain ⟨j1, j2, j3⟩ := i2 hw
          rw [h5] at p3 p4 p5
          refine ⟨fun i hi => (j1 i (by omega)).trans (p4 i hi), fun i hi => (j2 i (by omega)).trans (p5 i hi), hr2, recd_M j1 j2 p3, Or.inr ⟨rfl, Rec_od _ _ _ j3, j3⟩⟩
        · rw [s2, s3, if_neg (show ¬ true = false by decide), fault_w s3, s3, s4, if_neg (show ¬ true = false by decide)]
          exact ⟨rfl, fun z => (by cases z)⟩
      · have e8 : L_X8_fault (g + 1) S' = S' := by
          rw [L_X8_fault_s, if_pos p1, if_pos (by rw [← o1, ← hPr.1]; omega)]
        rw [e8, if_neg hlt, if_pos rfl, if_pos p1]
        rw [h5] at p3 p4 p5
        refine ⟨rfl, fun _ => ⟨p4, p5, hr2, p3, Or.inl ⟨?_, by rw [p2, h5]⟩⟩⟩
        have hs0 : f_X5_signAt r.2 (gPd_at r.2) = nI 0 := by
          unfold f_X5_signAt
          dsimp only
          rw [if_pos (by omega)]
        unfold f_X5_skip
        rw [zsl_e]
        dsimp only
        rw [hs0, if_neg (by decide)]
section faults
variable {c : Nat} {T : zTr} {z : zPd} {y : zHs} {s : zSl} {S : zMs}
theorem fault_all (h : PR z S) : (f_X5_findFault z).1 = (f_X8_fault S).1 ∧ zsame S (f_X8_fault S).2 ∧ PR (f_X5_findFault z).2 (f_X8_fault S).2 ∧ ((f_X8_fault S).1 < 0 ↔ (f_X8_fault S).1 = (-6)) ∧ ((f_X8_fault S).1 < 0 → Rec (f_X8_fault S).2 81 (f_X5_start z) 0) := by
  have hzf := f_fault_zpf (S := S) (by rw [← h.1]; exact h.2.1)
  have hx := xff h.2.1 h.2.2.2
  have hst : stR (f_X5_start z) (sMs_od (sMs_wr (sMs_sp S 0) false) 0) 0 := ⟨PR_x h rfl rfl rfl rfl, rfl, Nat.zero_le _, rfl, rfl, Nat.zero_le _⟩
  have e8 : f_X8_fault S = ((if gMs_wr (L_X8_fault ((gMs_pdm (f_X8_takeOrder (sMs_od (sMs_wr (sMs_sp S 0) false) 0)) - gMs_sp (f_X8_takeOrder (sMs_od (sMs_wr (sMs_sp S 0) false) 0))) + (1 - (gMs_wr (f_X8_takeOrder (sMs_od (sMs_wr (sMs_sp S 0) false) 0))).toNat) + 1) (f_X8_takeOrder (sMs_od (sMs_wr (sMs_sp S 0) false) 0))) = false then (-6) else nI (gMs_sp (L_X8_fault ((gMs_pdm (f_X8_takeOrder (sMs_od (sMs_wr (sMs_sp S 0) false) 0)) - gMs_sp (f_X8_takeOrder (sMs_od (sMs_wr (sMs_sp S 0) false) 0))) + (1 - (gMs_wr (f_X8_takeOrder (sMs_od (sMs_wr (sMs_sp S 0) false) 0))).toNat) + 1) (f_X8_takeOrder (sMs_od (sMs_wr (sMs_sp S 0) false) 0))))), L_X8_fault ((gMs_pdm (f_X8_takeOrder (sMs_od (sMs_wr (sMs_sp S 0) false) 0)) - gMs_sp (f_X8_takeOrder (sMs_od (sMs_wr (sMs_sp S 0) false) 0))) + (1 - (gMs_wr (f_X8_takeOrder (sMs_od (sMs_wr (sMs_sp S 0) false) 0))).toNat) + 1) (f_X8_takeOrder (sMs_od (sMs_wr (sMs_sp S 0) false) 0))) := by
    unfold f_X8_fault
    rw [zsl_e]
  obtain ⟨k1, k2⟩ := fault_sim (f_X5_start z) 80 (f_X5_start z) 0 (sMs_od (sMs_wr (sMs_sp S 0) false) 0) _ rfl hst (Nat.lt_succ_self _)
  have e5 : (f_X5_findFault z).1 = (if (L_X5_fault (f_X5_start z) (80 + 1) (f_X5_start z) 0).1 = true then (L_X5_fault (f_X5_start z) (80 + 1) (f_X5_start z) 0).2.1 else nI (gPd_at (L_X5_fault (f_X5_start z) (80 + 1) (f_X5_start z) 0).2.2.1)) := by
    unfold f_X5_findFault
    rw [zsl_e]
    dsimp only
    rw [show 80 - 0 + 1 = 80 + 1 from rfl]
    split <;> rfl
  have hPR : PR (f_X5_findFault z).2 (f_X8_fault S).2 := by
    refine PR_x h hx.1 hx.2 (zsame_pdm hzf.2.1) ?_
    have e := hzf.2.1
    unfold zsame at e
    rw [e]
  refine ⟨?_, hzf.2.1, hPR, ?_, ?_⟩
  · rw [e5, k1, e8]
  · have hsp : gMs_sp (f_X8_fault S).2 < 2 ^ 31 := by
      have q1 := hzf.1.1
      have q2 := hzf.1.2.1
      omega
    rw [e8] at hsp ⊢
    dsimp only at hsp ⊢
    generalize L_X8_fault _ _ = M at hsp ⊢
    by_cases cw : gMs_wr M = false
    · rw [if_pos cw]
      exact ⟨fun _ => rfl, fun _ => by decide⟩
    · rw [if_neg cw]
      refine ⟨fun q => ?_, fun q => by rw [q]; decide⟩
      rw [sw_0, nI_int hsp] at q
      omega
  · intro q
    have hsp : gMs_sp (f_X8_fault S).2 < 2 ^ 31 := by
      have q1 := hzf.1.1
      have q2 := hzf.1.2.1
      omega
    rw [e8] at hsp q ⊢
    dsimp only at hsp q ⊢
    generalize L_X8_fault _ _ = M at hsp q k2 ⊢
    by_cases cw : gMs_wr M = false
    · exact (k2 cw).2.2
    · rw [if_neg cw, sw_0, nI_int hsp] at q
      omega
theorem fault_FR (h : FR c T z y s S) : (f_X7_fault z).1 = (f_X8_fault S).1 ∧ FR (c + 1) T (f_X7_fault z).2 y s (f_X8_fault S).2 := by
  obtain ⟨k1, k2, k3, -, -⟩ := fault_all h.2.2.2
  have hx := xff h.2.2.2.2.1 h.2.2.2.2.2.2
  have e := k2
  unfold zsame at e
  refine ⟨k1, FR_pad h ?_ (by rw [e]) (by rw [e]) (by rw [e]) (by rw [e]) (by rw [e]) (by rw [e]) k3⟩
  show bP c (gPd_n z) ≤ bP (c + 1) (gPd_n (f_X5_findFault z).2)
  rw [hx.1, bP_step]
  omega
end faults
