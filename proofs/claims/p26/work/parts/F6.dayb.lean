/-! day: the shares, day by day. Written by wip/p26/law6.py -/
/-- how many of the orders from fr to to are among the first k -/
def nK (fr to k : Nat) : Nat := if k ≤ fr then 0 else if k ≤ to then k - fr else to - fr
theorem nK_in {fr to k : Nat} (h : fr ≤ k ∧ k < to) : nK fr to (k + 1) = nK fr to k + 1 ∧ fr + nK fr to k = k := by
  unfold nK
  rw [if_neg (by omega), if_pos (by omega)]
  by_cases e : k ≤ fr
  · rw [if_pos e]; omega
  · rw [if_neg e, if_pos (by omega)]; omega
theorem nK_out {fr to k : Nat} (hft : fr ≤ to) (h : ¬ (fr ≤ k ∧ k < to)) : nK fr to (k + 1) = nK fr to k := by
  unfold nK
  by_cases e : k + 1 ≤ fr
  · rw [if_pos e, if_pos (by omega)]
  · rw [if_neg e]
    by_cases e2 : k ≤ fr
    · rw [if_pos e2]
      by_cases e3 : k + 1 ≤ to
      · omega
      · rw [if_neg e3]; omega
    · rw [if_neg e2, if_neg (by omega)]
      by_cases e3 : k ≤ to
      · rw [if_pos e3]; omega
      · rw [if_neg e3]
theorem nK_end {fr to n : Nat} (h : to ≤ n) (hft : fr ≤ to) : nK fr to n = to - fr := by
  unfold nK
  by_cases e : n ≤ fr
  · rw [if_pos e]; omega
  · rw [if_neg e]
    by_cases e2 : n ≤ to
    · rw [if_pos e2]; omega
    · rw [if_neg e2]
theorem nK_0 (fr to : Nat) : nK fr to 0 = 0 := if_pos (Nat.zero_le _)
theorem nK_le {fr to k : Nat} : nK fr to k ≤ to - fr := by
  unfold nK
  split
  · omega
  · split <;> omega
def suK (o : zOd) (fr m : Nat) : Int := isum (fun j => oS o (fr + j)) m
theorem suK_s (o : zOd) (fr m : Nat) : suK o fr (m + 1) = suK o fr m + oS o (fr + m) := rfl
theorem flS_s (o : zOd) (L S : Int) (fr m : Nat) : flS o L S fr (m + 1) = flS o L S fr m + oS o (fr + m) * L / S := rfl
/-- what holds of the orders of one day -/
def gD (o : zOd) (d : Int) (fr to : Nat) : Prop := fr ≤ to ∧ to ≤ gOd_n o ∧ ∀ k, k < gOd_n o → (oD o k = d ↔ fr ≤ k ∧ k < to)
theorem gD_of {o : zOd} (hs : oSort o) (d : Int) : gD o d (cntD o d (gOd_n o)) (cntD o (d + 1) (gOd_n o)) := by
  refine ⟨cnt_mono hs (by omega), cntD_le _ _ _, fun k hk => ?_⟩
  have h1 := cnt_iff d (gOd_n o) (oSort_i hs) k hk
  have h2 := cnt_iff (d + 1) (gOd_n o) (oSort_i hs) k hk
  constructor
  · intro e
    exact ⟨Nat.not_lt.mp (fun q => by have := h1.mp q; omega), h2.mpr (by omega)⟩
  · intro e
    have a := h2.mp e.2
    have b : ¬ oD o k < d := fun q => by have := h1.mpr q; omega
    omega
theorem suK_r {mx : Int} {o : zOd} (hO : iO mx o) (ht : sS o 0 (gOd_n o) ≤ 1000000000) {fr to m : Nat} (h1 : fr ≤ to) (h2 : to ≤ gOd_n o) (hm : m ≤ to - fr) : (m : Int) ≤ suK o fr m ∧ suK o fr m ≤ sS o fr to ∧ sS o fr to ≤ 1000000000 := by
  have hp : ∀ j, j < to - fr → 1 ≤ oS o (fr + j) := fun j hj => (hO.2.1 (fr + j) (by omega)).2.1
  have e : sS o fr to = isum (fun j => oS o (fr + j)) (to - fr) := rfl
  have a := isum_mono (f := fun j => oS o (fr + j)) (n := m) (to - fr) hm (fun j hj => by have := hp j hj; omega)
  have b := sS_le hO h1 h2
  refine ⟨?_, by rw [e]; exact a, by omega⟩
  have c : ∀ q, q ≤ to - fr → (q : Int) ≤ suK o fr q := by
    intro q
    induction q with
    | zero => intro _; exact Int.le_refl _
    | succ q ih =>
      intro hq
      have := ih (by omega)
      have := hp q (by omega)
      rw [suK_s]
      omega
  exact c m hm
section DAYB
variable {E : zE} {cy : Nat → ClassId} {l : Launch} {D : va_G} {x0 x1 x2 d0 d1 p0 p1 h0 h1 : Nat} {a b : Nat → Nat} {hs sl : Nat → Nat → Nat} {T U : zTr} {x : zDd} {z : zPd} {y : zHs} {s : zSl} {Dd c : Int}
set_option maxHeartbeats 4000000 in
set_option maxRecDepth 100000 in
theorem day_b1 (C : zO E cL_day 37 "SwingUnitsLaw" rm_day cy l D) (hG : GI Dd c T) (hO : LO T z y s) {qa qu qp qb qs qn qw : Nat} {fa fu fp fb fn fw : Nat → Int} {d Lf : Int} {fr to : Nat} {fs : Nat → Int} (hn : ∀ j, j < gOd_n (gTr_le T) → fn j = oS (gTr_le T) j) (hd : 0 ≤ d ∧ d ≤ 200000) (hL : 0 ≤ Lf ∧ Lf ≤ 1000000000) (hg : gD (gTr_le T) d fr to) (ht : sS (gTr_le T) 0 (gOd_n (gTr_le T)) ≤ 1000000000) (kk : zJ E 37 7 86 (([IA cy qw 20 fw, LA cy qn 20 fn, LA cy qs 20 fs, LA cy qb 6 fb, LA cy qp 6 fp, LA cy qu 6 fu, LA cy qa 8 fa] : List va_W) ++ LB cy x0 x1 x2 d0 d1 p0 p1 h0 h1 a b hs sl T U x z y s).flatten 544 [(31, .int (jI (gOd_n (gTr_le T) : Int))), (29, .long (jL (sS (gTr_le T) fr to))), (28, .int (jI d)), (26, .long (jL (pI T))), (25, .int (jI (2 + dirI T))), (17, .long (jL Lf)), (13, .long (jL (wI T))), (10, .ref qw), (9, .ref qn), (8, .ref qs), (7, .ref qb), (6, .ref qp), (5, .ref qu), (4, .ref qa), (3, .int (jI (gOd_n (gTr_bu T) : Int))), (2, .int (jI (gOd_n (gTr_le T) : Int))), (1, .int (jI (dI T))), (0, .ref x0)] []) : ∀ (m k : Nat), k + m = gOd_n (gTr_le T) → zJ E 37 7 86 (([IA cy qw 20 fw, LA cy qn 20 fn, LA cy qs 20 fs, LA cy qb 6 fb, LA cy qp 6 fp, LA cy qu 6 fu, LA cy qa 8 fa] : List va_W) ++ LB cy x0 x1 x2 d0 d1 p0 p1 h0 h1 a b hs sl T U x z y s).flatten 509 [(31, .int (jI (k : Int))), (29, .long (jL (suK (gTr_le T) fr (nK fr to k)))), (28, .int (jI d)), (26, .long (jL (pI T))), (25, .int (jI (2 + dirI T))), (17, .long (jL Lf)), (13, .long (jL (wI T))), (10, .ref qw), (9, .ref qn), (8, .ref qs), (7, .ref qb), (6, .ref qp), (5, .ref qu), (4, .ref qa), (3, .int (jI (gOd_n (gTr_bu T) : Int))), (2, .int (jI (gOd_n (gTr_le T) : Int))), (1, .int (jI (dI T))), (0, .ref x0)] [] := by
  have rdI := (GI_r hG).2.2.2.2.2.2.2.2.1
  have rnb := (GI_r hG).2.2.2.2.2.2.2.2.2.1
  have rnl := (GI_r hG).2.2.2.2.2.2.2.2.2.2.1
  obtain ⟨hg1, hg2, hg3⟩ := hg
  intro m
  induction m with
  | zero =>
    intro k hk
    have ek : k = gOd_n (gTr_le T) := by omega
    subst ek
    have e : suK (gTr_le T) fr (nK fr to (gOd_n (gTr_le T))) = sS (gTr_le T) fr to := by rw [nK_end hg2 hg1]; rfl
    rw [e]
    refine zj_iload C dL_day_509 0 rfl ?_
    refine zj_iload_n C dL_day_511 15 rfl ?_
    refine ij_icmp_ge C 544 dL_day_512 (by decide) ⟨by omega, by omega⟩ ⟨by omega, by omega⟩ (fun _ => ?_) (fun h => False.elim (by omega))
    exact kk
  | succ m ih =>
    intro k hk
    have hkn : k < gOd_n (gTr_le T) := by omega
    obtain ⟨⟨ra, rb⟩, ⟨rc, rd⟩, re, rf⟩ := GI_ol hG hkn
    refine zj_iload C dL_day_509 0 rfl ?_
    refine zj_iload_n C dL_day_511 15 rfl ?_
    refine ij_icmp_ge C 544 dL_day_512 (by decide) ⟨by omega, by omega⟩ ⟨by omega, by omega⟩ (fun h => False.elim (by omega)) (fun _ => ?_)
    refine zj_aload_n C dL_day_515 17 rfl ?_
    refine ij_iconst C dL_day_516 ?_
    refine zj_iload C dL_day_517 0 rfl ?_
    refine ij_iconst C dL_day_519 ?_
    refine lc_order C ⟨Nat.le_of_ble_eq_true rfl, Nat.le_of_ble_eq_true rfl⟩ ⟨Nat.le_of_ble_eq_true rfl, Nat.le_of_ble_eq_true rfl⟩ hO ([IA cy qw 20 fw, LA cy qn 20 fn, LA cy qs 20 fs, LA cy qb 6 fb, LA cy qp 6 fp, LA cy qu 6 fu, LA cy qa 8 fa] : List va_W) (jI 1) (jI (k : Int)) (jI 2) (Nat.le_of_ble_eq_true rfl) dL_day_520 (vo_12 hG hkn) ?_
    refine zj_iload C dL_day_523 2 rfl ?_
    refine ij_icmp_ne C 538 dL_day_525 (by decide) ⟨by omega, by omega⟩ ⟨by omega, by omega⟩ (fun hb => ?_) (fun hb => ?_)
    · skip
      refine ij_iinc C (j := 0) (L2 := [(31, .int (jI ((k + 1 : Nat) : Int))), (29, .long (jL (suK (gTr_le T) fr (nK fr to k)))), (28, .int (jI d)), (26, .long (jL (pI T))), (25, .int (jI (2 + dirI T))), (17, .long (jL Lf)), (13, .long (jL (wI T))), (10, .ref qw), (9, .ref qn), (8, .ref qs), (7, .ref qb), (6, .ref qp), (5, .ref qu), (4, .ref qa), (3, .int (jI (gOd_n (gTr_bu T) : Int))), (2, .int (jI (gOd_n (gTr_le T) : Int))), (1, .int (jI (dI T))), (0, .ref x0)]) ((k + 1 : Nat) : Int) (by omega) dL_day_538 rfl (by decide) rfl ?_
      refine zj_goto C 509 dL_day_541 (by decide) ?_
      refine zj_sub (L' := [(31, .int (jI ((k + 1 : Nat) : Int))), (29, .long (jL (suK (gTr_le T) fr (nK fr to k)))), (28, .int (jI d)), (26, .long (jL (pI T))), (25, .int (jI (2 + dirI T))), (17, .long (jL Lf)), (13, .long (jL (wI T))), (10, .ref qw), (9, .ref qn), (8, .ref qs), (7, .ref qb), (6, .ref qp), (5, .ref qu), (4, .ref qa), (3, .int (jI (gOd_n (gTr_bu T) : Int))), (2, .int (jI (gOd_n (gTr_le T) : Int))), (1, .int (jI (dI T))), (0, .ref x0)]) [0, 1, 2, 3, 4, 5, 6, 7, 8, 9, 10, 11, 12, 13, 14, 15, 16, 17] rfl ?_
      have e := nK_out hg1 (fun q => hb ((hg3 k hkn).mpr q))
      rw [← e]
      exact ih (k + 1) (by omega)
    · skip
      obtain ⟨e1, e2⟩ := nK_in ((hg3 k hkn).mp (by omega))
      refine zj_lload C dL_day_528 1 rfl ?_
      refine zj_aload C dL_day_530 8 rfl ?_
      refine zj_iload C dL_day_532 0 rfl ?_
      refine ij_laload C 1 (f := fn) k rfl (by omega) (by decide) rfl dL_day_534 ?_
      refine ij_ladd C dL_day_535 ?_
      refine ij_el (suK (gTr_le T) fr (nK fr to (k + 1))) (by rw [e1, suK_s, e2, hn k hkn]) ?_
      refine zj_lstore C (L' := [(29, .long (jL (suK (gTr_le T) fr (nK fr to (k + 1))))), (31, .int (jI (k : Int))), (28, .int (jI d)), (26, .long (jL (pI T))), (25, .int (jI (2 + dirI T))), (17, .long (jL Lf)), (13, .long (jL (wI T))), (10, .ref qw), (9, .ref qn), (8, .ref qs), (7, .ref qb), (6, .ref qp), (5, .ref qu), (4, .ref qa), (3, .int (jI (gOd_n (gTr_bu T) : Int))), (2, .int (jI (gOd_n (gTr_le T) : Int))), (1, .int (jI (dI T))), (0, .ref x0)]) dL_day_536 (by decide) rfl ?_
      refine ij_iinc C (j := 1) (L2 := [(31, .int (jI ((k + 1 : Nat) : Int))), (29, .long (jL (suK (gTr_le T) fr (nK fr to (k + 1))))), (28, .int (jI d)), (26, .long (jL (pI T))), (25, .int (jI (2 + dirI T))), (17, .long (jL Lf)), (13, .long (jL (wI T))), (10, .ref qw), (9, .ref qn), (8, .ref qs), (7, .ref qb), (6, .ref qp), (5, .ref qu), (4, .ref qa), (3, .int (jI (gOd_n (gTr_bu T) : Int))), (2, .int (jI (gOd_n (gTr_le T) : Int))), (1, .int (jI (dI T))), (0, .ref x0)]) ((k + 1 : Nat) : Int) (by omega) dL_day_538 rfl (by decide) rfl ?_
      refine zj_goto C 509 dL_day_541 (by decide) ?_
      refine zj_sub (L' := [(31, .int (jI ((k + 1 : Nat) : Int))), (29, .long (jL (suK (gTr_le T) fr (nK fr to (k + 1))))), (28, .int (jI d)), (26, .long (jL (pI T))), (25, .int (jI (2 + dirI T))), (17, .long (jL Lf)), (13, .long (jL (wI T))), (10, .ref qw), (9, .ref qn), (8, .ref qs), (7, .ref qb), (6, .ref qp), (5, .ref qu), (4, .ref qa), (3, .int (jI (gOd_n (gTr_bu T) : Int))), (2, .int (jI (gOd_n (gTr_le T) : Int))), (1, .int (jI (dI T))), (0, .ref x0)]) [0, 1, 2, 3, 4, 5, 6, 7, 8, 9, 10, 11, 12, 13, 14, 15, 16, 17] rfl ?_
      exact ih (k + 1) (by omega)
set_option maxHeartbeats 4000000 in
set_option maxRecDepth 100000 in
theorem day_b20 (C : zO E cL_day 37 "SwingUnitsLaw" rm_day cy l D) (hG : GI Dd c T) (hO : LO T z y s) {qa qu qp qb qs qn qw : Nat} {fa fu fp fb fn fw : Nat → Int} {d Lf : Int} {fr to : Nat} {fs : Nat → Int} (hn : ∀ j, j < gOd_n (gTr_le T) → fn j = oS (gTr_le T) j) (hd : 0 ≤ d ∧ d ≤ 200000) (hL : 0 ≤ Lf ∧ Lf ≤ 1000000000) (hg : gD (gTr_le T) d fr to) (ht : sS (gTr_le T) 0 (gOd_n (gTr_le T)) ≤ 1000000000) (hft : fr < to) (hc : (sS (gTr_le T) fr to) ≤ Lf) (kk : ∀ f : Nat → Int, (∀ i, f i = if fr ≤ i ∧ i < to ∧ i < gOd_n (gTr_le T) then oS (gTr_le T) i else fs i) → zJ E 37 7 86 (([IA cy qw 20 fw, LA cy qn 20 fn, LA cy qs 20 f, LA cy qb 6 fb, LA cy qp 6 fp, LA cy qu 6 fu, LA cy qa 8 fa] : List va_W) ++ LB cy x0 x1 x2 d0 d1 p0 p1 h0 h1 a b hs sl T U x z y s).flatten 648 [(33, .int (jI (gOd_n (gTr_le T) : Int))), (31, .long (jL 0)), (29, .long (jL (sS (gTr_le T) fr to))), (28, .int (jI d)), (26, .long (jL (pI T))), (25, .int (jI (2 + dirI T))), (17, .long (jL Lf)), (13, .long (jL (wI T))), (10, .ref qw), (9, .ref qn), (8, .ref qs), (7, .ref qb), (6, .ref qp), (5, .ref qu), (4, .ref qa), (3, .int (jI (gOd_n (gTr_bu T) : Int))), (2, .int (jI (gOd_n (gTr_le T) : Int))), (1, .int (jI (dI T))), (0, .ref x0)] []) : ∀ (m k : Nat) (f : Nat → Int), k + m = gOd_n (gTr_le T) → (∀ i, f i = if fr ≤ i ∧ i < to ∧ i < k then oS (gTr_le T) i else fs i) → zJ E 37 7 86 (([IA cy qw 20 fw, LA cy qn 20 fn, LA cy qs 20 f, LA cy qb 6 fb, LA cy qp 6 fp, LA cy qu 6 fu, LA cy qa 8 fa] : List va_W) ++ LB cy x0 x1 x2 d0 d1 p0 p1 h0 h1 a b hs sl T U x z y s).flatten 573 [(33, .int (jI (k : Int))), (31, .long (jL 0)), (29, .long (jL (sS (gTr_le T) fr to))), (28, .int (jI d)), (26, .long (jL (pI T))), (25, .int (jI (2 + dirI T))), (17, .long (jL Lf)), (13, .long (jL (wI T))), (10, .ref qw), (9, .ref qn), (8, .ref qs), (7, .ref qb), (6, .ref qp), (5, .ref qu), (4, .ref qa), (3, .int (jI (gOd_n (gTr_bu T) : Int))), (2, .int (jI (gOd_n (gTr_le T) : Int))), (1, .int (jI (dI T))), (0, .ref x0)] [] := by
  have rdI := (GI_r hG).2.2.2.2.2.2.2.2.1
  have rnb := (GI_r hG).2.2.2.2.2.2.2.2.2.1
  have rnl := (GI_r hG).2.2.2.2.2.2.2.2.2.2.1
  obtain ⟨hg1, hg2, hg3⟩ := hg
  have hSr := (suK_r hG.1.2.2.1 ht hg1 hg2 (Nat.le_refl (to - fr))).2
  have hS1 := (suK_r hG.1.2.2.1 ht hg1 hg2 (m := 1) (by omega)).1
  have hS2 := (suK_r hG.1.2.2.1 ht hg1 hg2 (m := 1) (by omega)).2.1
  intro m
  induction m with
  | zero =>
    intro k f hk hf
    have ek : k = gOd_n (gTr_le T) := by omega
    subst ek
    refine zj_iload C dL_day_573 0 rfl ?_
    refine zj_iload_n C dL_day_575 16 rfl ?_
    refine ij_icmp_ge C 648 dL_day_576 (by decide) ⟨by omega, by omega⟩ ⟨by omega, by omega⟩ (fun _ => ?_) (fun h => False.elim (by omega))
    exact kk f hf
  | succ m ih =>
    intro k f hk hf
    have hkn : k < gOd_n (gTr_le T) := by omega
    obtain ⟨⟨ra, rb⟩, ⟨rc, rd⟩, re, rf⟩ := GI_ol hG hkn
    refine zj_iload C dL_day_573 0 rfl ?_
    refine zj_iload_n C dL_day_575 16 rfl ?_
    refine ij_icmp_ge C 648 dL_day_576 (by decide) ⟨by omega, by omega⟩ ⟨by omega, by omega⟩ (fun h => False.elim (by omega)) (fun _ => ?_)
    refine zj_aload_n C dL_day_579 18 rfl ?_
    refine ij_iconst C dL_day_580 ?_
    refine zj_iload C dL_day_581 0 rfl ?_
    refine ij_iconst C dL_day_583 ?_
    refine lc_order C ⟨Nat.le_of_ble_eq_true rfl, Nat.le_of_ble_eq_true rfl⟩ ⟨Nat.le_of_ble_eq_true rfl, Nat.le_of_ble_eq_true rfl⟩ hO ([IA cy qw 20 fw, LA cy qn 20 fn, LA cy qs 20 f, LA cy qb 6 fb, LA cy qp 6 fp, LA cy qu 6 fu, LA cy qa 8 fa] : List va_W) (jI 1) (jI (k : Int)) (jI 2) (Nat.le_of_ble_eq_true rfl) dL_day_584 (vo_12 hG hkn) ?_
    refine zj_iload C dL_day_587 3 rfl ?_
    refine ij_icmp_ne C 642 dL_day_589 (by decide) ⟨by omega, by omega⟩ ⟨by omega, by omega⟩ (fun hb => ?_) (fun hb => ?_)
    · skip
      refine ij_iinc C (j := 0) (L2 := [(33, .int (jI ((k + 1 : Nat) : Int))), (31, .long (jL 0)), (29, .long (jL (sS (gTr_le T) fr to))), (28, .int (jI d)), (26, .long (jL (pI T))), (25, .int (jI (2 + dirI T))), (17, .long (jL Lf)), (13, .long (jL (wI T))), (10, .ref qw), (9, .ref qn), (8, .ref qs), (7, .ref qb), (6, .ref qp), (5, .ref qu), (4, .ref qa), (3, .int (jI (gOd_n (gTr_bu T) : Int))), (2, .int (jI (gOd_n (gTr_le T) : Int))), (1, .int (jI (dI T))), (0, .ref x0)]) ((k + 1 : Nat) : Int) (by omega) dL_day_642 rfl (by decide) rfl ?_
      refine zj_goto C 573 dL_day_645 (by decide) ?_
      refine zj_sub (L' := [(33, .int (jI ((k + 1 : Nat) : Int))), (31, .long (jL 0)), (29, .long (jL (sS (gTr_le T) fr to))), (28, .int (jI d)), (26, .long (jL (pI T))), (25, .int (jI (2 + dirI T))), (17, .long (jL Lf)), (13, .long (jL (wI T))), (10, .ref qw), (9, .ref qn), (8, .ref qs), (7, .ref qb), (6, .ref qp), (5, .ref qu), (4, .ref qa), (3, .int (jI (gOd_n (gTr_bu T) : Int))), (2, .int (jI (gOd_n (gTr_le T) : Int))), (1, .int (jI (dI T))), (0, .ref x0)]) [0, 1, 2, 3, 4, 5, 6, 7, 8, 9, 10, 11, 12, 13, 14, 15, 16, 17, 18] rfl ?_
      refine ih (k + 1) f (by omega) (fun i => ?_)
      rw [hf i]
      by_cases g : fr ≤ i ∧ i < to ∧ i < k
      · rw [if_pos g, if_pos (by omega)]
      · rw [if_neg g, if_neg (fun q => by have := (hg3 k hkn).mpr; by_cases ei : i = k; exact hb (this (by omega)); omega)]
    · skip
      obtain ⟨e1, e2⟩ := nK_in ((hg3 k hkn).mp (by omega))
      have hin := (hg3 k hkn).mp (by omega)
      have hnk := hn k hkn
      refine zj_aload C dL_day_592 10 rfl ?_
      refine zj_iload C dL_day_594 0 rfl ?_
      refine zj_lload C dL_day_596 2 rfl ?_
      refine zj_lload C dL_day_598 6 rfl ?_
      refine ij_lcmp_gt C 612 dL_day_600 dL_day_601 (by decide) ⟨by omega, by omega⟩ ⟨by omega, by omega⟩ (fun h => False.elim (by omega)) (fun _ => ?_)
      refine zj_aload C dL_day_604 9 rfl ?_
      refine zj_iload C dL_day_606 0 rfl ?_
      refine ij_laload C 1 (f := fn) k rfl (by omega) (by decide) rfl dL_day_608 ?_
      refine ij_el (oS (gTr_le T) k) hnk ?_
      refine zj_goto C 623 dL_day_609 (by decide) ?_
      refine ij_lastore C 2 (f := f) (ws' := (([IA cy qw 20 fw, LA cy qn 20 fn, LA cy qs 20 (iup f k (oS (gTr_le T) k)), LA cy qb 6 fb, LA cy qp 6 fp, LA cy qu 6 fu, LA cy qa 8 fa] : List va_W) ++ LB cy x0 x1 x2 d0 d1 p0 p1 h0 h1 a b hs sl T U x z y s).flatten) k rfl (by omega) (by decide) rfl dL_day_623 rfl ?_
      refine zj_lload C dL_day_624 2 rfl ?_
      refine zj_lload C dL_day_626 6 rfl ?_
      refine ij_lcmp_le C 642 dL_day_628 dL_day_629 (by decide) ⟨by omega, by omega⟩ ⟨by omega, by omega⟩ (fun _ => ?_) (fun h => False.elim (by omega))
      refine ij_iinc C (j := 0) (L2 := [(33, .int (jI ((k + 1 : Nat) : Int))), (31, .long (jL 0)), (29, .long (jL (sS (gTr_le T) fr to))), (28, .int (jI d)), (26, .long (jL (pI T))), (25, .int (jI (2 + dirI T))), (17, .long (jL Lf)), (13, .long (jL (wI T))), (10, .ref qw), (9, .ref qn), (8, .ref qs), (7, .ref qb), (6, .ref qp), (5, .ref qu), (4, .ref qa), (3, .int (jI (gOd_n (gTr_bu T) : Int))), (2, .int (jI (gOd_n (gTr_le T) : Int))), (1, .int (jI (dI T))), (0, .ref x0)]) ((k + 1 : Nat) : Int) (by omega) dL_day_642 rfl (by decide) rfl ?_
      refine zj_goto C 573 dL_day_645 (by decide) ?_
      refine zj_sub (L' := [(33, .int (jI ((k + 1 : Nat) : Int))), (31, .long (jL 0)), (29, .long (jL (sS (gTr_le T) fr to))), (28, .int (jI d)), (26, .long (jL (pI T))), (25, .int (jI (2 + dirI T))), (17, .long (jL Lf)), (13, .long (jL (wI T))), (10, .ref qw), (9, .ref qn), (8, .ref qs), (7, .ref qb), (6, .ref qp), (5, .ref qu), (4, .ref qa), (3, .int (jI (gOd_n (gTr_bu T) : Int))), (2, .int (jI (gOd_n (gTr_le T) : Int))), (1, .int (jI (dI T))), (0, .ref x0)]) [0, 1, 2, 3, 4, 5, 6, 7, 8, 9, 10, 11, 12, 13, 14, 15, 16, 17, 18] rfl ?_
      refine ih (k + 1) _ (by omega) (fun i => ?_)
      unfold iup
      by_cases ei : i = k
      · subst ei; rw [if_pos rfl, if_pos ⟨hin.1, hin.2, by omega⟩]
      · rw [if_neg ei, hf i]
        by_cases g : fr ≤ i ∧ i < to ∧ i < k
        · rw [if_pos g, if_pos (by omega)]
        · rw [if_neg g, if_neg (by omega)]
set_option maxHeartbeats 4000000 in
set_option maxRecDepth 100000 in
theorem day_b30 (C : zO E cL_day 37 "SwingUnitsLaw" rm_day cy l D) (hG : GI Dd c T) (hO : LO T z y s) {qa qu qp qb qs qn qw : Nat} {fa fu fp fb fn fw : Nat → Int} {d Lf : Int} {fr to : Nat} {fs : Nat → Int} (hn : ∀ j, j < gOd_n (gTr_le T) → fn j = oS (gTr_le T) j) (hd : 0 ≤ d ∧ d ≤ 200000) (hL : 0 ≤ Lf ∧ Lf ≤ 1000000000) (hg : gD (gTr_le T) d fr to) (ht : sS (gTr_le T) 0 (gOd_n (gTr_le T)) ≤ 1000000000) (hft : fr < to) (hc : (sS (gTr_le T) fr to) ≤ Lf) (kk : ∀ (f : Nat → Int) (rr : Int), (∀ i, f i = if fr ≤ i ∧ i < to then (if i < gOd_n (gTr_le T) then shG (gTr_le T) Lf (sS (gTr_le T) fr to) fr to i else oS (gTr_le T) i) else fs i) → zJ E 37 7 86 (([IA cy qw 20 fw, LA cy qn 20 fn, LA cy qs 20 f, LA cy qb 6 fb, LA cy qp 6 fp, LA cy qu 6 fu, LA cy qa 8 fa] : List va_W) ++ LB cy x0 x1 x2 d0 d1 p0 p1 h0 h1 a b hs sl T U x z y s).flatten 698 [(33, .int (jI (gOd_n (gTr_le T) : Int))), (31, .long (jL rr)), (29, .long (jL (sS (gTr_le T) fr to))), (28, .int (jI d)), (26, .long (jL (pI T))), (25, .int (jI (2 + dirI T))), (17, .long (jL Lf)), (13, .long (jL (wI T))), (10, .ref qw), (9, .ref qn), (8, .ref qs), (7, .ref qb), (6, .ref qp), (5, .ref qu), (4, .ref qa), (3, .int (jI (gOd_n (gTr_bu T) : Int))), (2, .int (jI (gOd_n (gTr_le T) : Int))), (1, .int (jI (dI T))), (0, .ref x0)] []) : ∀ (m k : Nat) (f : Nat → Int), k + m = gOd_n (gTr_le T) → (∀ i, f i = if fr ≤ i ∧ i < to then (if i < k then shG (gTr_le T) Lf (sS (gTr_le T) fr to) fr to i else oS (gTr_le T) i) else fs i) → zJ E 37 7 86 (([IA cy qw 20 fw, LA cy qn 20 fn, LA cy qs 20 f, LA cy qb 6 fb, LA cy qp 6 fp, LA cy qu 6 fu, LA cy qa 8 fa] : List va_W) ++ LB cy x0 x1 x2 d0 d1 p0 p1 h0 h1 a b hs sl T U x z y s).flatten 651 [(33, .int (jI (k : Int))), (31, .long (jL 0)), (29, .long (jL (sS (gTr_le T) fr to))), (28, .int (jI d)), (26, .long (jL (pI T))), (25, .int (jI (2 + dirI T))), (17, .long (jL Lf)), (13, .long (jL (wI T))), (10, .ref qw), (9, .ref qn), (8, .ref qs), (7, .ref qb), (6, .ref qp), (5, .ref qu), (4, .ref qa), (3, .int (jI (gOd_n (gTr_bu T) : Int))), (2, .int (jI (gOd_n (gTr_le T) : Int))), (1, .int (jI (dI T))), (0, .ref x0)] [] := by
  have rdI := (GI_r hG).2.2.2.2.2.2.2.2.1
  have rnb := (GI_r hG).2.2.2.2.2.2.2.2.2.1
  have rnl := (GI_r hG).2.2.2.2.2.2.2.2.2.2.1
  obtain ⟨hg1, hg2, hg3⟩ := hg
  intro m
  induction m with
  | zero =>
    intro k f hk hf
    have ek : k = gOd_n (gTr_le T) := by omega
    subst ek
    refine zj_iload C dL_day_651 0 rfl ?_
    refine zj_iload_n C dL_day_653 16 rfl ?_
    refine ij_icmp_ge C 698 dL_day_654 (by decide) ⟨by omega, by omega⟩ ⟨by omega, by omega⟩ (fun _ => ?_) (fun h => False.elim (by omega))
    exact kk f _ hf
  | succ m ih =>
    intro k f hk hf
    have hkn : k < gOd_n (gTr_le T) := by omega
    obtain ⟨⟨ra, rb⟩, ⟨rc, rd⟩, re, rf⟩ := GI_ol hG hkn
    refine zj_iload C dL_day_651 0 rfl ?_
    refine zj_iload_n C dL_day_653 16 rfl ?_
    refine ij_icmp_ge C 698 dL_day_654 (by decide) ⟨by omega, by omega⟩ ⟨by omega, by omega⟩ (fun h => False.elim (by omega)) (fun _ => ?_)
    refine zj_aload_n C dL_day_657 18 rfl ?_
    refine ij_iconst C dL_day_658 ?_
    refine zj_iload C dL_day_659 0 rfl ?_
    refine ij_iconst C dL_day_661 ?_
    refine lc_order C ⟨Nat.le_of_ble_eq_true rfl, Nat.le_of_ble_eq_true rfl⟩ ⟨Nat.le_of_ble_eq_true rfl, Nat.le_of_ble_eq_true rfl⟩ hO ([IA cy qw 20 fw, LA cy qn 20 fn, LA cy qs 20 f, LA cy qb 6 fb, LA cy qp 6 fp, LA cy qu 6 fu, LA cy qa 8 fa] : List va_W) (jI 1) (jI (k : Int)) (jI 2) (Nat.le_of_ble_eq_true rfl) dL_day_662 (vo_12 hG hkn) ?_
    refine zj_iload C dL_day_665 3 rfl ?_
    refine ij_icmp_ne C 692 dL_day_667 (by decide) ⟨by omega, by omega⟩ ⟨by omega, by omega⟩ (fun hb => ?_) (fun hb => ?_)
    · skip
      refine ij_iinc C (j := 0) (L2 := [(33, .int (jI ((k + 1 : Nat) : Int))), (31, .long (jL 0)), (29, .long (jL (sS (gTr_le T) fr to))), (28, .int (jI d)), (26, .long (jL (pI T))), (25, .int (jI (2 + dirI T))), (17, .long (jL Lf)), (13, .long (jL (wI T))), (10, .ref qw), (9, .ref qn), (8, .ref qs), (7, .ref qb), (6, .ref qp), (5, .ref qu), (4, .ref qa), (3, .int (jI (gOd_n (gTr_bu T) : Int))), (2, .int (jI (gOd_n (gTr_le T) : Int))), (1, .int (jI (dI T))), (0, .ref x0)]) ((k + 1 : Nat) : Int) (by omega) dL_day_692 rfl (by decide) rfl ?_
      refine zj_goto C 651 dL_day_695 (by decide) ?_
      refine zj_sub (L' := [(33, .int (jI ((k + 1 : Nat) : Int))), (31, .long (jL 0)), (29, .long (jL (sS (gTr_le T) fr to))), (28, .int (jI d)), (26, .long (jL (pI T))), (25, .int (jI (2 + dirI T))), (17, .long (jL Lf)), (13, .long (jL (wI T))), (10, .ref qw), (9, .ref qn), (8, .ref qs), (7, .ref qb), (6, .ref qp), (5, .ref qu), (4, .ref qa), (3, .int (jI (gOd_n (gTr_bu T) : Int))), (2, .int (jI (gOd_n (gTr_le T) : Int))), (1, .int (jI (dI T))), (0, .ref x0)]) [0, 1, 2, 3, 4, 5, 6, 7, 8, 9, 10, 11, 12, 13, 14, 15, 16, 17, 18] rfl ?_
      refine ih (k + 1) f (by omega) (fun i => ?_)
      rw [hf i]
      by_cases g : fr ≤ i ∧ i < to
      · rw [if_pos g, if_pos g]
        by_cases q : i < k
        · rw [if_pos q, if_pos (by omega)]
        · rw [if_neg q]
          by_cases ei : i = k
          · subst ei; exact absurd ((hg3 i hkn).mpr g) hb
          · rw [if_neg (by omega)]
      · rw [if_neg g, if_neg g]
    · skip
      obtain ⟨e1, e2⟩ := nK_in ((hg3 k hkn).mp (by omega))
      have hin := (hg3 k hkn).mp (by omega)
      refine zj_lload C dL_day_670 1 rfl ?_
      refine zj_lconst C (v := jL 0) dL_day_672 (by decide) ?_
      refine ij_lcmp_le C 692 dL_day_673 dL_day_674 (by decide) ⟨by decide, by decide⟩ ⟨by decide, by decide⟩ (fun _ => ?_) (fun h => False.elim (by omega))
      refine ij_iinc C (j := 0) (L2 := [(33, .int (jI ((k + 1 : Nat) : Int))), (31, .long (jL 0)), (29, .long (jL (sS (gTr_le T) fr to))), (28, .int (jI d)), (26, .long (jL (pI T))), (25, .int (jI (2 + dirI T))), (17, .long (jL Lf)), (13, .long (jL (wI T))), (10, .ref qw), (9, .ref qn), (8, .ref qs), (7, .ref qb), (6, .ref qp), (5, .ref qu), (4, .ref qa), (3, .int (jI (gOd_n (gTr_bu T) : Int))), (2, .int (jI (gOd_n (gTr_le T) : Int))), (1, .int (jI (dI T))), (0, .ref x0)]) ((k + 1 : Nat) : Int) (by omega) dL_day_692 rfl (by decide) rfl ?_
      refine zj_goto C 651 dL_day_695 (by decide) ?_
      refine zj_sub (L' := [(33, .int (jI ((k + 1 : Nat) : Int))), (31, .long (jL 0)), (29, .long (jL (sS (gTr_le T) fr to))), (28, .int (jI d)), (26, .long (jL (pI T))), (25, .int (jI (2 + dirI T))), (17, .long (jL Lf)), (13, .long (jL (wI T))), (10, .ref qw), (9, .ref qn), (8, .ref qs), (7, .ref qb), (6, .ref qp), (5, .ref qu), (4, .ref qa), (3, .int (jI (gOd_n (gTr_bu T) : Int))), (2, .int (jI (gOd_n (gTr_le T) : Int))), (1, .int (jI (dI T))), (0, .ref x0)]) [0, 1, 2, 3, 4, 5, 6, 7, 8, 9, 10, 11, 12, 13, 14, 15, 16, 17, 18] rfl ?_
      refine ih (k + 1) f (by omega) (fun i => ?_)
      rw [hf i]
      by_cases g : fr ≤ i ∧ i < to
      · rw [if_pos g, if_pos g]
        by_cases q : i < k
        · rw [if_pos q, if_pos (by omega)]
        · rw [if_neg q]
          by_cases ei : i = k
          · subst ei; rw [if_pos (by omega)]; unfold shG; rw [if_pos hc]
          · rw [if_neg (by omega)]
      · rw [if_neg g, if_neg g]
set_option maxHeartbeats 4000000 in
set_option maxRecDepth 100000 in
theorem day_b21 (C : zO E cL_day 37 "SwingUnitsLaw" rm_day cy l D) (hG : GI Dd c T) (hO : LO T z y s) {qa qu qp qb qs qn qw : Nat} {fa fu fp fb fn fw : Nat → Int} {d Lf : Int} {fr to : Nat} {fs : Nat → Int} (hn : ∀ j, j < gOd_n (gTr_le T) → fn j = oS (gTr_le T) j) (hd : 0 ≤ d ∧ d ≤ 200000) (hL : 0 ≤ Lf ∧ Lf ≤ 1000000000) (hg : gD (gTr_le T) d fr to) (ht : sS (gTr_le T) 0 (gOd_n (gTr_le T)) ≤ 1000000000) (hft : fr < to) (hc : Lf < (sS (gTr_le T) fr to)) (kk : ∀ f : Nat → Int, (∀ i, f i = if fr ≤ i ∧ i < to ∧ i < gOd_n (gTr_le T) then oS (gTr_le T) i * Lf / (sS (gTr_le T) fr to) else fs i) → zJ E 37 7 86 (([IA cy qw 20 fw, LA cy qn 20 fn, LA cy qs 20 f, LA cy qb 6 fb, LA cy qp 6 fp, LA cy qu 6 fu, LA cy qa 8 fa] : List va_W) ++ LB cy x0 x1 x2 d0 d1 p0 p1 h0 h1 a b hs sl T U x z y s).flatten 648 [(33, .int (jI (gOd_n (gTr_le T) : Int))), (31, .long (jL (Lf - flS (gTr_le T) Lf (sS (gTr_le T) fr to) fr (to - fr)))), (29, .long (jL (sS (gTr_le T) fr to))), (28, .int (jI d)), (26, .long (jL (pI T))), (25, .int (jI (2 + dirI T))), (17, .long (jL Lf)), (13, .long (jL (wI T))), (10, .ref qw), (9, .ref qn), (8, .ref qs), (7, .ref qb), (6, .ref qp), (5, .ref qu), (4, .ref qa), (3, .int (jI (gOd_n (gTr_bu T) : Int))), (2, .int (jI (gOd_n (gTr_le T) : Int))), (1, .int (jI (dI T))), (0, .ref x0)] []) : ∀ (m k : Nat) (f : Nat → Int), k + m = gOd_n (gTr_le T) → (∀ i, f i = if fr ≤ i ∧ i < to ∧ i < k then oS (gTr_le T) i * Lf / (sS (gTr_le T) fr to) else fs i) → zJ E 37 7 86 (([IA cy qw 20 fw, LA cy qn 20 fn, LA cy qs 20 f, LA cy qb 6 fb, LA cy qp 6 fp, LA cy qu 6 fu, LA cy qa 8 fa] : List va_W) ++ LB cy x0 x1 x2 d0 d1 p0 p1 h0 h1 a b hs sl T U x z y s).flatten 573 [(33, .int (jI (k : Int))), (31, .long (jL (Lf - flS (gTr_le T) Lf (sS (gTr_le T) fr to) fr (nK fr to k)))), (29, .long (jL (sS (gTr_le T) fr to))), (28, .int (jI d)), (26, .long (jL (pI T))), (25, .int (jI (2 + dirI T))), (17, .long (jL Lf)), (13, .long (jL (wI T))), (10, .ref qw), (9, .ref qn), (8, .ref qs), (7, .ref qb), (6, .ref qp), (5, .ref qu), (4, .ref qa), (3, .int (jI (gOd_n (gTr_bu T) : Int))), (2, .int (jI (gOd_n (gTr_le T) : Int))), (1, .int (jI (dI T))), (0, .ref x0)] [] := by
  have rdI := (GI_r hG).2.2.2.2.2.2.2.2.1
  have rnb := (GI_r hG).2.2.2.2.2.2.2.2.2.1
  have rnl := (GI_r hG).2.2.2.2.2.2.2.2.2.2.1
  obtain ⟨hg1, hg2, hg3⟩ := hg
  have hSr := (suK_r hG.1.2.2.1 ht hg1 hg2 (Nat.le_refl (to - fr))).2
  have hS1 := (suK_r hG.1.2.2.1 ht hg1 hg2 (m := 1) (by omega)).1
  have hS2 := (suK_r hG.1.2.2.1 ht hg1 hg2 (m := 1) (by omega)).2.1
  obtain ⟨F1, F2, F3⟩ := flS_r hG.1.2.2.1 ht hft hg2 hL.1 hc
  intro m
  induction m with
  | zero =>
    intro k f hk hf
    have ek : k = gOd_n (gTr_le T) := by omega
    subst ek
    rw [nK_end hg2 hg1]
    refine zj_iload C dL_day_573 0 rfl ?_
    refine zj_iload_n C dL_day_575 16 rfl ?_
    refine ij_icmp_ge C 648 dL_day_576 (by decide) ⟨by omega, by omega⟩ ⟨by omega, by omega⟩ (fun _ => ?_) (fun h => False.elim (by omega))
    exact kk f hf
  | succ m ih =>
    intro k f hk hf
    have hkn : k < gOd_n (gTr_le T) := by omega
    obtain ⟨⟨ra, rb⟩, ⟨rc, rd⟩, re, rf⟩ := GI_ol hG hkn
    refine zj_iload C dL_day_573 0 rfl ?_
    refine zj_iload_n C dL_day_575 16 rfl ?_
    refine ij_icmp_ge C 648 dL_day_576 (by decide) ⟨by omega, by omega⟩ ⟨by omega, by omega⟩ (fun h => False.elim (by omega)) (fun _ => ?_)
    refine zj_aload_n C dL_day_579 18 rfl ?_
    refine ij_iconst C dL_day_580 ?_
    refine zj_iload C dL_day_581 0 rfl ?_
    refine ij_iconst C dL_day_583 ?_
    refine lc_order C ⟨Nat.le_of_ble_eq_true rfl, Nat.le_of_ble_eq_true rfl⟩ ⟨Nat.le_of_ble_eq_true rfl, Nat.le_of_ble_eq_true rfl⟩ hO ([IA cy qw 20 fw, LA cy qn 20 fn, LA cy qs 20 f, LA cy qb 6 fb, LA cy qp 6 fp, LA cy qu 6 fu, LA cy qa 8 fa] : List va_W) (jI 1) (jI (k : Int)) (jI 2) (Nat.le_of_ble_eq_true rfl) dL_day_584 (vo_12 hG hkn) ?_
    refine zj_iload C dL_day_587 3 rfl ?_
    refine ij_icmp_ne C 642 dL_day_589 (by decide) ⟨by omega, by omega⟩ ⟨by omega, by omega⟩ (fun hb => ?_) (fun hb => ?_)
    · skip
      refine ij_iinc C (j := 0) (L2 := [(33, .int (jI ((k + 1 : Nat) : Int))), (31, .long (jL (Lf - flS (gTr_le T) Lf (sS (gTr_le T) fr to) fr (nK fr to k)))), (29, .long (jL (sS (gTr_le T) fr to))), (28, .int (jI d)), (26, .long (jL (pI T))), (25, .int (jI (2 + dirI T))), (17, .long (jL Lf)), (13, .long (jL (wI T))), (10, .ref qw), (9, .ref qn), (8, .ref qs), (7, .ref qb), (6, .ref qp), (5, .ref qu), (4, .ref qa), (3, .int (jI (gOd_n (gTr_bu T) : Int))), (2, .int (jI (gOd_n (gTr_le T) : Int))), (1, .int (jI (dI T))), (0, .ref x0)]) ((k + 1 : Nat) : Int) (by omega) dL_day_642 rfl (by decide) rfl ?_
      refine zj_goto C 573 dL_day_645 (by decide) ?_
      refine zj_sub (L' := [(33, .int (jI ((k + 1 : Nat) : Int))), (31, .long (jL (Lf - flS (gTr_le T) Lf (sS (gTr_le T) fr to) fr (nK fr to k)))), (29, .long (jL (sS (gTr_le T) fr to))), (28, .int (jI d)), (26, .long (jL (pI T))), (25, .int (jI (2 + dirI T))), (17, .long (jL Lf)), (13, .long (jL (wI T))), (10, .ref qw), (9, .ref qn), (8, .ref qs), (7, .ref qb), (6, .ref qp), (5, .ref qu), (4, .ref qa), (3, .int (jI (gOd_n (gTr_bu T) : Int))), (2, .int (jI (gOd_n (gTr_le T) : Int))), (1, .int (jI (dI T))), (0, .ref x0)]) [0, 1, 2, 3, 4, 5, 6, 7, 8, 9, 10, 11, 12, 13, 14, 15, 16, 17, 18] rfl ?_
      have e := nK_out hg1 (fun q => hb ((hg3 k hkn).mpr q))
      rw [← e]
      refine ih (k + 1) f (by omega) (fun i => ?_)
      rw [hf i]
      by_cases g : fr ≤ i ∧ i < to ∧ i < k
      · rw [if_pos g, if_pos (by omega)]
      · rw [if_neg g, if_neg (fun q => by have := (hg3 k hkn).mpr; by_cases ei : i = k; exact hb (this (by omega)); omega)]
    · skip
      obtain ⟨e1, e2⟩ := nK_in ((hg3 k hkn).mp (by omega))
      have hin := (hg3 k hkn).mp (by omega)
      have hnk := hn k hkn
      obtain ⟨y1, y2, y3, y4⟩ := F3 (nK fr to k) (by have := nK_le (fr := fr) (to := to) (k := k + 1); omega)
      rw [e2] at y1 y2 y3 y4
      have hfl : flS (gTr_le T) Lf (sS (gTr_le T) fr to) fr (nK fr to (k + 1)) = flS (gTr_le T) Lf (sS (gTr_le T) fr to) fr (nK fr to k) + oS (gTr_le T) k * Lf / (sS (gTr_le T) fr to) := by rw [e1, flS_s, e2]
      refine zj_aload C dL_day_592 10 rfl ?_
      refine zj_iload C dL_day_594 0 rfl ?_
      refine zj_lload C dL_day_596 2 rfl ?_
      refine zj_lload C dL_day_598 6 rfl ?_
      refine ij_lcmp_gt C 612 dL_day_600 dL_day_601 (by decide) ⟨by omega, by omega⟩ ⟨by omega, by omega⟩ (fun _ => ?_) (fun h => False.elim (by omega))
      refine zj_aload C dL_day_612 9 rfl ?_
      refine zj_iload C dL_day_614 0 rfl ?_
      refine ij_laload C 1 (f := fn) k rfl (by omega) (by decide) rfl dL_day_616 ?_
      refine ij_el (oS (gTr_le T) k) hnk ?_
      refine zj_lload C dL_day_617 6 rfl ?_
      refine ij_lmul C dL_day_619 ?_
      refine zj_lload C dL_day_620 2 rfl ?_
      refine ij_ldiv C ⟨by omega, by omega⟩ ⟨by omega, by omega⟩ dL_day_622 ?_
      refine ij_lastore C 2 (f := f) (ws' := (([IA cy qw 20 fw, LA cy qn 20 fn, LA cy qs 20 (iup f k (((oS (gTr_le T) k) * Lf) / (sS (gTr_le T) fr to))), LA cy qb 6 fb, LA cy qp 6 fp, LA cy qu 6 fu, LA cy qa 8 fa] : List va_W) ++ LB cy x0 x1 x2 d0 d1 p0 p1 h0 h1 a b hs sl T U x z y s).flatten) k rfl (by omega) (by decide) rfl dL_day_623 rfl ?_
      refine zj_lload C dL_day_624 2 rfl ?_
      refine zj_lload C dL_day_626 6 rfl ?_
      refine ij_lcmp_le C 642 dL_day_628 dL_day_629 (by decide) ⟨by omega, by omega⟩ ⟨by omega, by omega⟩ (fun h => False.elim (by omega)) (fun _ => ?_)
      refine zj_lload C dL_day_632 1 rfl ?_
      refine zj_aload C dL_day_634 10 rfl ?_
      refine zj_iload C dL_day_636 0 rfl ?_
      refine ij_laload C 2 (f := (iup f k (((oS (gTr_le T) k) * Lf) / (sS (gTr_le T) fr to)))) k rfl (by omega) (by decide) rfl dL_day_638 ?_
      refine ij_el (((oS (gTr_le T) k) * Lf) / (sS (gTr_le T) fr to)) (iup_s _ _ _) ?_
      refine ij_lsub C dL_day_639 ?_
      refine ij_el (Lf - flS (gTr_le T) Lf (sS (gTr_le T) fr to) fr (nK fr to (k + 1))) (by omega) ?_
      refine zj_lstore C (L' := [(31, .long (jL (Lf - flS (gTr_le T) Lf (sS (gTr_le T) fr to) fr (nK fr to (k + 1))))), (33, .int (jI (k : Int))), (29, .long (jL (sS (gTr_le T) fr to))), (28, .int (jI d)), (26, .long (jL (pI T))), (25, .int (jI (2 + dirI T))), (17, .long (jL Lf)), (13, .long (jL (wI T))), (10, .ref qw), (9, .ref qn), (8, .ref qs), (7, .ref qb), (6, .ref qp), (5, .ref qu), (4, .ref qa), (3, .int (jI (gOd_n (gTr_bu T) : Int))), (2, .int (jI (gOd_n (gTr_le T) : Int))), (1, .int (jI (dI T))), (0, .ref x0)]) dL_day_640 (by decide) rfl ?_
      refine ij_iinc C (j := 1) (L2 := [(33, .int (jI ((k + 1 : Nat) : Int))), (31, .long (jL (Lf - flS (gTr_le T) Lf (sS (gTr_le T) fr to) fr (nK fr to (k + 1))))), (29, .long (jL (sS (gTr_le T) fr to))), (28, .int (jI d)), (26, .long (jL (pI T))), (25, .int (jI (2 + dirI T))), (17, .long (jL Lf)), (13, .long (jL (wI T))), (10, .ref qw), (9, .ref qn), (8, .ref qs), (7, .ref qb), (6, .ref qp), (5, .ref qu), (4, .ref qa), (3, .int (jI (gOd_n (gTr_bu T) : Int))), (2, .int (jI (gOd_n (gTr_le T) : Int))), (1, .int (jI (dI T))), (0, .ref x0)]) ((k + 1 : Nat) : Int) (by omega) dL_day_642 rfl (by decide) rfl ?_
      refine zj_goto C 573 dL_day_645 (by decide) ?_
      refine zj_sub (L' := [(33, .int (jI ((k + 1 : Nat) : Int))), (31, .long (jL (Lf - flS (gTr_le T) Lf (sS (gTr_le T) fr to) fr (nK fr to (k + 1))))), (29, .long (jL (sS (gTr_le T) fr to))), (28, .int (jI d)), (26, .long (jL (pI T))), (25, .int (jI (2 + dirI T))), (17, .long (jL Lf)), (13, .long (jL (wI T))), (10, .ref qw), (9, .ref qn), (8, .ref qs), (7, .ref qb), (6, .ref qp), (5, .ref qu), (4, .ref qa), (3, .int (jI (gOd_n (gTr_bu T) : Int))), (2, .int (jI (gOd_n (gTr_le T) : Int))), (1, .int (jI (dI T))), (0, .ref x0)]) [0, 1, 2, 3, 4, 5, 6, 7, 8, 9, 10, 11, 12, 13, 14, 15, 16, 17, 18] rfl ?_
      refine ih (k + 1) _ (by omega) (fun i => ?_)
      unfold iup
      by_cases ei : i = k
      · subst ei; rw [if_pos rfl, if_pos ⟨hin.1, hin.2, by omega⟩]
      · rw [if_neg ei, hf i]
        by_cases g : fr ≤ i ∧ i < to ∧ i < k
        · rw [if_pos g, if_pos (by omega)]
        · rw [if_neg g, if_neg (by omega)]
set_option maxHeartbeats 4000000 in
set_option maxRecDepth 100000 in
theorem day_b31 (C : zO E cL_day 37 "SwingUnitsLaw" rm_day cy l D) (hG : GI Dd c T) (hO : LO T z y s) {qa qu qp qb qs qn qw : Nat} {fa fu fp fb fn fw : Nat → Int} {d Lf : Int} {fr to : Nat} {fs : Nat → Int} (hn : ∀ j, j < gOd_n (gTr_le T) → fn j = oS (gTr_le T) j) (hd : 0 ≤ d ∧ d ≤ 200000) (hL : 0 ≤ Lf ∧ Lf ≤ 1000000000) (hg : gD (gTr_le T) d fr to) (ht : sS (gTr_le T) 0 (gOd_n (gTr_le T)) ≤ 1000000000) (hft : fr < to) (hc : Lf < (sS (gTr_le T) fr to)) (R : Int) (hR : R = Lf - flS (gTr_le T) Lf (sS (gTr_le T) fr to) fr (to - fr)) (kk : ∀ (f : Nat → Int) (rr : Int), (∀ i, f i = if fr ≤ i ∧ i < to then (if i < gOd_n (gTr_le T) then shG (gTr_le T) Lf (sS (gTr_le T) fr to) fr to i else oS (gTr_le T) i * Lf / (sS (gTr_le T) fr to)) else fs i) → zJ E 37 7 86 (([IA cy qw 20 fw, LA cy qn 20 fn, LA cy qs 20 f, LA cy qb 6 fb, LA cy qp 6 fp, LA cy qu 6 fu, LA cy qa 8 fa] : List va_W) ++ LB cy x0 x1 x2 d0 d1 p0 p1 h0 h1 a b hs sl T U x z y s).flatten 698 [(33, .int (jI (gOd_n (gTr_le T) : Int))), (31, .long (jL rr)), (29, .long (jL (sS (gTr_le T) fr to))), (28, .int (jI d)), (26, .long (jL (pI T))), (25, .int (jI (2 + dirI T))), (17, .long (jL Lf)), (13, .long (jL (wI T))), (10, .ref qw), (9, .ref qn), (8, .ref qs), (7, .ref qb), (6, .ref qp), (5, .ref qu), (4, .ref qa), (3, .int (jI (gOd_n (gTr_bu T) : Int))), (2, .int (jI (gOd_n (gTr_le T) : Int))), (1, .int (jI (dI T))), (0, .ref x0)] []) : ∀ (m k : Nat) (f : Nat → Int), k + m = gOd_n (gTr_le T) → (∀ i, f i = if fr ≤ i ∧ i < to then (if i < k then shG (gTr_le T) Lf (sS (gTr_le T) fr to) fr to i else oS (gTr_le T) i * Lf / (sS (gTr_le T) fr to)) else fs i) → zJ E 37 7 86 (([IA cy qw 20 fw, LA cy qn 20 fn, LA cy qs 20 f, LA cy qb 6 fb, LA cy qp 6 fp, LA cy qu 6 fu, LA cy qa 8 fa] : List va_W) ++ LB cy x0 x1 x2 d0 d1 p0 p1 h0 h1 a b hs sl T U x z y s).flatten 651 [(33, .int (jI (k : Int))), (31, .long (jL (if (nK fr to k : Int) ≤ R then R - (nK fr to k : Int) else 0))), (29, .long (jL (sS (gTr_le T) fr to))), (28, .int (jI d)), (26, .long (jL (pI T))), (25, .int (jI (2 + dirI T))), (17, .long (jL Lf)), (13, .long (jL (wI T))), (10, .ref qw), (9, .ref qn), (8, .ref qs), (7, .ref qb), (6, .ref qp), (5, .ref qu), (4, .ref qa), (3, .int (jI (gOd_n (gTr_bu T) : Int))), (2, .int (jI (gOd_n (gTr_le T) : Int))), (1, .int (jI (dI T))), (0, .ref x0)] [] := by
  have rdI := (GI_r hG).2.2.2.2.2.2.2.2.1
  have rnb := (GI_r hG).2.2.2.2.2.2.2.2.2.1
  have rnl := (GI_r hG).2.2.2.2.2.2.2.2.2.2.1
  obtain ⟨hg1, hg2, hg3⟩ := hg
  obtain ⟨F1, F2, F3⟩ := flS_r hG.1.2.2.1 ht hft hg2 hL.1 hc
  have hRb : 0 ≤ R ∧ R ≤ 1000 := by subst hR; exact ⟨F1, by omega⟩
  intro m
  induction m with
  | zero =>
    intro k f hk hf
    have ek : k = gOd_n (gTr_le T) := by omega
    subst ek
    refine zj_iload C dL_day_651 0 rfl ?_
    refine zj_iload_n C dL_day_653 16 rfl ?_
    refine ij_icmp_ge C 698 dL_day_654 (by decide) ⟨by omega, by omega⟩ ⟨by omega, by omega⟩ (fun _ => ?_) (fun h => False.elim (by omega))
    exact kk f _ hf
  | succ m ih =>
    intro k f hk hf
    have hkn : k < gOd_n (gTr_le T) := by omega
    obtain ⟨⟨ra, rb⟩, ⟨rc, rd⟩, re, rf⟩ := GI_ol hG hkn
    refine zj_iload C dL_day_651 0 rfl ?_
    refine zj_iload_n C dL_day_653 16 rfl ?_
    refine ij_icmp_ge C 698 dL_day_654 (by decide) ⟨by omega, by omega⟩ ⟨by omega, by omega⟩ (fun h => False.elim (by omega)) (fun _ => ?_)
    refine zj_aload_n C dL_day_657 18 rfl ?_
    refine ij_iconst C dL_day_658 ?_
    refine zj_iload C dL_day_659 0 rfl ?_
    refine ij_iconst C dL_day_661 ?_
    refine lc_order C ⟨Nat.le_of_ble_eq_true rfl, Nat.le_of_ble_eq_true rfl⟩ ⟨Nat.le_of_ble_eq_true rfl, Nat.le_of_ble_eq_true rfl⟩ hO ([IA cy qw 20 fw, LA cy qn 20 fn, LA cy qs 20 f, LA cy qb 6 fb, LA cy qp 6 fp, LA cy qu 6 fu, LA cy qa 8 fa] : List va_W) (jI 1) (jI (k : Int)) (jI 2) (Nat.le_of_ble_eq_true rfl) dL_day_662 (vo_12 hG hkn) ?_
    refine zj_iload C dL_day_665 3 rfl ?_
    refine ij_icmp_ne C 692 dL_day_667 (by decide) ⟨by omega, by omega⟩ ⟨by omega, by omega⟩ (fun hb => ?_) (fun hb => ?_)
    · skip
      refine ij_iinc C (j := 0) (L2 := [(33, .int (jI ((k + 1 : Nat) : Int))), (31, .long (jL (if (nK fr to k : Int) ≤ R then R - (nK fr to k : Int) else 0))), (29, .long (jL (sS (gTr_le T) fr to))), (28, .int (jI d)), (26, .long (jL (pI T))), (25, .int (jI (2 + dirI T))), (17, .long (jL Lf)), (13, .long (jL (wI T))), (10, .ref qw), (9, .ref qn), (8, .ref qs), (7, .ref qb), (6, .ref qp), (5, .ref qu), (4, .ref qa), (3, .int (jI (gOd_n (gTr_bu T) : Int))), (2, .int (jI (gOd_n (gTr_le T) : Int))), (1, .int (jI (dI T))), (0, .ref x0)]) ((k + 1 : Nat) : Int) (by omega) dL_day_692 rfl (by decide) rfl ?_
      refine zj_goto C 651 dL_day_695 (by decide) ?_
      refine zj_sub (L' := [(33, .int (jI ((k + 1 : Nat) : Int))), (31, .long (jL (if (nK fr to k : Int) ≤ R then R - (nK fr to k : Int) else 0))), (29, .long (jL (sS (gTr_le T) fr to))), (28, .int (jI d)), (26, .long (jL (pI T))), (25, .int (jI (2 + dirI T))), (17, .long (jL Lf)), (13, .long (jL (wI T))), (10, .ref qw), (9, .ref qn), (8, .ref qs), (7, .ref qb), (6, .ref qp), (5, .ref qu), (4, .ref qa), (3, .int (jI (gOd_n (gTr_bu T) : Int))), (2, .int (jI (gOd_n (gTr_le T) : Int))), (1, .int (jI (dI T))), (0, .ref x0)]) [0, 1, 2, 3, 4, 5, 6, 7, 8, 9, 10, 11, 12, 13, 14, 15, 16, 17, 18] rfl ?_
      have e := nK_out hg1 (fun q => hb ((hg3 k hkn).mpr q))
      rw [← e]
      refine ih (k + 1) f (by omega) (fun i => ?_)
      rw [hf i]
      by_cases g : fr ≤ i ∧ i < to
      · rw [if_pos g, if_pos g]
        by_cases q : i < k
        · rw [if_pos q, if_pos (by omega)]
        · rw [if_neg q]
          by_cases ei : i = k
          · subst ei; exact absurd ((hg3 i hkn).mpr g) hb
          · rw [if_neg (by omega)]
      · rw [if_neg g, if_neg g]
    · skip
      obtain ⟨e1, e2⟩ := nK_in ((hg3 k hkn).mp (by omega))
      have hin := (hg3 k hkn).mp (by omega)
      obtain ⟨y1, y2, y3, y4⟩ := F3 (nK fr to k) (by have := nK_le (fr := fr) (to := to) (k := k + 1); omega)
      rw [e2] at y1 y2 y3 y4
      have hkf : ((nK fr to k : Nat) : Int) = (k : Int) - fr := by omega
      have hfk : f k = oS (gTr_le T) k * Lf / (sS (gTr_le T) fr to) := by rw [hf k, if_pos hin, if_neg (Nat.lt_irrefl k)]
      have hsh : shG (gTr_le T) Lf (sS (gTr_le T) fr to) fr to k = oS (gTr_le T) k * Lf / (sS (gTr_le T) fr to) + (if (k : Int) - fr < R then 1 else 0) := by unfold shG; rw [if_neg (by omega), hR]
      by_cases hq : (nK fr to k : Int) < R
      · skip
        refine zj_lload C dL_day_670 1 rfl ?_
        refine zj_lconst C (v := jL 0) dL_day_672 (by decide) ?_
        refine ij_lcmp_le C 692 dL_day_673 dL_day_674 (by decide) ⟨by split <;> omega, by split <;> omega⟩ ⟨by decide, by decide⟩ (fun h => False.elim (by rw [if_pos (by omega)] at h; omega)) (fun _ => ?_)
        refine zj_aload C dL_day_677 10 rfl ?_
        refine zj_iload C dL_day_679 0 rfl ?_
        refine zj_dup2 C dL_day_681 rfl rfl ?_
        refine ij_laload C 2 (f := f) k rfl (by omega) (by decide) rfl dL_day_682 ?_
        refine ij_el (oS (gTr_le T) k * Lf / (sS (gTr_le T) fr to)) hfk ?_
        refine zj_lconst C (v := jL 1) dL_day_683 (by decide) ?_
        refine ij_ladd C dL_day_684 ?_
        refine ij_el (shG (gTr_le T) Lf (sS (gTr_le T) fr to) fr to k) (by rw [hsh, if_pos (by omega)]) ?_
        refine ij_lastore C 2 (f := f) (ws' := (([IA cy qw 20 fw, LA cy qn 20 fn, LA cy qs 20 (iup f k (shG (gTr_le T) Lf (sS (gTr_le T) fr to) fr to k)), LA cy qb 6 fb, LA cy qp 6 fp, LA cy qu 6 fu, LA cy qa 8 fa] : List va_W) ++ LB cy x0 x1 x2 d0 d1 p0 p1 h0 h1 a b hs sl T U x z y s).flatten) k rfl (by omega) (by decide) rfl dL_day_685 rfl ?_
        refine zj_lload C dL_day_686 1 rfl ?_
        refine zj_lconst C (v := jL 1) dL_day_688 (by decide) ?_
        refine ij_lsub C dL_day_689 ?_
        refine ij_el (if (nK fr to (k + 1) : Int) ≤ R then R - (nK fr to (k + 1) : Int) else 0) (by rw [if_pos (by omega), if_pos (by omega)]; omega) ?_
        refine zj_lstore C (L' := [(31, .long (jL (if (nK fr to (k + 1) : Int) ≤ R then R - (nK fr to (k + 1) : Int) else 0))), (33, .int (jI (k : Int))), (29, .long (jL (sS (gTr_le T) fr to))), (28, .int (jI d)), (26, .long (jL (pI T))), (25, .int (jI (2 + dirI T))), (17, .long (jL Lf)), (13, .long (jL (wI T))), (10, .ref qw), (9, .ref qn), (8, .ref qs), (7, .ref qb), (6, .ref qp), (5, .ref qu), (4, .ref qa), (3, .int (jI (gOd_n (gTr_bu T) : Int))), (2, .int (jI (gOd_n (gTr_le T) : Int))), (1, .int (jI (dI T))), (0, .ref x0)]) dL_day_690 (by decide) rfl ?_
        refine ij_iinc C (j := 1) (L2 := [(33, .int (jI ((k + 1 : Nat) : Int))), (31, .long (jL (if (nK fr to (k + 1) : Int) ≤ R then R - (nK fr to (k + 1) : Int) else 0))), (29, .long (jL (sS (gTr_le T) fr to))), (28, .int (jI d)), (26, .long (jL (pI T))), (25, .int (jI (2 + dirI T))), (17, .long (jL Lf)), (13, .long (jL (wI T))), (10, .ref qw), (9, .ref qn), (8, .ref qs), (7, .ref qb), (6, .ref qp), (5, .ref qu), (4, .ref qa), (3, .int (jI (gOd_n (gTr_bu T) : Int))), (2, .int (jI (gOd_n (gTr_le T) : Int))), (1, .int (jI (dI T))), (0, .ref x0)]) ((k + 1 : Nat) : Int) (by omega) dL_day_692 rfl (by decide) rfl ?_
        refine zj_goto C 651 dL_day_695 (by decide) ?_
        refine zj_sub (L' := [(33, .int (jI ((k + 1 : Nat) : Int))), (31, .long (jL (if (nK fr to (k + 1) : Int) ≤ R then R - (nK fr to (k + 1) : Int) else 0))), (29, .long (jL (sS (gTr_le T) fr to))), (28, .int (jI d)), (26, .long (jL (pI T))), (25, .int (jI (2 + dirI T))), (17, .long (jL Lf)), (13, .long (jL (wI T))), (10, .ref qw), (9, .ref qn), (8, .ref qs), (7, .ref qb), (6, .ref qp), (5, .ref qu), (4, .ref qa), (3, .int (jI (gOd_n (gTr_bu T) : Int))), (2, .int (jI (gOd_n (gTr_le T) : Int))), (1, .int (jI (dI T))), (0, .ref x0)]) [0, 1, 2, 3, 4, 5, 6, 7, 8, 9, 10, 11, 12, 13, 14, 15, 16, 17, 18] rfl ?_
        refine ih (k + 1) _ (by omega) (fun i => ?_)
        unfold iup
        by_cases ei : i = k
        · subst ei; rw [if_pos rfl, if_pos hin, if_pos (by omega)]
        · rw [if_neg ei, hf i]
          by_cases g : fr ≤ i ∧ i < to
          · rw [if_pos g, if_pos g]
            by_cases q : i < k
            · rw [if_pos q, if_pos (by omega)]
            · rw [if_neg q, if_neg (by omega)]
          · rw [if_neg g, if_neg g]
      · skip
        refine zj_lload C dL_day_670 1 rfl ?_
        refine zj_lconst C (v := jL 0) dL_day_672 (by decide) ?_
        refine ij_lcmp_le C 692 dL_day_673 dL_day_674 (by decide) ⟨by split <;> omega, by split <;> omega⟩ ⟨by decide, by decide⟩ (fun _ => ?_) (fun h => False.elim (by split at h <;> omega))
        refine ij_iinc C (j := 0) (L2 := [(33, .int (jI ((k + 1 : Nat) : Int))), (31, .long (jL (if (nK fr to k : Int) ≤ R then R - (nK fr to k : Int) else 0))), (29, .long (jL (sS (gTr_le T) fr to))), (28, .int (jI d)), (26, .long (jL (pI T))), (25, .int (jI (2 + dirI T))), (17, .long (jL Lf)), (13, .long (jL (wI T))), (10, .ref qw), (9, .ref qn), (8, .ref qs), (7, .ref qb), (6, .ref qp), (5, .ref qu), (4, .ref qa), (3, .int (jI (gOd_n (gTr_bu T) : Int))), (2, .int (jI (gOd_n (gTr_le T) : Int))), (1, .int (jI (dI T))), (0, .ref x0)]) ((k + 1 : Nat) : Int) (by omega) dL_day_692 rfl (by decide) rfl ?_
        refine zj_goto C 651 dL_day_695 (by decide) ?_
        refine zj_sub (L' := [(33, .int (jI ((k + 1 : Nat) : Int))), (31, .long (jL (if (nK fr to k : Int) ≤ R then R - (nK fr to k : Int) else 0))), (29, .long (jL (sS (gTr_le T) fr to))), (28, .int (jI d)), (26, .long (jL (pI T))), (25, .int (jI (2 + dirI T))), (17, .long (jL Lf)), (13, .long (jL (wI T))), (10, .ref qw), (9, .ref qn), (8, .ref qs), (7, .ref qb), (6, .ref qp), (5, .ref qu), (4, .ref qa), (3, .int (jI (gOd_n (gTr_bu T) : Int))), (2, .int (jI (gOd_n (gTr_le T) : Int))), (1, .int (jI (dI T))), (0, .ref x0)]) [0, 1, 2, 3, 4, 5, 6, 7, 8, 9, 10, 11, 12, 13, 14, 15, 16, 17, 18] rfl ?_
        have er : (if (nK fr to (k + 1) : Int) ≤ R then R - (nK fr to (k + 1) : Int) else 0) = (if (nK fr to k : Int) ≤ R then R - (nK fr to k : Int) else 0) := by
          rw [if_neg (by omega)]
          split <;> omega
        rw [← er]
        refine ih (k + 1) f (by omega) (fun i => ?_)
        rw [hf i]
        by_cases g : fr ≤ i ∧ i < to
        · rw [if_pos g, if_pos g]
          by_cases q : i < k
          · rw [if_pos q, if_pos (by omega)]
          · rw [if_neg q]
            by_cases ei : i = k
            · subst ei; rw [if_pos (by omega), hsh, if_neg (by omega)]; omega
            · rw [if_neg (by omega)]
        · rw [if_neg g, if_neg g]
end DAYB
