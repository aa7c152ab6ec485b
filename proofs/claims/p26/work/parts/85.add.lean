/-! a new order's place -/
def cpos (day : Int32) (f : Nat → Int32) : Nat → Nat
  | 0 => 0
  | n + 1 => if f n ≤ day then n + 1 else cpos day f n
theorem cpos_le (day : Int32) (f : Nat → Int32) : ∀ n, cpos day f n ≤ n
  | 0 => Nat.le_refl _
  | n + 1 => by
    unfold cpos
    split
    · exact Nat.le_refl _
    · exact Nat.le_succ_of_le (cpos_le day f n)
theorem cpos_spec (day : Int32) (f : Nat → Int32) : ∀ n, (∀ i, cpos day f n ≤ i → i < n → day < f i) ∧ (0 < cpos day f n → f (cpos day f n - 1) ≤ day)
  | 0 => ⟨fun i h1 h2 => by omega, fun h => by have : cpos day f 0 = 0 := rfl; omega⟩
  | n + 1 => by
    unfold cpos
    by_cases c : f n ≤ day
    · rw [if_pos c]
      exact ⟨fun i h1 h2 => by omega, fun _ => by rw [Nat.add_sub_cancel]; exact c⟩
    · rw [if_neg c]
      obtain ⟨h1, h2⟩ := cpos_spec day f n
      refine ⟨fun i a b => ?_, h2⟩
      by_cases e : i = n
      · subst e; exact Int32.not_le.mp c
      · exact h1 i a (by omega)
theorem zpos_cpos {day : Int32} {f : Nat → Int32} {w : Nat → Int64} : ∀ n, (∀ i, i < n → w i = (f i).toInt64) → zpos day.toInt64 w n = cpos day f n
  | 0, _ => rfl
  | n + 1, h => by
    unfold zpos cpos
    rw [h n (by omega), zpos_cpos n (fun i hi => h i (by omega))]
    exact if_iff i32_l_le
theorem L_add_at (day : Int32) (R : Bool) (o : zOd) : ∀ (m p : Nat) (X : zOd), p = m → p ≤ gOd_n o → gOd_n X = gOd_n o → (∀ i, i ≤ p → trO X i = trO o i) → (∀ i, p < i → i ≤ gOd_n o → trO X i = trO o (i - 1)) →
    (L_X4_add day R (m + 1) X p).2 = cpos day (gOd_dy o) p ∧ gOd_n (L_X4_add day R (m + 1) X p).1 = gOd_n o ∧ (∀ i, i < cpos day (gOd_dy o) p → trO (L_X4_add day R (m + 1) X p).1 i = trO o i) ∧ (∀ i, cpos day (gOd_dy o) p < i → i ≤ gOd_n o → trO (L_X4_add day R (m + 1) X p).1 i = trO o (i - 1)) := by
  intro m
  induction m with
  | zero =>
    intro p X hp hpn hn h1 h2
    subst hp
    rw [L_X4_add_s, if_pos rfl]
    exact ⟨rfl, hn, fun i hi => h1 i (by have : cpos day (gOd_dy o) 0 = 0 := rfl; omega), fun i a b => h2 i (by have : cpos day (gOd_dy o) 0 = 0 := rfl; omega) b⟩
  | succ m ih =>
    intro p X hp hpn hn h1 h2
    subst hp
    have e := h1 m (by omega)
    have e1 : gOd_ho X m = gOd_ho o m := congrArg (fun t => t.1) e
    have e2 : gOd_sz X m = gOd_sz o m := congrArg (fun t => t.2.1) e
    have e3 : gOd_dy X m = gOd_dy o m := congrArg (fun t => t.2.2) e
    rw [L_X4_add_s, if_neg (by omega), Nat.add_sub_cancel, e1, e2, e3]
    by_cases c : gOd_dy o m ≤ day
    · rw [if_pos c]
      have hc : cpos day (gOd_dy o) (m + 1) = m + 1 := if_pos c
      rw [hc]
      exact ⟨rfl, hn, fun i hi => h1 i (by omega), fun i a b => h2 i a b⟩
    · rw [if_neg c]
      have hc : cpos day (gOd_dy o) (m + 1) = cpos day (gOd_dy o) m := if_neg c
      rw [hc]
      dsimp only
      refine ih m _ rfl (by omega) hn (fun i hi => by rw [write_tr, if_neg (by omega)]; exact h1 i (by omega)) (fun i a b => ?_)
      rw [write_tr]
      by_cases e : i = m + 1
      · subst e; rw [if_pos rfl, Nat.add_sub_cancel]; rfl
      · rw [if_neg e]; exact h2 i (by omega) b
theorem add_tr (o : zOd) (h sz dy : Int32) (hn : gOd_n o < 20) : gOd_n (f_X4_add o h sz dy) = gOd_n o + 1 ∧ ∀ i, i ≤ gOd_n o → trO (f_X4_add o h sz dy) i = if i < cpos dy (gOd_dy o) (gOd_n o) then trO o i else if i = cpos dy (gOd_dy o) (gOd_n o) then (h, sz, dy) else trO o (i - 1) := by
  have hf : f_X4_isFull o = false := if_pos hn
  unfold f_X4_add
  dsimp only
  rw [hf, if_pos rfl]
  obtain ⟨a1, a2, a3, a4⟩ := L_add_at dy false o (gOd_n o) (gOd_n o) o rfl (Nat.le_refl _) rfl (fun i _ => rfl) (fun i h1 h2 => by omega)
  generalize L_X4_add dy false (gOd_n o + 1) o (gOd_n o) = L at a1 a2 a3 a4 ⊢
  refine ⟨?_, fun i hi => ?_⟩
  · show gOd_n L.1 + 1 = _
    rw [a2]
  · show trO (f_X4_write L.1 L.2 h sz dy) i = _
    rw [write_tr, a1]
    by_cases c1 : i < cpos dy (gOd_dy o) (gOd_n o)
    · rw [if_neg (by omega), if_pos c1]; exact a3 i c1
    · rw [if_neg c1]
      by_cases c2 : i = cpos dy (gOd_dy o) (gOd_n o)
      · rw [if_pos c2, if_pos c2]
      · rw [if_neg c2, if_neg c2]; exact a4 i (by omega) hi
/-- the list with the new order in its place -/
def insL (l : List (Int32 × Int32 × Int32)) (p : Nat) (t : Int32 × Int32 × Int32) : List (Int32 × Int32 × Int32) := l.take p ++ t :: l.drop p
theorem add_oL (o : zOd) (h sz dy : Int32) (hn : gOd_n o < 20) : oL (f_X4_add o h sz dy) = insL (oL o) (cpos dy (gOd_dy o) (gOd_n o)) (h, sz, dy) := by
  obtain ⟨h1, h2⟩ := add_tr o h sz dy hn
  have hp := cpos_le dy (gOd_dy o) (gOd_n o)
  generalize cpos dy (gOd_dy o) (gOd_n o) = p at h2 hp ⊢
  have key : ∀ i, (oL o)[i]? = if i < gOd_n o then some (trO o i) else none := fun i => by
    unfold oL
    rw [List.getElem?_map]
    by_cases c : i < gOd_n o
    · rw [List.getElem?_range c, if_pos c]; rfl
    · rw [List.getElem?_eq_none (by rw [List.length_range]; omega), if_neg c]; rfl
  apply List.ext_getElem?
  intro i
  have hl : (oL (f_X4_add o h sz dy))[i]? = if i < gOd_n o + 1 then some (trO (f_X4_add o h sz dy) i) else none := by
    unfold oL
    rw [List.getElem?_map, h1]
    by_cases c : i < gOd_n o + 1
    · rw [List.getElem?_range c, if_pos c]; rfl
    · rw [List.getElem?_eq_none (by rw [List.length_range]; omega), if_neg c]; rfl
  rw [hl]
  unfold insL
  have htl : ((oL o).take p).length = p := by rw [List.length_take, oL_len]; omega
  by_cases c1 : i < p
  · rw [List.getElem?_append_left (by omega), List.getElem?_take, if_pos c1, key, if_pos (by omega), if_pos (by omega), h2 i (by omega), if_pos c1]
  · rw [List.getElem?_append_right (by omega), htl]
    by_cases c2 : i = p
    · subst c2
      rw [Nat.sub_self, if_pos (by omega), h2 i hp, if_neg c1, if_pos rfl]; rfl
    · obtain ⟨k, rfl⟩ : ∃ k, i = p + 1 + k := ⟨i - p - 1, by omega⟩
      rw [show p + 1 + k - p = k + 1 by omega, List.getElem?_cons_succ, List.getElem?_drop, key]
      by_cases c3 : p + 1 + k < gOd_n o + 1
      · rw [if_pos c3, if_pos (by omega), h2 _ (by omega), if_neg c1, if_neg c2, show p + 1 + k - 1 = p + k by omega]
      · rw [if_neg c3, if_neg (by omega)]
theorem ins_sum (h : Nat) (l : List (Int32 × Int32 × Int32)) (p : Nat) (t : Int32 × Int32 × Int32) : lS h (insL l p t) = lS h l + (if t.1 = nI h then t.2.1.toInt else 0) ∧ lT (insL l p t) = lT l + t.2.1.toInt := by
  unfold insL
  have e := List.take_append_drop p l
  have s1 : lS h l = lS h (l.take p) + lS h (l.drop p) := by rw [← lS_app, e]
  have s2 : lT l = lT (l.take p) + lT (l.drop p) := by rw [← lT_app, e]
  rw [lS_app, lT_app]
  constructor
  · show lS h (l.take p) + ((if t.1 = nI h then t.2.1.toInt else 0) + lS h (l.drop p)) = _
    omega
  · show lT (l.take p) + (t.2.1.toInt + lT (l.drop p)) = _
    omega
theorem ins_mem {l : List (Int32 × Int32 × Int32)} {p : Nat} {t u : Int32 × Int32 × Int32} (h : u ∈ insL l p t) : u = t ∨ u ∈ l := by
  unfold insL at h
  rcases List.mem_append.mp h with h | h
  · exact Or.inr (List.mem_of_mem_take h)
  · rcases List.mem_cons.mp h with h | h
    · exact Or.inl h
    · exact Or.inr (List.mem_of_mem_drop h)
theorem add_iO {mx : Int} {o : zOd} {h sz dy : Int32} (hO : iO mx o) (hn : gOd_n o < 20) (hh : vp_in h 6) (hs : 1 ≤ sz.toInt ∧ sz.toInt ≤ mx) : iO mx (f_X4_add o h sz dy) := by
  rw [iO_iff, add_oL o h sz dy hn]
  have hL := iO_iff.mp hO
  obtain ⟨q1, q2⟩ := cpos_spec dy (gOd_dy o) (gOd_n o)
  have hp := cpos_le dy (gOd_dy o) (gOd_n o)
  generalize cpos dy (gOd_dy o) (gOd_n o) = p at q1 q2 hp ⊢
  refine ⟨?_, fun t ht => ?_, ?_⟩
  · unfold insL
    rw [List.length_append, List.length_cons, List.length_take, List.length_drop, oL_len]
    omega
  · rcases ins_mem ht with rfl | ht
    · exact ⟨hh, hs.1, hs.2⟩
    · exact hL.2.1 t ht
  · unfold insL
    rw [List.pairwise_append]
    have htake : ∀ a ∈ (oL o).take p, a.2.2 ≤ dy := fun a ha => by
      obtain ⟨i, hi, e⟩ := List.mem_iff_getElem.mp ha
      rw [List.length_take, oL_len] at hi
      rw [List.getElem_take, oL_get] at e
      rw [← e]
      have h1 : gOd_dy o i ≤ gOd_dy o (p - 1) := hO.2.2 i (p - 1) (by omega) (by omega)
      have h2 := q2 (by omega)
      exact Int32.le_trans h1 h2
    have hdrop : ∀ a ∈ (oL o).drop p, dy ≤ a.2.2 := fun a ha => by
      obtain ⟨i, hi, e⟩ := List.mem_iff_getElem.mp ha
      rw [List.length_drop, oL_len] at hi
      rw [List.getElem_drop, oL_get] at e
      rw [← e]
      exact Int32.le_of_lt (q1 (p + i) (by omega) (by omega))
    refine ⟨hL.2.2.take, ?_, fun a ha b hb => ?_⟩
    · rw [List.pairwise_cons]
      exact ⟨hdrop, hL.2.2.drop⟩
    · rcases List.mem_cons.mp hb with rfl | hb
      · exact htake a ha
      · exact Int32.le_trans (htake a ha) (hdrop b hb)
theorem add_iY {d : Int} {o : zOd} {h sz dy : Int32} (hY : iY d o) (hn : gOd_n o < 20) (hd : dy.toInt ≤ d) : iY d (f_X4_add o h sz dy) := fun i hi => by
  have hm : trO (f_X4_add o h sz dy) i ∈ oL (f_X4_add o h sz dy) := oL_mem.mpr ⟨i, hi, rfl⟩
  rw [add_oL o h sz dy hn] at hm
  rcases ins_mem hm with e | hm
  · have : gOd_dy (f_X4_add o h sz dy) i = dy := congrArg (fun t => t.2.2) e
    rw [this]; exact hd
  · obtain ⟨j, hj, e⟩ := oL_mem.mp hm
    have e2 : gOd_dy o j = gOd_dy (f_X4_add o h sz dy) i := congrArg (fun t => t.2.2) e
    rw [← e2]; exact hY j hj
/-- the reference's row with the new order -/
theorem put_RO {S : zMs} {kd : Nat} {o : zOd} {h sz dy : Int32} (hR : RO kd o (gMs_at S)) (hn : gOd_n o < 20) : RO kd (f_X4_add o h sz dy) (zput (gMs_at S) kd (cpos dy (gOd_dy o) (gOd_n o)) (gOd_n o) h.toInt64 sz.toInt64 dy.toInt64) ∧ ∀ i, i < kd ∨ kd + 61 ≤ i → zput (gMs_at S) kd (cpos dy (gOd_dy o) (gOd_n o)) (gOd_n o) h.toInt64 sz.toInt64 dy.toInt64 i = gMs_at S i := by
  obtain ⟨h1, h2⟩ := add_tr o h sz dy hn
  have hp := cpos_le dy (gOd_dy o) (gOd_n o)
  generalize cpos dy (gOd_dy o) (gOd_n o) = p at h2 hp ⊢
  unfold zput
  dsimp only
  generalize hB : va_cpy (gMs_at S) (gMs_at S) (kd + 1 + 3 * p) (kd + 1 + 3 * (p + 1)) (3 * (gOd_n o - p)) = B
  have b0 : ∀ i, i < kd + 1 + 3 * (p + 1) ∨ kd + 1 + 3 * (gOd_n o + 1) ≤ i → B i = gMs_at S i := fun i hi => by rw [← hB, zcpy_out _ _ (by omega)]
  have b1 : ∀ i, kd + 1 + 3 * (p + 1) ≤ i → i < kd + 1 + 3 * (gOd_n o + 1) → B i = gMs_at S (i - 3) := fun i a b => by
    rw [← hB, zcpy_in _ _ (by omega)]; congr 1; omega
  have hkd : vp_updL (vp_updL (vp_updL B (kd + 1 + 3 * p + 0) h.toInt64) (kd + 1 + 3 * p + 1) sz.toInt64) (kd + 1 + 3 * p + 2) dy.toInt64 kd = gMs_at S kd := by
    rw [vp_updL_n _ _ (by omega), vp_updL_n _ _ (by omega), vp_updL_n _ _ (by omega), b0 _ (by omega)]
  rw [hkd]
  refine ⟨⟨?_, fun i hi => ?_⟩, fun i hi => ?_⟩
  · rw [vp_updL_s, hR.1, h1]
    show Int64.ofNat _ + 1 = Int64.ofNat _
    rw [Int64.ofNat_add]; rfl
  · rw [h1] at hi
    have ht := h2 i (by omega)
    have t0 : gOd_ho (f_X4_add o h sz dy) i = (if i < p then trO o i else if i = p then (h, sz, dy) else trO o (i - 1)).1 := congrArg (fun t => t.1) ht
    have t1 : gOd_sz (f_X4_add o h sz dy) i = (if i < p then trO o i else if i = p then (h, sz, dy) else trO o (i - 1)).2.1 := congrArg (fun t => t.2.1) ht
    have t2 : gOd_dy (f_X4_add o h sz dy) i = (if i < p then trO o i else if i = p then (h, sz, dy) else trO o (i - 1)).2.2 := congrArg (fun t => t.2.2) ht
    rw [t0, t1, t2]
    by_cases c1 : i < p
    · rw [if_pos c1]
      obtain ⟨r0, r1, r2⟩ := hR.2 i (by omega)
      refine ⟨?_, ?_, ?_⟩
      · rw [vp_updL_n _ _ (by omega), vp_updL_n _ _ (by omega), vp_updL_n _ _ (by omega), vp_updL_n _ _ (by omega), b0 _ (by omega)]; exact r0
      · rw [vp_updL_n _ _ (by omega), vp_updL_n _ _ (by omega), vp_updL_n _ _ (by omega), vp_updL_n _ _ (by omega), b0 _ (by omega)]; exact r1
      · rw [vp_updL_n _ _ (by omega), vp_updL_n _ _ (by omega), vp_updL_n _ _ (by omega), vp_updL_n _ _ (by omega), b0 _ (by omega)]; exact r2
    · rw [if_neg c1]
      by_cases c2 : i = p
      · rw [if_pos c2]
        subst c2
        refine ⟨?_, ?_, ?_⟩
        · rw [vp_updL_n _ _ (by omega), vp_updL_n _ _ (by omega), vp_updL_n _ _ (by omega), vp_updL_s]
        · rw [vp_updL_n _ _ (by omega), vp_updL_n _ _ (by omega), vp_updL_s]
        · rw [vp_updL_n _ _ (by omega), vp_updL_s]
      · rw [if_neg c2]
        obtain ⟨r0, r1, r2⟩ := hR.2 (i - 1) (by omega)
        refine ⟨?_, ?_, ?_⟩
        · rw [vp_updL_n _ _ (by omega), vp_updL_n _ _ (by omega), vp_updL_n _ _ (by omega), vp_updL_n _ _ (by omega), b1 _ (by omega) (by omega), show kd + 1 + 3 * i + 0 - 3 = kd + 1 + 3 * (i - 1) + 0 by omega]; exact r0
        · rw [vp_updL_n _ _ (by omega), vp_updL_n _ _ (by omega), vp_updL_n _ _ (by omega), vp_updL_n _ _ (by omega), b1 _ (by omega) (by omega), show kd + 1 + 3 * i + 1 - 3 = kd + 1 + 3 * (i - 1) + 1 by omega]; exact r1
        · rw [vp_updL_n _ _ (by omega), vp_updL_n _ _ (by omega), vp_updL_n _ _ (by omega), vp_updL_n _ _ (by omega), b1 _ (by omega) (by omega), show kd + 1 + 3 * i + 2 - 3 = kd + 1 + 3 * (i - 1) + 2 by omega]; exact r2
  · rw [vp_updL_n _ _ (by omega), vp_updL_n _ _ (by omega), vp_updL_n _ _ (by omega), vp_updL_n _ _ (by omega), b0 _ (by omega)]
