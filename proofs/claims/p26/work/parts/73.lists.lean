/-! orders as lists -/
def trO (o : zOd) (i : Nat) : Int32 × Int32 × Int32 := (gOd_ho o i, gOd_sz o i, gOd_dy o i)
def trA (A : Nat → Int64) (kd i : Nat) : Int64 × Int64 × Int64 := (A (kd + 1 + 3 * i + 0), A (kd + 1 + 3 * i + 1), A (kd + 1 + 3 * i + 2))
def upT (t : Int32 × Int32 × Int32) : Int64 × Int64 × Int64 := (t.1.toInt64, t.2.1.toInt64, t.2.2.toInt64)
def oL (o : zOd) : List (Int32 × Int32 × Int32) := (List.range (gOd_n o)).map (trO o)
def aL (A : Nat → Int64) (kd n : Nat) : List (Int64 × Int64 × Int64) := (List.range n).map (trA A kd)
theorem oL_len (o : zOd) : (oL o).length = gOd_n o := by unfold oL; rw [List.length_map, List.length_range]
theorem aL_len (A : Nat → Int64) (kd n : Nat) : (aL A kd n).length = n := by unfold aL; rw [List.length_map, List.length_range]
theorem map_range_congr {α : Type} {f g : Nat → α} (n : Nat) (h : ∀ i, i < n → f i = g i) : (List.range n).map f = (List.range n).map g := List.map_congr_left (fun i hi => h i (List.mem_range.mp hi))
theorem map_range_inj {α : Type} {f g : Nat → α} {n : Nat} (h : (List.range n).map f = (List.range n).map g) (i : Nat) (hi : i < n) : f i = g i := by
  have := congrArg (fun l => l[i]?) h
  simp only [List.getElem?_map, List.getElem?_range hi, Option.map_some] at this
  exact Option.some.inj this
theorem RO_iff {kd : Nat} {o : zOd} {A : Nat → Int64} : RO kd o A ↔ A kd = lN (gOd_n o) ∧ aL A kd (gOd_n o) = (oL o).map upT := by
  unfold aL oL
  rw [List.map_map]
  constructor
  · rintro ⟨h1, h2⟩
    refine ⟨h1, map_range_congr _ (fun i hi => ?_)⟩
    obtain ⟨a, b, c⟩ := h2 i hi
    show (_, _, _) = (_, _, _)
    rw [a, b, c]
    rfl
  · rintro ⟨h1, h2⟩
    refine ⟨h1, fun i hi => ?_⟩
    have h := map_range_inj h2 i hi
    have ha : trA A kd i = upT (trO o i) := h
    exact ⟨congrArg (fun t => t.1) ha, congrArg (fun t => t.2.1) ha, congrArg (fun t => t.2.2) ha⟩
/-- orders told by a list that is at most twenty long -/
theorem RO_list {kd : Nat} {o : zOd} {A : Nat → Int64} {n : Nat} (h1 : A kd = lN n) (h2 : aL A kd n = (oL o).map upT) : RO kd o A := by
  have hl := congrArg List.length h2
  rw [aL_len, List.length_map, oL_len] at hl
  subst hl
  exact RO_iff.mpr ⟨h1, h2⟩
theorem range_map_succ {α : Type} (f : Nat → α) (n : Nat) : (List.range (n + 1)).map f = (List.range n).map f ++ [f n] := by
  rw [List.range_succ, List.map_append]; rfl
/-! the empty ones are dropped -/
def pO (t : Int32 × Int32 × Int32) : Bool := decide (¬ t.2.1 ≤ 0)
theorem write_tr (o : zOd) (k : Nat) (a b c : Int32) (i : Nat) : trO (f_X4_write o k a b c) i = if i = k then (a, b, c) else trO o i := by
  show (upd (gOd_ho o) k a i, upd (gOd_sz o) k b i, upd (gOd_dy o) k c i) = _
  rw [upd_at, upd_at, upd_at]
  by_cases e : i = k
  · rw [if_pos e, if_pos e, if_pos e, if_pos e]
  · rw [if_neg e, if_neg e, if_neg e, if_neg e]; rfl
theorem L_drop_spec (o : zOd) : ∀ (m kp k : Nat) (X : zOd), k + m = gOd_n o → kp ≤ k → gOd_n X = gOd_n o → (∀ i, k ≤ i → trO X i = trO o i) → (List.range kp).map (trO X) = ((List.range k).map (trO o)).filter pO →
    (List.range (L_X4_drop (m + 1) X kp k).2.1).map (trO (L_X4_drop (m + 1) X kp k).1) = (oL o).filter pO := by
  intro m
  induction m with
  | zero =>
    intro kp k X hk hkp hn hi hl
    rw [L_X4_drop_s, if_pos (by omega)]
    have : k = gOd_n o := by omega
    subst this
    exact hl
  | succ m ih =>
    intro kp k X hk hkp hn hi hl
    rw [L_X4_drop_s, if_neg (by omega)]
    dsimp only
    have e := hi k (Nat.le_refl _)
    have e1 : gOd_ho X k = gOd_ho o k := congrArg (fun t => t.1) e
    have e2 : gOd_sz X k = gOd_sz o k := congrArg (fun t => t.2.1) e
    have e3 : gOd_dy X k = gOd_dy o k := congrArg (fun t => t.2.2) e
    rw [e1, e2, e3]
    by_cases c : gOd_sz o k ≤ 0
    · rw [if_pos c, if_pos c]
      refine ih kp (k + 1) X (by omega) (by omega) hn (fun i h => hi i (by omega)) ?_
      rw [hl, range_map_succ, List.filter_append]
      have : [trO o k].filter pO = [] := by
        have hp : pO (trO o k) = false := by unfold pO; rw [decide_eq_false]; exact fun z => z c
        rw [List.filter_cons, hp]; rfl
      rw [this, List.append_nil]
    · rw [if_neg c, if_neg c]
      refine ih (kp + 1) (k + 1) _ (by omega) (by omega) hn (fun i h => by rw [write_tr, if_neg (by omega)]; exact hi i (by omega)) ?_
      rw [range_map_succ, range_map_succ, List.filter_append, ← hl]
      have : [trO o k].filter pO = [trO o k] := by
        have hp : pO (trO o k) = true := by unfold pO; rw [decide_eq_true_eq]; exact c
        rw [List.filter_cons, hp]; rfl
      rw [this, write_tr, if_pos rfl]
      congr 1
      exact map_range_congr _ (fun i h => by rw [write_tr, if_neg (by omega)])
theorem drop_oL (o : zOd) : oL (f_X4_dropEmpty o) = (oL o).filter pO := by
  have h := L_drop_spec o (gOd_n o) 0 0 o (by omega) (Nat.le_refl _) rfl (fun i _ => rfl) rfl
  exact h
/-! an order is taken out -/
theorem takeOut_at (S : zMs) (kd j n : Nat) (hk : gMs_at S kd = lN n) (hn : n ≤ 20) (hj : j < n) :
    gMs_at (f_X8_takeOut S kd j) kd = lN (n - 1) ∧ (∀ i, i < j → trA (gMs_at (f_X8_takeOut S kd j)) kd i = trA (gMs_at S) kd i) ∧ (∀ i, j ≤ i → i < n - 1 → trA (gMs_at (f_X8_takeOut S kd j)) kd i = trA (gMs_at S) kd (i + 1)) ∧ (∀ i, i < kd ∨ kd + 61 ≤ i → gMs_at (f_X8_takeOut S kd j) i = gMs_at S i) ∧ f_X8_takeOut S kd j = sMs_at S (gMs_at (f_X8_takeOut S kd j)) := by
  have hz : zcn S kd = n := by unfold zcn; rw [hk, lN_int (by omega)]; rfl
  have hat : gMs_at (f_X8_takeOut S kd j) = va_cpy (vp_updL (gMs_at S) kd (gMs_at S kd - 1)) (vp_updL (gMs_at S) kd (gMs_at S kd - 1)) (kd + 1 + 3 * j + 3) (kd + 1 + 3 * j) (3 * (n - 1 - j)) := by
    unfold f_X8_takeOut; rw [hz]
  have hA : ∀ i, i ≠ kd → vp_updL (gMs_at S) kd (gMs_at S kd - 1) i = gMs_at S i := fun i h => vp_updL_n _ _ h
  refine ⟨?_, fun i hi => ?_, fun i h1 h2 => ?_, fun i hi => ?_, rfl⟩
  · rw [hat, zcpy_out _ _ (by omega), vp_updL_s, hk]
    exact lN_sub (b := 1) (by omega)
  · unfold trA
    rw [hat, zcpy_out _ _ (by omega), zcpy_out _ _ (by omega), zcpy_out _ _ (by omega), hA _ (by omega), hA _ (by omega), hA _ (by omega)]
  · unfold trA
    rw [hat, zcpy_in _ _ (by omega), zcpy_in _ _ (by omega), zcpy_in _ _ (by omega), hA _ (by omega), hA _ (by omega), hA _ (by omega)]
    rw [show kd + 1 + 3 * j + 3 + (kd + 1 + 3 * i + 0 - (kd + 1 + 3 * j)) = kd + 1 + 3 * (i + 1) + 0 by omega, show kd + 1 + 3 * j + 3 + (kd + 1 + 3 * i + 1 - (kd + 1 + 3 * j)) = kd + 1 + 3 * (i + 1) + 1 by omega, show kd + 1 + 3 * j + 3 + (kd + 1 + 3 * i + 2 - (kd + 1 + 3 * j)) = kd + 1 + 3 * (i + 1) + 2 by omega]
  · rw [hat, zcpy_out _ _ (by omega), hA _ (by omega)]
theorem takeOut_aL (S : zMs) (kd j n : Nat) (hk : gMs_at S kd = lN n) (hn : n ≤ 20) (hj : j < n) : aL (gMs_at (f_X8_takeOut S kd j)) kd (n - 1) = (aL (gMs_at S) kd n).eraseIdx j := by
  obtain ⟨-, h2, h3, -, -⟩ := takeOut_at S kd j n hk hn hj
  apply List.ext_getElem?
  intro i
  rw [List.getElem?_eraseIdx]
  unfold aL
  rw [List.getElem?_map, List.getElem?_map, List.getElem?_map]
  by_cases c : i < n - 1
  · rw [List.getElem?_range c]
    by_cases c2 : i < j
    · rw [if_pos c2, List.getElem?_range (by omega)]
      show some _ = some _
      rw [h2 i c2]
    · rw [if_neg c2, List.getElem?_range (by omega)]
      show some _ = some _
      rw [h3 i (by omega) c]
  · rw [List.getElem?_eq_none (by rw [List.length_range]; omega)]
    by_cases c2 : i < j
    · omega
    · rw [if_neg c2, List.getElem?_eq_none (by rw [List.length_range]; omega)]; rfl
def pA (t : Int64 × Int64 × Int64) : Bool := decide (¬ t.2.1 = 0)
theorem pay2_spec : ∀ (j n : Nat) (X : zMs), gMs_at X 122 = lN n → n ≤ 20 → j ≤ n → ∃ n' : Nat, n' ≤ n ∧ gMs_at (L_X8_pay2 (j + 1) X j).1 122 = lN n' ∧ aL (gMs_at (L_X8_pay2 (j + 1) X j).1) 122 n' = ((aL (gMs_at X) 122 n).take j).filter pA ++ (aL (gMs_at X) 122 n).drop j ∧ (∀ i, i < 122 ∨ 183 ≤ i → gMs_at (L_X8_pay2 (j + 1) X j).1 i = gMs_at X i) ∧ (L_X8_pay2 (j + 1) X j).1 = sMs_at X (gMs_at (L_X8_pay2 (j + 1) X j).1) := by
  intro j
  induction j with
  | zero =>
    intro n X hk hn hj
    rw [L_X8_pay2_s, if_pos rfl]
    exact ⟨n, Nat.le_refl _, hk, by rw [List.take_zero, List.drop_zero]; rfl, fun i _ => rfl, rfl⟩
  | succ j ih =>
    intro n X hk hn hj
    rw [L_X8_pay2_s, if_neg (by omega)]
    dsimp only
    rw [show j + 1 - 1 = j by omega]
    have hlen := aL_len (gMs_at X) 122 n
    have hget : (aL (gMs_at X) 122 n)[j]? = some (trA (gMs_at X) 122 j) := by
      unfold aL
      rw [List.getElem?_map, List.getElem?_range (by omega)]; rfl
    have hdrop : (aL (gMs_at X) 122 n).drop j = trA (gMs_at X) 122 j :: (aL (gMs_at X) 122 n).drop (j + 1) := by
      obtain ⟨h1, h2⟩ := List.getElem?_eq_some_iff.mp hget
      rw [List.drop_eq_getElem_cons h1, h2]
    have htake : (aL (gMs_at X) 122 n).take (j + 1) = (aL (gMs_at X) 122 n).take j ++ [trA (gMs_at X) 122 j] := by
      obtain ⟨h1, h2⟩ := List.getElem?_eq_some_iff.mp hget
      rw [List.take_add_one, hget]; rfl
    by_cases c : f_X8_ofOrder X 122 j 1 = 0
    · rw [if_pos c]
      obtain ⟨t1, t2, t3, t4, t5⟩ := takeOut_at X 122 j n hk hn (by omega)
      have tl := takeOut_aL X 122 j n hk hn (by omega)
      obtain ⟨n', r0, r1, r2, r3, r4⟩ := ih (n - 1) (f_X8_takeOut X 122 j) t1 (by omega) (by omega)
      refine ⟨n', by omega, r1, ?_, fun i hi => (r3 i hi).trans (t4 i (by omega)), ?_⟩
      · rw [r2, tl, htake, List.filter_append]
        have hp : [trA (gMs_at X) 122 j].filter pA = [] := by
          have : pA (trA (gMs_at X) 122 j) = false := by unfold pA; rw [decide_eq_false]; exact fun z => z c
          rw [List.filter_cons, this]; rfl
        rw [hp, List.append_nil, List.eraseIdx_eq_take_drop_succ]
        have l1 : ((aL (gMs_at X) 122 n).take j).length = j := by rw [List.length_take]; omega
        rw [List.take_append_of_le_length (by omega), List.take_of_length_le (by omega), List.drop_append, l1, Nat.sub_self, List.drop_of_length_le (by omega)]
        rfl
      · rw [r4, t5]
    · rw [if_neg c]
      obtain ⟨n', r0, r1, r2, r3, r4⟩ := ih n X hk hn (by omega)
      refine ⟨n', r0, r1, ?_, r3, r4⟩
      rw [r2, htake, List.filter_append, hdrop]
      have hp : [trA (gMs_at X) 122 j].filter pA = [trA (gMs_at X) 122 j] := by
        have : pA (trA (gMs_at X) 122 j) = true := by unfold pA; rw [decide_eq_true_eq]; exact c
        rw [List.filter_cons, this]; rfl
      rw [hp, List.append_assoc]
      rfl
