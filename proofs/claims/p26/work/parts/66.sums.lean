/-! orders: sums -/
theorem L_sumOf_z (o : zOd) (h : Int32) : ∀ (m k : Nat) (sm : Int64), k + m = gOd_n o → (L_X4_sumOf o h (m + 1) sm k).1 = sm + zsum (fun i => if gOd_ho o (k + i) = h then (gOd_sz o (k + i)).toInt64 else 0) m := by
  intro m
  induction m with
  | zero =>
    intro k sm hk
    rw [L_X4_sumOf_s, if_pos (by omega)]
    show sm = sm + 0
    rw [Int64.add_zero]
  | succ m ih =>
    intro k sm hk
    rw [L_X4_sumOf_s, if_neg (by omega), zsum_cons]
    dsimp only
    rw [ih (k + 1) _ (by omega)]
    have e : zsum (fun i => if gOd_ho o (k + 1 + i) = h then (gOd_sz o (k + 1 + i)).toInt64 else 0) m = zsum (fun i => if gOd_ho o (k + (i + 1)) = h then (gOd_sz o (k + (i + 1))).toInt64 else 0) m := zsum_congr m (fun i _ => by rw [show k + 1 + i = k + (i + 1) by omega])
    rw [e, ← Int64.add_assoc]
    congr 1
    show (if gOd_ho o k = h then sm + (gOd_sz o k).toInt64 else sm) = sm + (if gOd_ho o k = h then (gOd_sz o k).toInt64 else 0)
    split
    · rfl
    · rw [Int64.add_zero]
theorem sumOf_z (o : zOd) (h : Int32) : f_X4_sumOf o h = zsum (fun i => if gOd_ho o i = h then (gOd_sz o i).toInt64 else 0) (gOd_n o) := by
  have e := L_sumOf_z o h (gOd_n o) 0 0 (by omega)
  rw [Int64.zero_add] at e
  refine e.trans (zsum_congr _ (fun i _ => by rw [Nat.zero_add]))
theorem L_sum_z (o : zOd) (to : Nat) : ∀ (m k : Nat) (sm : Int64), k + m = to → (L_X4_sum o to (m + 1) sm k).1 = sm + zsum (fun i => (gOd_sz o (k + i)).toInt64) m := by
  intro m
  induction m with
  | zero =>
    intro k sm hk
    rw [L_X4_sum_s, if_pos (by omega)]
    show sm = sm + 0
    rw [Int64.add_zero]
  | succ m ih =>
    intro k sm hk
    rw [L_X4_sum_s, if_neg (by omega), zsum_cons, ih (k + 1) _ (by omega)]
    have e : zsum (fun i => (gOd_sz o (k + 1 + i)).toInt64) m = zsum (fun i => (gOd_sz o (k + (i + 1))).toInt64) m := zsum_congr m (fun i _ => by rw [show k + 1 + i = k + (i + 1) by omega])
    rw [e, ← Int64.add_assoc]
    rfl
theorem sum_z (o : zOd) {fr to : Nat} (h : fr ≤ to) : f_X4_sum o fr to = zsum (fun i => (gOd_sz o (fr + i)).toInt64) (to - fr) := by
  have e := L_sum_z o to (to - fr) fr 0 (by omega)
  rw [Int64.zero_add] at e
  exact e
theorem isum_bd {f : Nat → Int} {B : Int} : ∀ n, (∀ i, i < n → -B ≤ f i ∧ f i ≤ B) → -((n : Int) * B) ≤ isum f n ∧ isum f n ≤ (n : Int) * B
  | 0, _ => by
    show -(((0 : Nat) : Int) * B) ≤ 0 ∧ (0 : Int) ≤ ((0 : Nat) : Int) * B
    rw [Int.natCast_zero, Int.zero_mul]; omega
  | n + 1, h => by
    have h1 := isum_bd n (fun i hi => h i (by omega))
    have h2 := h n (by omega)
    have h3 : ((n + 1 : Nat) : Int) * B = (n : Int) * B + B := by rw [Int.natCast_add, Int.add_mul]; show _ + (1 : Int) * B = _; rw [Int.one_mul]
    rw [h3]
    show -_ ≤ isum f n + f n ∧ isum f n + f n ≤ _
    omega
theorem isum_r {f : Nat → Int} (n : Nat) (hn : n ≤ 20) (h : ∀ i, i < n → -2147483648 ≤ f i ∧ f i ≤ 2147483648) : ∀ k, k ≤ n → -9223372036854775808 ≤ isum f k ∧ isum f k < 9223372036854775808 := fun k hk => by
  have h1 := isum_bd (B := 2147483648) k (fun i hi => h i (by omega))
  omega
/-- a holder's bound units -/
def hS (o : zOd) (h : Nat) : Int := isum (fun i => if gOd_ho o i = nI h then (gOd_sz o i).toInt else 0) (gOd_n o)
/-- the units of the orders from a place on up to another one -/
def sS (o : zOd) (fr to : Nat) : Int := isum (fun i => (gOd_sz o (fr + i)).toInt) (to - fr)
theorem sumOf_int {o : zOd} (hn : gOd_n o ≤ 20) (h : Nat) : (f_X4_sumOf o (nI h)).toInt = hS o h := by
  rw [sumOf_z]
  refine zsum_int _ (fun i hi => ?_) (isum_r _ hn (fun i hi => ?_))
  · split
    · exact i32_l _
    · rfl
  · have h1 := i32_lt (a := gOd_sz o i)
    have h2 := i32_ge (a := gOd_sz o i)
    split <;> omega
theorem sum_int (o : zOd) {fr to : Nat} (h : fr ≤ to) (ht : to ≤ 20) : (f_X4_sum o fr to).toInt = sS o fr to := by
  rw [sum_z o h]
  refine zsum_int _ (fun i hi => i32_l _) (isum_r _ (by omega) (fun i hi => ?_))
  have h1 := i32_lt (a := gOd_sz o (fr + i))
  have h2 := i32_ge (a := gOd_sz o (fr + i))
  omega
theorem zcn_o {S : zMs} {kd : Nat} {o : zOd} (hR : RO kd o (gMs_at S)) (hn : gOd_n o ≤ 20) : zcn S kd = gOd_n o := by
  unfold zcn
  rw [hR.1, lN_int (by omega)]
  rfl
theorem zCk_o {S : zMs} {kd : Nat} {o : zOd} (hR : RO kd o (gMs_at S)) (hn : gOd_n o ≤ 20) : zCk S kd := ⟨by rw [zcn_o hR hn]; exact hR.1, by rw [zcn_o hR hn]; exact hn⟩
theorem bound_eq {S : zMs} {o : zOd} (hR : RO 122 o (gMs_at S)) (hn : gOd_n o ≤ 20) {h : Nat} (hh : h < 6) : f_X8_bound S h = f_X4_sumOf o (nI h) := by
  rw [sumOf_z]
  unfold f_X8_bound
  rw [zcn_o hR hn]
  refine zsum_congr _ (fun i hi => ?_)
  obtain ⟨h0, h1, h2⟩ := hR.2 i hi
  show (if gMs_at S (122 + 1 + 3 * i + 0) = lN h then gMs_at S (122 + 1 + 3 * i + 1) else 0) = _
  rw [h0, h1, ← nI_l (show h < 2 ^ 31 by omega)]
  exact if_iff i32_l_eq
/-- the orders with a day that is not later are the first ones -/
theorem L_due_spec (o : zOd) (day : Int32) : ∀ (n k : Nat), k ≤ gOd_n o → gOd_n o ≤ k + n → (∀ i, i < k → gOd_dy o i ≤ day) → (∀ i, i < L_X4_due o day (n + 1) k → gOd_dy o i ≤ day) ∧ (L_X4_due o day (n + 1) k < gOd_n o → day < gOd_dy o (L_X4_due o day (n + 1) k))
  | 0, k, h1, h2, h3 => by
    rw [L_X4_due_s, if_pos (by omega)]
    exact ⟨h3, fun q => by omega⟩
  | n + 1, k, h1, h2, h3 => by
    rw [L_X4_due_s]
    by_cases c : gOd_n o ≤ k
    · rw [if_pos c]; exact ⟨h3, fun q => by omega⟩
    · rw [if_neg c]
      by_cases c2 : day < gOd_dy o k
      · rw [if_pos c2]; exact ⟨h3, fun _ => c2⟩
      · rw [if_neg c2]
        exact L_due_spec o day n (k + 1) (by omega) (by omega) (fun i hi => by
          by_cases e : i = k
          · subst e; exact Int32.not_lt.mp c2
          · exact h3 i (by omega))
theorem due_spec (o : zOd) (day : Int32) : (∀ i, i < f_X4_dueOn o day → gOd_dy o i ≤ day) ∧ (f_X4_dueOn o day < gOd_n o → day < gOd_dy o (f_X4_dueOn o day)) :=
  L_due_spec o day (gOd_n o) 0 (Nat.zero_le _) (by omega) (fun i hi => by omega)
/-- in the order of their days -/
def oSort (o : zOd) : Prop := ∀ i j, i ≤ j → j < gOd_n o → gOd_dy o i ≤ gOd_dy o j
theorem due_later {o : zOd} {day : Int32} (hs : oSort o) {i : Nat} (h1 : f_X4_dueOn o day ≤ i) (h2 : i < gOd_n o) : day < gOd_dy o i := by
  have h3 := (due_spec o day).2 (by omega)
  have h4 := hs _ i h1 h2
  rw [i32_lt_iff] at h3 ⊢
  rw [i32_le_iff] at h4
  omega
theorem zsum_part {f g : Nat → Int64} {m : Nat} : ∀ n, m ≤ n → (∀ i, i < m → f i = g i) → (∀ i, m ≤ i → i < n → f i = 0) → zsum f n = zsum g m
  | 0, h, _, _ => by
    have : m = 0 := by omega
    subst this; rfl
  | n + 1, h, h1, h2 => by
    by_cases e : m = n + 1
    · subst e; exact zsum_congr _ h1
    · show zsum f n + f n = _
      rw [zsum_part n (by omega) h1 (fun i a b => h2 i a (by omega)), h2 n (by omega) (by omega), Int64.add_zero]
theorem sumDay_eq {S : zMs} {kd : Nat} {o : zOd} (hR : RO kd o (gMs_at S)) (hn : gOd_n o ≤ 20) (hs : oSort o) (day : Int32) : f_X8_sumOf S kd day.toInt64 = f_X4_sum o 0 (f_X4_dueOn o day) := by
  rw [sum_z o (Nat.zero_le _), Nat.sub_zero]
  unfold f_X8_sumOf
  rw [zcn_o hR hn]
  refine zsum_part _ xdue_le (fun i hi => ?_) (fun i h1 h2 => ?_)
  · obtain ⟨e0, e1, e2⟩ := hR.2 i (Nat.lt_of_lt_of_le hi xdue_le)
    show (if day.toInt64 < gMs_at S (kd + 1 + 3 * i + 2) then 0 else gMs_at S (kd + 1 + 3 * i + 1)) = _
    rw [e1, e2, if_neg (by rw [i32_l_lt]; exact Int32.not_lt.mpr ((due_spec o day).1 i hi)), Nat.zero_add]
  · obtain ⟨e0, e1, e2⟩ := hR.2 i h2
    show (if day.toInt64 < gMs_at S (kd + 1 + 3 * i + 2) then 0 else gMs_at S (kd + 1 + 3 * i + 1)) = _
    rw [e2, if_pos (by rw [i32_l_lt]; exact due_later hs h1 h2)]
theorem sumAll_eq {S : zMs} {kd : Nat} {o : zOd} (hR : RO kd o (gMs_at S)) (hn : gOd_n o ≤ 20) (d : Int64) (hd : ∀ i, i < gOd_n o → (gOd_dy o i).toInt ≤ d.toInt) : f_X8_sumOf S kd d = f_X4_sum o 0 (gOd_n o) := by
  rw [sum_z o (Nat.zero_le _), Nat.sub_zero]
  unfold f_X8_sumOf
  rw [zcn_o hR hn]
  refine zsum_congr _ (fun i hi => ?_)
  obtain ⟨e0, e1, e2⟩ := hR.2 i hi
  show (if d < gMs_at S (kd + 1 + 3 * i + 2) then 0 else gMs_at S (kd + 1 + 3 * i + 1)) = _
  rw [e1, e2, if_neg (by rw [i64_lt_iff, i32_l]; have := hd i hi; omega), Nat.zero_add]
