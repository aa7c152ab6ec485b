/-! numbers: machine integers read as integers -/
theorem i64_add {a b : Int64} {x y : Int} (ha : a.toInt = x) (hb : b.toInt = y) (h1 : -9223372036854775808 ≤ x + y) (h2 : x + y < 9223372036854775808) : (a + b).toInt = x + y := by
  rw [Int64.toInt_add, ha, hb]
  exact Int.bmod_eq_of_le (by omega) (by omega)
theorem i64_sub {a b : Int64} {x y : Int} (ha : a.toInt = x) (hb : b.toInt = y) (h1 : -9223372036854775808 ≤ x - y) (h2 : x - y < 9223372036854775808) : (a - b).toInt = x - y := by
  rw [Int64.toInt_sub, ha, hb]
  exact Int.bmod_eq_of_le (by omega) (by omega)
theorem i64_mul {a b : Int64} {x y : Int} (ha : a.toInt = x) (hb : b.toInt = y) (h1 : -9223372036854775808 ≤ x * y) (h2 : x * y < 9223372036854775808) : (a * b).toInt = x * y := by
  rw [Int64.toInt_mul, ha, hb]
  exact Int.bmod_eq_of_le (by omega) (by omega)
theorem i64_neg {a : Int64} {x : Int} (ha : a.toInt = x) (h1 : -9223372036854775808 < x) : (-a).toInt = -x := by
  have := a.toInt_lt
  rw [Int64.toInt_neg, ha]
  exact Int.bmod_eq_of_le (by omega) (by omega)
theorem i64_div {a b : Int64} {x y : Int} (ha : a.toInt = x) (hb : b.toInt = y) (hx : 0 ≤ x) (hy : 0 < y) : (a / b).toInt = x / y := by
  have h := Int64.toInt_div_of_ne_right a b (fun e => by rw [e] at hb; have : (-1 : Int64).toInt = -1 := rfl; omega)
  rw [h, ha, hb]
  exact Int.tdiv_eq_ediv_of_nonneg hx
theorem i64_lt {a : Int64} : a.toInt < 9223372036854775808 := a.toInt_lt
theorem i64_ge {a : Int64} : -9223372036854775808 ≤ a.toInt := a.le_toInt
theorem i64_le_iff {a b : Int64} : a ≤ b ↔ a.toInt ≤ b.toInt := Int64.le_iff_toInt_le
theorem i64_lt_iff {a b : Int64} : a < b ↔ a.toInt < b.toInt := Int64.lt_iff_toInt_lt
theorem i64_eq_iff {a b : Int64} : a = b ↔ a.toInt = b.toInt := Int64.toInt_inj.symm
theorem i32_le_iff {a b : Int32} : a ≤ b ↔ a.toInt ≤ b.toInt := Int32.le_iff_toInt_le
theorem i32_lt_iff {a b : Int32} : a < b ↔ a.toInt < b.toInt := Int32.lt_iff_toInt_lt
theorem i32_eq_iff {a b : Int32} : a = b ↔ a.toInt = b.toInt := Int32.toInt_inj.symm
theorem i32_lt {a : Int32} : a.toInt < 2147483648 := a.toInt_lt
theorem i32_ge {a : Int32} : -2147483648 ≤ a.toInt := a.le_toInt
theorem i32_add {a b : Int32} {x y : Int} (ha : a.toInt = x) (hb : b.toInt = y) (h1 : -2147483648 ≤ x + y) (h2 : x + y < 2147483648) : (a + b).toInt = x + y := by
  rw [Int32.toInt_add, ha, hb]
  exact Int.bmod_eq_of_le (by omega) (by omega)
theorem i32_sub {a b : Int32} {x y : Int} (ha : a.toInt = x) (hb : b.toInt = y) (h1 : -2147483648 ≤ x - y) (h2 : x - y < 2147483648) : (a - b).toInt = x - y := by
  rw [Int32.toInt_sub, ha, hb]
  exact Int.bmod_eq_of_le (by omega) (by omega)
theorem i32_mul {a b : Int32} {x y : Int} (ha : a.toInt = x) (hb : b.toInt = y) (h1 : -2147483648 ≤ x * y) (h2 : x * y < 2147483648) : (a * b).toInt = x * y := by
  rw [Int32.toInt_mul, ha, hb]
  exact Int.bmod_eq_of_le (by omega) (by omega)
theorem i32_l (x : Int32) : x.toInt64.toInt = x.toInt := Int32.toInt_toInt64 x
theorem l_i32 {x : Int64} (h1 : -2147483648 ≤ x.toInt) (h2 : x.toInt < 2147483648) : x.toInt32.toInt = x.toInt := by
  rw [Int64.toInt_toInt32]
  exact Int.bmod_eq_of_le (by omega) (by omega)
theorem l_i_l {x : Int64} (h1 : -2147483648 ≤ x.toInt) (h2 : x.toInt < 2147483648) : x.toInt32.toInt64 = x := i64_eq_iff.mpr ((i32_l _).trans (l_i32 h1 h2))
theorem i_l_i (x : Int32) : x.toInt64.toInt32 = x := i32_eq_iff.mpr (by
  have h1 : x.toInt < 2147483648 := i32_lt
  have h2 : -2147483648 ≤ x.toInt := i32_ge
  rw [l_i32 (by rw [i32_l]; exact h2) (by rw [i32_l]; exact h1), i32_l])
theorem i32_l_inj {x y : Int32} (h : x.toInt64 = y.toInt64) : x = y := by
  rw [← i_l_i x, h, i_l_i]
theorem i32_l_lt {x y : Int32} : x.toInt64 < y.toInt64 ↔ x < y := by rw [i64_lt_iff, i32_lt_iff, i32_l, i32_l]
theorem i32_l_le {x y : Int32} : x.toInt64 ≤ y.toInt64 ↔ x ≤ y := by rw [i64_le_iff, i32_le_iff, i32_l, i32_l]
theorem i32_l_eq {x y : Int32} : x.toInt64 = y.toInt64 ↔ x = y := ⟨i32_l_inj, fun h => by rw [h]⟩
/-! the first terms' sum, as integers -/
def isum (f : Nat → Int) : Nat → Int
  | 0 => 0
  | n + 1 => isum f n + f n
theorem isum_congr {f g : Nat → Int} : ∀ n, (∀ i, i < n → f i = g i) → isum f n = isum g n
  | 0, _ => rfl
  | n + 1, h => by
    show isum f n + f n = isum g n + g n
    rw [isum_congr n (fun i hi => h i (by omega)), h n (by omega)]
theorem isum_le {f g : Nat → Int} : ∀ n, (∀ i, i < n → f i ≤ g i) → isum f n ≤ isum g n
  | 0, _ => Int.le_refl _
  | n + 1, h => by
    show isum f n + f n ≤ isum g n + g n
    have := isum_le n (fun i hi => h i (by omega))
    have := h n (by omega)
    omega
theorem isum_nn {f : Nat → Int} : ∀ n, (∀ i, i < n → 0 ≤ f i) → 0 ≤ isum f n
  | 0, _ => Int.le_refl _
  | n + 1, h => by
    show 0 ≤ isum f n + f n
    have := isum_nn n (fun i hi => h i (by omega))
    have := h n (by omega)
    omega
theorem isum_add (f g : Nat → Int) : ∀ n, isum (fun i => f i + g i) n = isum f n + isum g n
  | 0 => rfl
  | n + 1 => by
    show isum (fun i => f i + g i) n + (f n + g n) = (isum f n + f n) + (isum g n + g n)
    rw [isum_add f g n]; omega
/-- one term of a sum of terms not below 0 is at most the sum -/
theorem isum_ge {f : Nat → Int} : ∀ n k, k < n → (∀ i, i < n → 0 ≤ f i) → f k ≤ isum f n
  | 0, k, h, _ => by omega
  | n + 1, k, h, hf => by
    show f k ≤ isum f n + f n
    have h0 := isum_nn n (fun i hi => hf i (by omega))
    by_cases e : k = n
    · subst e; omega
    · have := isum_ge n k (by omega) (fun i hi => hf i (by omega))
      have := hf n (by omega)
      omega
/-- one term told anew -/
theorem isum_upd {f g : Nat → Int} : ∀ n k, k < n → (∀ i, i < n → i ≠ k → g i = f i) → isum g n = isum f n - f k + g k
  | 0, k, h, _ => by omega
  | n + 1, k, h, hg => by
    show isum g n + g n = isum f n + f n - f k + g k
    by_cases e : k = n
    · subst e
      rw [isum_congr k (fun i hi => hg i (by omega) (by omega))]; omega
    · rw [isum_upd n k (by omega) (fun i hi h2 => hg i (by omega) h2), hg n (by omega) (by omega)]; omega
theorem isum_zero {f : Nat → Int} : ∀ n, (∀ i, i < n → f i = 0) → isum f n = 0
  | 0, _ => rfl
  | n + 1, h => by
    show isum f n + f n = 0
    rw [isum_zero n (fun i hi => h i (by omega)), h n (by omega)]; rfl
theorem isum_mono {f : Nat → Int} {n : Nat} : ∀ m, n ≤ m → (∀ i, i < m → 0 ≤ f i) → isum f n ≤ isum f m
  | 0, h, _ => by
    have : n = 0 := by omega
    subst this; exact Int.le_refl _
  | m + 1, h, hf => by
    by_cases e : n = m + 1
    · subst e; exact Int.le_refl _
    · show isum f n ≤ isum f m + f m
      have := isum_mono (f := f) (n := n) m (by omega) (fun i hi => hf i (by omega))
      have := hf m (by omega)
      omega
theorem zsum_int {f : Nat → Int64} {g : Nat → Int} : ∀ n, (∀ i, i < n → (f i).toInt = g i) → (∀ k, k ≤ n → -9223372036854775808 ≤ isum g k ∧ isum g k < 9223372036854775808) → (zsum f n).toInt = isum g n
  | 0, _, _ => rfl
  | n + 1, h, hb => by
    have h1 := zsum_int n (fun i hi => h i (by omega)) (fun k hk => hb k (by omega))
    have h2 := hb (n + 1) (Nat.le_refl _)
    exact i64_add h1 (h n (by omega)) h2.1 h2.2
theorem vp_updL_at (f : Nat → Int64) (k : Nat) (x : Int64) (j : Nat) : vp_updL f k x j = if j = k then x else f j := by
  by_cases h : j = k
  · subst h; rw [vp_updL_s, if_pos rfl]
  · rw [vp_updL_n _ _ h, if_neg h]
theorem upd_at (f : Nat → Int32) (k : Nat) (x : Int32) (j : Nat) : upd f k x j = if j = k then x else f j := by
  by_cases h : j = k
  · subst h; simp [upd]
  · simp [upd, h]
theorem zup_at {α : Type} (f : Nat → α) (k : Nat) (x : α) (j : Nat) : zup f k x j = if j = k then x else f j := rfl
