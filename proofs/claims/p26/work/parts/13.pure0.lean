theorem vp_updL_s (f : Nat → Int64) (k : Nat) (x : Int64) : vp_updL f k x k = x := by simp [vp_updL]
theorem vp_updL_n (f : Nat → Int64) {k j : Nat} (x : Int64) (h : j ≠ k) : vp_updL f k x j = f j := by simp [vp_updL, h]
theorem zcpy_z {α : Type} (f g : Nat → α) (sp dp : Nat) : va_cpy f g sp dp 0 = g := by
  funext i
  simp only [va_cpy]
  rw [if_neg (by omega)]
theorem zcpy_s (f g : Nat → Int64) (sp dp j : Nat) {i : Nat} {v : Int64} (hi : i = dp + j) (hv : v = f (sp + j)) : vp_updL (va_cpy f g sp dp j) i v = va_cpy f g sp dp (j + 1) := by
  subst hi; subst hv
  funext i
  by_cases h : i = dp + j
  · subst h
    rw [vp_updL_s]
    simp only [va_cpy]
    rw [if_pos (by omega)]
    congr 1; omega
  · rw [vp_updL_n _ _ h]
    simp only [va_cpy]
    by_cases h2 : dp ≤ i ∧ i < dp + j
    · rw [if_pos h2, if_pos (by omega)]
    · rw [if_neg h2, if_neg (by omega)]
theorem zcpy_in {α : Type} (f g : Nat → α) {sp dp n i : Nat} (h : dp ≤ i ∧ i < dp + n) : va_cpy f g sp dp n i = f (sp + (i - dp)) := by
  simp only [va_cpy]; rw [if_pos h]
theorem zcpy_out {α : Type} (f g : Nat → α) {sp dp n i : Nat} (h : i < dp ∨ dp + n ≤ i) : va_cpy f g sp dp n i = g i := by
  simp only [va_cpy]; rw [if_neg (by omega)]
/-- how many orders of a kind the reference holds -/
def zcn (S : zMs) (kd : Nat) : Nat := (gMs_at S kd).toInt.toNat
def zCk (S : zMs) (kd : Nat) : Prop := gMs_at S kd = lN (zcn S kd) ∧ zcn S kd ≤ 20
/-- the place of a new order: behind all that are not later -/
def zpos (day : Int64) (w : Nat → Int64) : Nat → Nat
  | 0 => 0
  | n + 1 => if w n ≤ day then n + 1 else zpos day w n
theorem zpos_le (day : Int64) (w : Nat → Int64) : ∀ n, zpos day w n ≤ n
  | 0 => Nat.le_refl _
  | n + 1 => by
    unfold zpos
    split
    · exact Nat.le_refl _
    · exact Nat.le_succ_of_le (zpos_le day w n)
theorem zsum_congr {f g : Nat → Int64} : ∀ n, (∀ i, i < n → f i = g i) → zsum f n = zsum g n
  | 0, _ => rfl
  | n + 1, h => by
    unfold zsum
    rw [zsum_congr n (fun i hi => h i (by omega)), h n (by omega)]
theorem zcpy_f (f : Nat → Int64) (dp j : Nat) {i r : Nat} (hi : i = dp + j) (hr : r = dp + j + 3) : vp_updL (va_cpy f f (dp + 3) dp j) i ((va_cpy f f (dp + 3) dp j) r) = va_cpy f f (dp + 3) dp (j + 1) := by
  rw [zcpy_out f f (i := r) (by omega)]
  exact zcpy_s _ _ _ _ _ hi (by congr 1; omega)
theorem zput_step (A : Nat → Int64) (kd p c : Nat) (hp : ¬ p = 0) (hc : p ≤ c) :
    vp_updL (vp_updL (vp_updL (va_cpy A A (kd + 1 + 3 * p) (kd + 1 + 3 * (p + 1)) (3 * (c - p))) (kd + 1 + 3 * p + 0) ((va_cpy A A (kd + 1 + 3 * p) (kd + 1 + 3 * (p + 1)) (3 * (c - p))) (kd + 1 + 3 * (p - 1) + 0)))
      (kd + 1 + 3 * p + 1) ((vp_updL (va_cpy A A (kd + 1 + 3 * p) (kd + 1 + 3 * (p + 1)) (3 * (c - p))) (kd + 1 + 3 * p + 0) ((va_cpy A A (kd + 1 + 3 * p) (kd + 1 + 3 * (p + 1)) (3 * (c - p))) (kd + 1 + 3 * (p - 1) + 0))) (kd + 1 + 3 * (p - 1) + 1)))
      (kd + 1 + 3 * p + 2) ((vp_updL (vp_updL (va_cpy A A (kd + 1 + 3 * p) (kd + 1 + 3 * (p + 1)) (3 * (c - p))) (kd + 1 + 3 * p + 0) ((va_cpy A A (kd + 1 + 3 * p) (kd + 1 + 3 * (p + 1)) (3 * (c - p))) (kd + 1 + 3 * (p - 1) + 0)))
      (kd + 1 + 3 * p + 1) ((vp_updL (va_cpy A A (kd + 1 + 3 * p) (kd + 1 + 3 * (p + 1)) (3 * (c - p))) (kd + 1 + 3 * p + 0) ((va_cpy A A (kd + 1 + 3 * p) (kd + 1 + 3 * (p + 1)) (3 * (c - p))) (kd + 1 + 3 * (p - 1) + 0))) (kd + 1 + 3 * (p - 1) + 1))) (kd + 1 + 3 * (p - 1) + 2))
    = va_cpy A A (kd + 1 + 3 * (p - 1)) (kd + 1 + 3 * (p - 1 + 1)) (3 * (c - (p - 1))) := by
  obtain ⟨q, rfl⟩ : ∃ q, p = q + 1 := ⟨p - 1, by omega⟩
  simp only [Nat.add_sub_cancel]
  generalize hB : va_cpy A A (kd + 1 + 3 * (q + 1)) (kd + 1 + 3 * (q + 1 + 1)) (3 * (c - (q + 1))) = B
  have h0 : ∀ i, i < kd + 1 + 3 * (q + 1 + 1) → B i = A i := fun i hi => by rw [← hB, zcpy_out _ _ (by omega)]
  rw [vp_updL_n _ _ (show kd + 1 + 3 * q + 2 ≠ kd + 1 + 3 * (q + 1) + 1 by omega), vp_updL_n _ _ (show kd + 1 + 3 * q + 2 ≠ kd + 1 + 3 * (q + 1) + 0 by omega), vp_updL_n _ _ (show kd + 1 + 3 * q + 1 ≠ kd + 1 + 3 * (q + 1) + 0 by omega)]
  rw [h0 _ (by omega), h0 _ (by omega), h0 _ (by omega)]
  funext i
  by_cases e2 : i = kd + 1 + 3 * (q + 1) + 2
  · subst e2; rw [vp_updL_s, zcpy_in _ _ (by omega)]; congr 1; omega
  rw [vp_updL_n _ _ e2]
  by_cases e1 : i = kd + 1 + 3 * (q + 1) + 1
  · subst e1; rw [vp_updL_s, zcpy_in _ _ (by omega)]; congr 1; omega
  rw [vp_updL_n _ _ e1]
  by_cases e0 : i = kd + 1 + 3 * (q + 1) + 0
  · subst e0; rw [vp_updL_s, zcpy_in _ _ (by omega)]; congr 1; omega
  rw [vp_updL_n _ _ e0, ← hB]
  by_cases hi : kd + 1 + 3 * (q + 1 + 1) ≤ i ∧ i < kd + 1 + 3 * (q + 1 + 1) + 3 * (c - (q + 1))
  · rw [zcpy_in _ _ hi, zcpy_in _ _ (by omega)]; congr 1; omega
  · rw [zcpy_out _ _ (by omega), zcpy_out _ _ (by omega)]
def zput (A : Nat → Int64) (kd p c : Nat) (a b d : Int64) : Nat → Int64 :=
  let X := vp_updL (vp_updL (vp_updL (va_cpy A A (kd + 1 + 3 * p) (kd + 1 + 3 * (p + 1)) (3 * (c - p))) (kd + 1 + 3 * p + 0) a) (kd + 1 + 3 * p + 1) b) (kd + 1 + 3 * p + 2) d
  vp_updL X kd (X kd + 1)
theorem zpos_no {day : Int64} {w : Nat → Int64} {q : Nat} (h : ¬ w q ≤ day) : zpos day w (q + 1) = zpos day w q := by
  show (if w q ≤ day then q + 1 else zpos day w q) = _
  rw [if_neg h]
theorem zpos_yes {day : Int64} {w : Nat → Int64} {q : Nat} (h : w q ≤ day) : zpos day w (q + 1) = q + 1 := by
  show (if w q ≤ day then q + 1 else zpos day w q) = _
  rw [if_pos h]
theorem zne_of {a s : Int64} (h : 0 ≤ a) (h2 : a < s) : ¬ s = 0 := fun e => by
  subst e
  exact absurd h2 (Int64.not_lt.mpr h)
theorem zdec {x : Int64} (h : ¬ x ≤ 0) : (x - 1).toInt.toNat < x.toInt.toNat := by
  have h1 : 0 < x.toInt := by
    have := Int64.not_le.mp h
    rw [Int64.lt_iff_toInt_lt] at this
    exact this
  have h2 : (x - 1).toInt = x.toInt - 1 := by
    rw [Int64.toInt_sub]
    have hx := x.toInt_lt
    have h3 : (1 : Int64).toInt = 1 := by decide
    rw [h3]
    rw [Int.bmod_eq_of_le] <;> omega
  omega
