/-! the sharing out: both sides alike -/
theorem i64_sub_sub (a b c : Int64) : a - (b + c) = a - b - c := by
  exact (Int64.sub_sub a b c).symm
theorem L_so1_at (S : zMs) : ∀ (n k : Nat) (sh : Nat → Int64) (i : Nat), k + n = 20 → (L_X8_so1 S (n + 1) sh k).1 i = if k ≤ i ∧ i < 20 then 0 else sh i := by
  intro n
  induction n with
  | zero =>
    intro k sh i h
    rw [L_X8_so1_s, if_pos (by omega), if_neg (by omega)]
  | succ n ih =>
    intro k sh i h
    rw [L_X8_so1_s, if_neg (by omega), ih (k + 1) _ i (by omega)]
    by_cases c : k + 1 ≤ i ∧ i < 20
    · rw [if_pos c, if_pos (by omega)]
    · rw [if_neg c]
      by_cases e : i = k
      · subst e; rw [vp_updL_s, if_pos (by omega)]
      · rw [vp_updL_n _ _ e, if_neg (by omega)]
theorem L_sd1m_z (S : zMs) (to : Nat) : ∀ (m k : Nat) (sm : Int64), k + m = to → (L_X8_sd1 S to (m + 1) sm k).1 = sm + zsum (fun i => f_X8_ofOrder S 122 (k + i) 1) m := by
  intro m
  induction m with
  | zero =>
    intro k sm hk
    rw [L_X8_sd1_s, if_pos (by omega)]
    show sm = sm + 0
    rw [Int64.add_zero]
  | succ m ih =>
    intro k sm hk
    rw [L_X8_sd1_s, if_neg (by omega), zsum_cons, ih (k + 1) _ (by omega)]
    have e : zsum (fun i => f_X8_ofOrder S 122 (k + 1 + i) 1) m = zsum (fun i => f_X8_ofOrder S 122 (k + (i + 1)) 1) m := zsum_congr m (fun i _ => by rw [show k + 1 + i = k + (i + 1) by omega])
    rw [e, ← Int64.add_assoc]
    rfl
noncomputable def vM (S : zMs) (left sm : Int64) (i : Nat) : Int64 := if left < sm then f_X8_ofOrder S 122 i 1 * left / sm else f_X8_ofOrder S 122 i 1
theorem L_sd2m_at (S : zMs) (to : Nat) (left sm : Int64) : ∀ (m k : Nat) (sh : Nat → Int64) (rest : Int64), k + m = to → (∀ i, (L_X8_sd2 S to left sm (m + 1) sh rest k).1 i = if k ≤ i ∧ i < to then vM S left sm i else sh i) ∧ (L_X8_sd2 S to left sm (m + 1) sh rest k).2.1 = rest - zsum (fun j => vM S left sm (k + j)) m := by
  intro m
  induction m with
  | zero =>
    intro k sh rest h
    rw [L_X8_sd2_s, if_pos (by omega)]
    refine ⟨fun i => by rw [if_neg (by omega)], ?_⟩
    show rest = rest - 0
    rw [Int64.sub_zero]
  | succ m ih =>
    intro k sh rest h
    rw [L_X8_sd2_s, if_neg (by omega), zsum_cons]
    dsimp only
    rw [vp_updL_s]
    have hv : (if left < sm then f_X8_ofOrder (sMs_sh S sh) 122 k 1 * left / sm else f_X8_ofOrder (sMs_sh S sh) 122 k 1) = vM S left sm k := rfl
    rw [hv]
    obtain ⟨h1, h2⟩ := ih (k + 1) (vp_updL sh k (vM S left sm k)) (rest - vM S left sm k) (by omega)
    refine ⟨fun i => ?_, ?_⟩
    · rw [h1 i]
      by_cases c : k + 1 ≤ i ∧ i < to
      · rw [if_pos c, if_pos (by omega)]
      · rw [if_neg c]
        by_cases e : i = k
        · subst e; rw [vp_updL_s, if_pos (by omega)]
        · rw [vp_updL_n _ _ e, if_neg (by omega)]
    · rw [h2]
      have e : zsum (fun j => vM S left sm (k + 1 + j)) m = zsum (fun j => vM S left sm (k + (j + 1))) m := zsum_congr m (fun i _ => by rw [show k + 1 + i = k + (i + 1) by omega])
      rw [e]
      show _ = rest - (vM S left sm k + _)
      rw [i64_sub_sub]
def vC (o : zOd) (ofDay given : Int64) (i : Nat) : Int64 := if ofDay ≤ 0 then 0 else (gOd_sz o i).toInt64 * given / ofDay
theorem L_sd1c_at (o : zOd) (to : Nat) (ofDay given : Int64) : ∀ (m k : Nat) (sh : Nat → Int64) (rest : Int64), k + m = to → (∀ i, (L_X0_sd1 o to ofDay given (m + 1) sh rest k).1 i = if k ≤ i ∧ i < to then vC o ofDay given i else sh i) ∧ (L_X0_sd1 o to ofDay given (m + 1) sh rest k).2.1 = rest - zsum (fun j => vC o ofDay given (k + j)) m := by
  intro m
  induction m with
  | zero =>
    intro k sh rest h
    rw [L_X0_sd1_s, if_pos (by omega)]
    refine ⟨fun i => by rw [if_neg (by omega)], ?_⟩
    show rest = rest - 0
    rw [Int64.sub_zero]
  | succ m ih =>
    intro k sh rest h
    rw [L_X0_sd1_s, if_neg (by omega), zsum_cons]
    dsimp only
    rw [vp_updL_s]
    have hv : (if ofDay ≤ 0 then 0 else (gOd_sz o k).toInt64 * given / ofDay) = vC o ofDay given k := rfl
    rw [hv]
    obtain ⟨h1, h2⟩ := ih (k + 1) (vp_updL sh k (vC o ofDay given k)) (rest - vC o ofDay given k) (by omega)
    refine ⟨fun i => ?_, ?_⟩
    · rw [h1 i]
      by_cases c : k + 1 ≤ i ∧ i < to
      · rw [if_pos c, if_pos (by omega)]
      · rw [if_neg c]
        by_cases e : i = k
        · subst e; rw [vp_updL_s, if_pos (by omega)]
        · rw [vp_updL_n _ _ e, if_neg (by omega)]
    · rw [h2]
      have e : zsum (fun j => vC o ofDay given (k + 1 + j)) m = zsum (fun j => vC o ofDay given (k + (j + 1))) m := zsum_congr m (fun i _ => by rw [show k + 1 + i = k + (i + 1) by omega])
      rw [e]
      show _ = rest - (vC o ofDay given k + _)
      rw [i64_sub_sub]
/-- one unit more each, until all is shared out -/
theorem L_sd3m_at (S : zMs) (to : Nat) (left sm : Int64) (hls : left < sm) : ∀ (m k : Nat) (sh : Nat → Int64) (rest : Int64) (r : Nat), k + m = to → rest.toInt = (r : Int) → (∀ i, k ≤ i → i < to → (sh i).toInt < 9223372036854775807) → (∀ i, (L_X8_sd3 S to left sm (m + 1) sh rest k).1 i = if k ≤ i ∧ i < to ∧ i < k + r then sh i + 1 else sh i) ∧ (L_X8_sd3 S to left sm (m + 1) sh rest k).2.1.toInt = (if r ≤ m then 0 else (r : Int) - m) := by
  intro m
  induction m with
  | zero =>
    intro k sh rest r h hr hsh
    rw [L_X8_sd3_s, if_pos (by omega)]
    refine ⟨fun i => by rw [if_neg (by omega)], ?_⟩
    show rest.toInt = _
    rw [hr]
    split <;> omega
  | succ m ih =>
    intro k sh rest r h hr hsh
    have z0 : (0 : Int64).toInt = 0 := rfl
    rw [L_X8_sd3_s, if_neg (by omega), if_neg (Int64.not_le.mpr hls)]
    by_cases c : r = 0
    · rw [if_pos (by rw [i64_le_iff, hr, z0]; omega)]
      refine ⟨fun i => by rw [if_neg (by omega)], ?_⟩
      show rest.toInt = _
      rw [hr, if_pos (by omega)]; omega
    · rw [if_neg (by rw [i64_le_iff, hr, z0]; omega)]
      have hr2 : (rest - 1).toInt = ((r - 1 : Nat) : Int) := by
        have := i64_lt (a := rest)
        rw [i64_sub hr (show (1 : Int64).toInt = 1 from rfl) (by omega) (by omega)]; omega
      obtain ⟨h1, h2⟩ := ih (k + 1) (vp_updL sh k (sh k + 1)) (rest - 1) (r - 1) (by omega) hr2 (fun i a b => by rw [vp_updL_n _ _ (by omega)]; exact hsh i (by omega) b)
      refine ⟨fun i => ?_, ?_⟩
      · rw [h1 i]
        by_cases c2 : k + 1 ≤ i ∧ i < to ∧ i < k + 1 + (r - 1)
        · rw [if_pos c2, if_pos (by omega), vp_updL_n _ _ (by omega)]
        · rw [if_neg c2]
          by_cases e : i = k
          · subst e; rw [vp_updL_s, if_pos (by omega)]
          · rw [vp_updL_n _ _ e, if_neg (by omega)]
      · rw [h2]
        by_cases c3 : r - 1 ≤ m
        · rw [if_pos c3, if_pos (by omega)]
        · rw [if_neg c3, if_neg (by omega)]; omega
theorem L_sd2c_at (o : zOd) (to : Nat) (s1 : Nat → Int64) (r1 : Int64) (k1 : Nat) : ∀ (m k : Nat) (sh : Nat → Int64) (rest : Int64) (r : Nat), k + m = to → rest.toInt = (r : Int) → (∀ i, k ≤ i → i < to → i < k + r → (sh i).toInt < (gOd_sz o i).toInt) → (∀ i, (L_X0_sd2 o to s1 r1 k1 (m + 1) sh rest k).1 i = if k ≤ i ∧ i < to ∧ i < k + r then sh i + 1 else sh i) := by
  intro m
  induction m with
  | zero =>
    intro k sh rest r h hr hsh i
    rw [L_X0_sd2_s, if_pos (by omega), if_neg (by omega)]
  | succ m ih =>
    intro k sh rest r h hr hsh i
    have z0 : (0 : Int64).toInt = 0 := rfl
    rw [L_X0_sd2_s, if_neg (by omega)]
    by_cases c : r = 0
    · rw [if_pos (by rw [i64_le_iff, hr, z0]; omega), if_neg (by omega)]
    · rw [if_neg (by rw [i64_le_iff, hr, z0]; omega)]
      have hr2 : (rest - 1).toInt = ((r - 1 : Nat) : Int) := by
        have := i64_lt (a := rest)
        rw [i64_sub hr (show (1 : Int64).toInt = 1 from rfl) (by omega) (by omega)]; omega
      have hc : ¬ (gOd_sz o k).toInt64 ≤ sh k := by
        rw [i64_le_iff, i32_l]
        have := hsh k (by omega) (by omega) (by omega)
        omega
      dsimp only
      rw [if_neg hc, if_neg hc, ih (k + 1) (vp_updL sh k (sh k + 1)) (rest - 1) (r - 1) (by omega) hr2 (fun i a b c => by rw [vp_updL_n _ _ (by omega)]; exact hsh i (by omega) b (by omega)) i]
      by_cases c2 : k + 1 ≤ i ∧ i < to ∧ i < k + 1 + (r - 1)
      · rw [if_pos c2, if_pos (by omega), vp_updL_n _ _ (by omega)]
      · rw [if_neg c2]
        by_cases e : i = k
        · subst e; rw [vp_updL_s, if_pos (by omega)]
        · rw [vp_updL_n _ _ e, if_neg (by omega)]
/-- the parts that are rounded down leave less than one each -/
theorem floor_sum {u : Nat → Int} {L S : Int} (hL : 0 ≤ L) (hS : 0 < S) : ∀ m : Nat, (∀ j, j < m → 0 ≤ u j) → S * isum (fun j => u j * L / S) m ≤ L * isum u m ∧ L * isum u m ≤ S * isum (fun j => u j * L / S) m + (m : Int) * (S - 1)
  | 0, _ => by
    show S * 0 ≤ L * 0 ∧ L * 0 ≤ S * 0 + ((0 : Nat) : Int) * (S - 1)
    rw [Int.natCast_zero, Int.zero_mul, Int.mul_zero, Int.mul_zero]; omega
  | m + 1, h => by
    obtain ⟨h1, h2⟩ := floor_sum (u := u) hL hS m (fun j hj => h j (by omega))
    show S * (isum (fun j => u j * L / S) m + u m * L / S) ≤ L * (isum u m + u m) ∧ L * (isum u m + u m) ≤ S * (isum (fun j => u j * L / S) m + u m * L / S) + ((m + 1 : Nat) : Int) * (S - 1)
    rw [Int.mul_add, Int.mul_add, Int.natCast_add, Int.add_mul]
    have q1 : S * (u m * L / S) ≤ u m * L := Int.mul_ediv_self_le (by omega)
    have q2 : u m * L < S * (u m * L / S) + S := Int.lt_mul_ediv_self_add hS
    have q3 : L * u m = u m * L := Int.mul_comm _ _
    have q4 : ((1 : Nat) : Int) * (S - 1) = S - 1 := Int.one_mul _
    omega
