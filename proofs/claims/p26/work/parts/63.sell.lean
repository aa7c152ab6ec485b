/-! lots are sold: the loop and the division -/
def sellN (a b : Int) : Int → Nat → Nat
  | _, 0 => 0
  | c, n + 1 => if a ≤ c then 0 else sellN a b (c + b) n + 1
theorem sellN_le (a b : Int) : ∀ (n : Nat) (c : Int), sellN a b c n ≤ n
  | 0, c => Nat.le_refl _
  | n + 1, c => by
    unfold sellN
    split
    · omega
    · have := sellN_le a b n (c + b); omega
theorem sellN_eq (a b : Int) (hb : 0 ≤ b) : ∀ (n : Nat) (c : Int), ((sellN a b c n : Nat) : Int) = if a ≤ c then 0 else if b ≤ 0 then (n : Int) else if (n : Int) < (a - c + b - 1) / b then (n : Int) else (a - c + b - 1) / b
  | 0, c => by
    show (0 : Int) = _
    by_cases h1 : a ≤ c
    · rw [if_pos h1]
    · rw [if_neg h1]
      by_cases h2 : b ≤ 0
      · rw [if_pos h2]; rfl
      · rw [if_neg h2]
        have : 1 ≤ (a - c + b - 1) / b := (Int.le_ediv_iff_mul_le (by omega)).mpr (by omega)
        rw [if_pos (by omega)]; rfl
  | n + 1, c => by
    unfold sellN
    by_cases h1 : a ≤ c
    · rw [if_pos h1, if_pos h1]; rfl
    · rw [if_neg h1, if_neg h1, Int.natCast_add, sellN_eq a b hb n (c + b)]
      by_cases h2 : b ≤ 0
      · rw [if_pos h2, if_pos h2, if_neg (by omega)]; rfl
      · rw [if_neg h2, if_neg h2]
        have e : a - c + b - 1 = (a - (c + b) + b - 1) + b * 1 := by omega
        have hd : (a - c + b - 1) / b = (a - (c + b) + b - 1) / b + 1 := by
          rw [e, Int.add_mul_ediv_left _ _ (by omega)]
        by_cases h3 : a ≤ c + b
        · rw [if_pos h3]
          have h4 : (a - (c + b) + b - 1) / b = 0 := Int.ediv_eq_zero_of_lt (by omega) (by omega)
          rw [hd, h4]
          rw [if_neg (by omega)]; rfl
        · rw [if_neg h3, hd]
          generalize (a - (c + b) + b - 1) / b = d
          by_cases h5 : (n : Int) < d
          · rw [if_pos h5, if_pos (by omega)]; rfl
          · rw [if_neg h5, if_neg (by omega)]; rfl
/-- what a lot brings -/
def brB (q s4 : Int) : Int := q - (q * s4 + 999) / 1000
theorem fee_int {T : zTr} (hq : 1 ≤ (gTr_quote T).toInt ∧ (gTr_quote T).toInt ≤ 10000) (hs : 0 ≤ (gTr_st T 4).toInt ∧ (gTr_st T 4).toInt ≤ 50) : (f_X6_fee T).toInt = ((gTr_quote T).toInt * (gTr_st T 4).toInt + 999) / 1000 ∧ 0 ≤ (gTr_quote T).toInt * (gTr_st T 4).toInt ∧ (gTr_quote T).toInt * (gTr_st T 4).toInt ≤ (gTr_quote T).toInt * 50 := by
  have h1 : 0 ≤ (gTr_quote T).toInt * (gTr_st T 4).toInt := Int.mul_nonneg (by omega) hs.1
  have h2 : (gTr_quote T).toInt * (gTr_st T 4).toInt ≤ (gTr_quote T).toInt * 50 := Int.mul_le_mul_of_nonneg_left hs.2 (by omega)
  refine ⟨?_, h1, h2⟩
  have h3 : ((gTr_quote T).toInt64 * (gTr_st T 4).toInt64).toInt = (gTr_quote T).toInt * (gTr_st T 4).toInt := i64_mul (i32_l _) (i32_l _) (by omega) (by omega)
  have h4 : ((gTr_quote T).toInt64 * (gTr_st T 4).toInt64 + 999).toInt = (gTr_quote T).toInt * (gTr_st T 4).toInt + 999 := i64_add h3 rfl (by omega) (by omega)
  exact i64_div h4 rfl (by omega) (by decide)
theorem br_int {T : zTr} (hq : 1 ≤ (gTr_quote T).toInt ∧ (gTr_quote T).toInt ≤ 10000) (hs : 0 ≤ (gTr_st T 4).toInt ∧ (gTr_st T 4).toInt ≤ 50) : ((gTr_quote T).toInt64 - f_X6_fee T).toInt = brB (gTr_quote T).toInt (gTr_st T 4).toInt ∧ 0 ≤ brB (gTr_quote T).toInt (gTr_st T 4).toInt ∧ brB (gTr_quote T).toInt (gTr_st T 4).toInt ≤ (gTr_quote T).toInt := by
  obtain ⟨h1, h2, h3⟩ := fee_int hq hs
  have h4 : 0 ≤ brB (gTr_quote T).toInt (gTr_st T 4).toInt ∧ brB (gTr_quote T).toInt (gTr_st T 4).toInt ≤ (gTr_quote T).toInt := by unfold brB; omega
  refine ⟨?_, h4⟩
  unfold brB at h4
  exact i64_sub (i32_l _) h1 (by omega) (by omega)
theorem L_sell_spec (S : zMs) (am : Int64) (b : Int) (hb : 0 ≤ b ∧ b ≤ 10000) : ∀ (n : Nat) (A : Nat → Int64) (c : Int), n ≤ 1000 → (A 6).toInt = (n : Int) → (A 5).toInt = c → 0 ≤ c → c + 10000 * (n : Int) ≤ 1000000000000 → (A 7 - (A 7 * A 4 + 999) / 1000).toInt = b →
    (L_X8_sell S am (n + 1) A 5).toInt = c + (sellN am.toInt b c n : Int) * b ∧ (L_X8_sell S am (n + 1) A 6).toInt = (n : Int) - (sellN am.toInt b c n : Int) ∧ L_X8_sell S am (n + 1) A 14 = A 14 + lN (sellN am.toInt b c n) ∧ ∀ i, i ≠ 5 → i ≠ 6 → i ≠ 14 → L_X8_sell S am (n + 1) A i = A i := by
  intro n
  induction n with
  | zero =>
    intro A c hn h6 h5 hc hm hbr
    have e : L_X8_sell S am 1 A = A := by
      rw [L_X8_sell_s]
      by_cases q : am ≤ A 5
      · rw [if_pos q]
      · rw [if_neg q, if_pos (i64_le_iff.mpr (by rw [h6]; exact Int.le_refl _))]
    rw [e]
    refine ⟨by rw [h5]; show c = c + (0 : Int) * b; omega, by rw [h6]; rfl, ?_, fun i _ _ _ => rfl⟩
    show A 14 = A 14 + 0
    rw [Int64.add_zero]
  | succ n ih =>
    intro A c hn h6 h5 hc hm hbr
    rw [L_X8_sell_s]
    unfold sellN
    by_cases q : am ≤ A 5
    · rw [if_pos q, if_pos (by rw [i64_le_iff, h5] at q; exact q)]
      refine ⟨by rw [h5]; show c = c + (0 : Int) * b; omega, by rw [h6]; show _ = _ - (0 : Int); omega, ?_, fun i _ _ _ => rfl⟩
      show A 14 = A 14 + 0
      rw [Int64.add_zero]
    · rw [if_neg q, if_neg (by rw [i64_le_iff, h6]; show ¬ ((n + 1 : Nat) : Int) ≤ 0; omega), if_neg (by rw [i64_le_iff, h5] at q; exact q)]
      generalize hA2 : vp_updL (vp_updL (vp_updL A 6 (A 6 - 1)) 5 (vp_updL A 6 (A 6 - 1) 5 + (vp_updL A 6 (A 6 - 1) 7 - f_X8_cost (sMs_at S (vp_updL A 6 (A 6 - 1)))))) 14 (vp_updL (vp_updL A 6 (A 6 - 1)) 5 (vp_updL A 6 (A 6 - 1) 5 + (vp_updL A 6 (A 6 - 1) 7 - f_X8_cost (sMs_at S (vp_updL A 6 (A 6 - 1))))) 14 + 1) = A2
      have e5 : A2 5 = A 5 + (A 7 - (A 7 * A 4 + 999) / 1000) := by rw [← hA2]; rfl
      have e6 : A2 6 = A 6 - 1 := by rw [← hA2]; rfl
      have e14 : A2 14 = A 14 + 1 := by rw [← hA2]; rfl
      have eo : ∀ i, i ≠ 5 → i ≠ 6 → i ≠ 14 → A2 i = A i := fun i h1 h2 h3 => by rw [← hA2, vp_updL_n _ _ h3, vp_updL_n _ _ h1, vp_updL_n _ _ h2]
      have g5 : (A2 5).toInt = c + b := by rw [e5]; exact i64_add h5 hbr (by omega) (by omega)
      have g6 : (A2 6).toInt = (n : Int) := by
        rw [e6]
        have : ((n + 1 : Nat) : Int) - 1 = (n : Int) := by omega
        rw [← this]
        exact i64_sub h6 rfl (by omega) (by omega)
      have gb : (A2 7 - (A2 7 * A2 4 + 999) / 1000).toInt = b := by rw [eo 7 (by decide) (by decide) (by decide), eo 4 (by decide) (by decide) (by decide)]; exact hbr
      obtain ⟨r5, r6, r14, ro⟩ := ih A2 (c + b) (by omega) g6 g5 (by omega) (by omega) gb
      refine ⟨?_, ?_, ?_, fun i h1 h2 h3 => (ro i h1 h2 h3).trans (eo i h1 h2 h3)⟩
      · rw [r5, Int.natCast_add, Int.add_mul]
        show c + b + _ = c + (_ + 1 * b)
        omega
      · rw [r6]; omega
      · rw [r14, e14]
        show A 14 + 1 + Int64.ofNat _ = A 14 + Int64.ofNat _
        rw [Int64.ofNat_add, Int64.add_assoc, Int64.add_comm 1]
        rfl
theorem lN_int {n : Nat} (h : n < 2 ^ 63) : (lN n).toInt = (n : Int) := Int64.toInt_ofNat_of_lt h
theorem nI_int {n : Nat} (h : n < 2 ^ 31) : (nI n).toInt = (n : Int) := nI_toInt h
/-- selling: both sides alike -/
theorem sell_eq {T : zTr} {S : zMs} {am : Int64} (hR : RC T (gMs_at S)) (hq : 1 ≤ (gTr_quote T).toInt ∧ (gTr_quote T).toInt ≤ 10000) (hs : 0 ≤ (gTr_st T 4).toInt ∧ (gTr_st T 4).toInt ≤ 50) (hl : 0 ≤ (gTr_lots T).toInt ∧ (gTr_lots T).toInt ≤ 1000) (hc : 0 ≤ (gTr_cash T).toInt ∧ (gTr_cash T).toInt ≤ 100000000000) (ha : 0 ≤ am.toInt ∧ am.toInt ≤ 1000000000000000) :
    ∃ (n : Nat) (c' : Int64) (l' : Int32), f_X6_sellFor T am = (nI n, sTr_lots (sTr_cash T c') l') ∧ c'.toInt = (gTr_cash T).toInt + (n : Int) * brB (gTr_quote T).toInt (gTr_st T 4).toInt ∧ l'.toInt = (gTr_lots T).toInt - (n : Int) ∧ (n : Int) ≤ (gTr_lots T).toInt ∧
      gMs_at (f_X8_sellFor S am) 5 = c' ∧ gMs_at (f_X8_sellFor S am) 6 = l'.toInt64 ∧ gMs_at (f_X8_sellFor S am) 14 = gMs_at S 14 + lN n ∧ ∀ i, i ≠ 5 → i ≠ 6 → i ≠ 14 → gMs_at (f_X8_sellFor S am) i = gMs_at S i := by
  obtain ⟨b1, b2, b3⟩ := br_int hq hs
  generalize hb : brB (gTr_quote T).toInt (gTr_st T 4).toInt = b at b1 b2 b3 ⊢
  have hA5 : gMs_at S 5 = gTr_cash T := hR.2.1
  have hA6 : gMs_at S 6 = (gTr_lots T).toInt64 := hR.2.2.1
  have hA7 : gMs_at S 7 = (gTr_quote T).toInt64 := hR.2.2.2.1
  have hA4 : gMs_at S 4 = (gTr_st T 4).toInt64 := hR.1 4 (by omega)
  obtain ⟨m, hm⟩ : ∃ m : Nat, (gTr_lots T).toInt = (m : Int) := ⟨(gTr_lots T).toInt.toNat, by omega⟩
  have hf : (gMs_at S 6).toInt.toNat = m := by rw [hA6, i32_l, hm]; rfl
  obtain ⟨r5, r6, r14, ro⟩ := L_sell_spec S am b ⟨b2, by omega⟩ m (gMs_at S) (gTr_cash T).toInt (by omega) (by rw [hA6, i32_l, hm]) (by rw [hA5]) hc.1 (by omega) (by rw [hA7, hA4]; exact b1)
  have hS : gMs_at (f_X8_sellFor S am) = L_X8_sell S am (m + 1) (gMs_at S) := by
    unfold f_X8_sellFor; rw [zsl_e, hf]
  rw [hS]
  have hk := sellN_eq am.toInt b b2 m (gTr_cash T).toInt
  have hkl := sellN_le am.toInt b m (gTr_cash T).toInt
  generalize sellN am.toInt b (gTr_cash T).toInt m = k at r5 r6 r14 hk hkl
  generalize L_X8_sell S am (m + 1) (gMs_at S) = A' at r5 r6 r14 ro ⊢
  have hkb1 : 0 ≤ (k : Int) * b := Int.mul_nonneg (by omega) b2
  have hkb2 : (k : Int) * b ≤ 1000 * 10000 := Int.mul_le_mul (by omega) (by omega) b2 (by decide)
  refine ⟨k, A' 5, nI (m - k), ?_, r5, ?_, by omega, rfl, ?_, r14, ro⟩
  · unfold f_X6_sellFor
    by_cases c : gTr_cash T < am
    · rw [if_pos c]
      rw [if_neg (by rw [i64_lt_iff] at c; omega)] at hk
      have hx : (if (gTr_quote T).toInt64 - f_X6_fee T ≤ 0 then (gTr_lots T).toInt64 else if (gTr_lots T).toInt64 < (am - gTr_cash T + ((gTr_quote T).toInt64 - f_X6_fee T) - 1) / ((gTr_quote T).toInt64 - f_X6_fee T) then (gTr_lots T).toInt64 else (am - gTr_cash T + ((gTr_quote T).toInt64 - f_X6_fee T) - 1) / ((gTr_quote T).toInt64 - f_X6_fee T)) = lN k := by
        apply i64_eq_iff.mpr
        rw [lN_int (by omega), hk]
        by_cases c2 : b ≤ 0
        · rw [if_pos c2, if_pos (i64_le_iff.mpr (by rw [b1]; exact c2)), i32_l, hm]
        · rw [if_neg c2, if_neg (by rw [i64_le_iff, b1]; exact c2)]
          have d1 : (am - gTr_cash T).toInt = am.toInt - (gTr_cash T).toInt := i64_sub rfl rfl (by omega) (by omega)
          have d2 := i64_add d1 b1 (by omega) (by omega)
          have d3 := i64_sub d2 (show (1 : Int64).toInt = 1 from rfl) (by omega) (by omega)
          have d4 := i64_div d3 b1 (by rw [i64_lt_iff] at c; omega) (by omega)
          rw [i64_lt_iff] at c
          have hif : ((gTr_lots T).toInt64 < (am - gTr_cash T + ((gTr_quote T).toInt64 - f_X6_fee T) - 1) / ((gTr_quote T).toInt64 - f_X6_fee T)) ↔ (m : Int) < (am.toInt - (gTr_cash T).toInt + b - 1) / b := by rw [i64_lt_iff, d4, i32_l, hm]
          by_cases c3 : (m : Int) < (am.toInt - (gTr_cash T).toInt + b - 1) / b
          · rw [if_pos c3, if_pos (hif.mpr c3), i32_l, hm]
          · rw [if_neg c3, if_neg (fun z => c3 (hif.mp z)), d4]
      dsimp only
      rw [hx]
      have e1 : (lN k).toInt32 = nI k := lN_i k
      rw [e1]
      have e2 : gTr_lots T - nI k = nI (m - k) := by
        apply i32_eq_iff.mpr
        rw [nI_int (by omega)]
        have := i32_sub hm (nI_int (n := k) (by omega)) (by omega) (by omega)
        rw [this]; omega
      have e3 : gTr_cash T + lN k * ((gTr_quote T).toInt64 - f_X6_fee T) = A' 5 := by
        apply i64_eq_iff.mpr
        rw [r5]
        exact i64_add rfl (i64_mul (lN_int (by omega)) b1 (by omega) (by omega)) (by omega) (by omega)
      rw [e2, e3]
    · rw [if_neg c]
      rw [if_pos (by rw [i64_lt_iff] at c; omega)] at hk
      have hk0 : k = 0 := by omega
      subst hk0
      have e3 : A' 5 = gTr_cash T := i64_eq_iff.mpr (by rw [r5]; show _ + (0 : Int) * b = _; omega)
      have e2 : nI (m - 0) = gTr_lots T := i32_eq_iff.mpr (by rw [nI_int (by omega), hm]; rfl)
      rw [e2, e3]
  · rw [nI_int (by omega), hm]; omega
  · apply i64_eq_iff.mpr
    rw [r6, i32_l, nI_int (by omega)]; omega
