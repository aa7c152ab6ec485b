/-! signs in a number. Written by wip/p26/law19.py -/
theorem jL_bv (N : Nat) : (jL (N : Int)).toBitVec = BitVec.ofNat 64 N := by
  show BitVec.ofInt 64 (N : Int) = _
  exact BitVec.ofInt_natCast 64 N
theorem jL_un (N : Nat) (h : N < 9223372036854775808) : (jL (N : Int)).toUInt64.toNat = N := by
  show (jL (N : Int)).toBitVec.toNat = N
  rw [jL_bv, BitVec.toNat_ofNat]
  exact Nat.mod_eq_of_lt (by omega)
theorem jL_ofu (u : UInt64) : u.toInt64 = jL ((u.toNat : Nat) : Int) := by
  apply Int64.toBitVec_inj.mp
  rw [jL_bv]
  show u.toBitVec = _
  exact ((BitVec.ofNat_toNat 64 u.toBitVec).trans (BitVec.setWidth_eq _)).symm
/-- a shift and another sign -/
theorem shl_or {a b : Int} (ha : 0 ≤ a ∧ a < 36028797018963968) (hb : 0 ≤ b ∧ b < 256) : (jL a <<< ((jI 8).toInt64 &&& 63)) ||| jL b = jL (a * 256 + b) := by
  obtain ⟨n, rfl⟩ := Int.eq_ofNat_of_zero_le ha.1
  obtain ⟨m, rfl⟩ := Int.eq_ofNat_of_zero_le hb.1
  apply Int64.toBitVec_inj.mp
  have e8 : ((jI 8).toInt64 &&& 63 : Int64) = 8 := by decide
  rw [e8]
  have e : ((n : Int) * 256 + (m : Int)) = ((n * 256 + m : Nat) : Int) := by omega
  rw [e, jL_bv]
  have e1 : (jL (n : Int) <<< (8 : Int64)).toBitVec = BitVec.ofNat 64 n <<< 8 := by
    rw [← jL_bv]; rfl
  show (jL (n : Int) <<< (8 : Int64)).toBitVec ||| (jL (m : Int)).toBitVec = _
  rw [e1, jL_bv]
  apply BitVec.eq_of_toNat_eq
  rw [BitVec.toNat_or, BitVec.toNat_shiftLeft, BitVec.toNat_ofNat, BitVec.toNat_ofNat, BitVec.toNat_ofNat, Nat.mod_eq_of_lt (a := n) (by omega), Nat.mod_eq_of_lt (a := m) (by omega), Nat.shiftLeft_eq, Nat.mod_eq_of_lt (a := n * 2 ^ 8) (by omega), Nat.mod_eq_of_lt (a := n * 256 + m) (by omega)]
  have h := Nat.shiftLeft_add_eq_or_of_lt (i := 8) (b := m) (by omega) n
  rw [Nat.shiftLeft_eq] at h
  exact h.symm
theorem and_255 (N : Nat) (h : N < 9223372036854775808) : jL (N : Int) &&& 255 = jL ((N % 256 : Nat) : Int) := by
  apply Int64.toBitVec_inj.mp
  show (jL (N : Int)).toBitVec &&& 255#64 = _
  rw [jL_bv, jL_bv]
  apply BitVec.eq_of_toNat_eq
  rw [BitVec.toNat_and, BitVec.toNat_ofNat, BitVec.toNat_ofNat, BitVec.toNat_ofNat, Nat.mod_eq_of_lt (a := N) (by omega), Nat.mod_eq_of_lt (a := N % 256) (by omega)]
  exact Nat.and_two_pow_sub_one_eq_mod N 8
theorem shr_8 (N : Nat) (h : N < 9223372036854775808) : ((jL (N : Int)).toUInt64 >>> 8).toInt64 = jL ((N / 256 : Nat) : Int) := by
  rw [jL_ofu]
  congr 2
  have := shr8 (jL (N : Int))
  rw [jL_un N h] at this
  exact this
theorem shr_k (N : Nat) (h : N < 9223372036854775808) {j : Nat} (hj : j < 8) : ((jL (N : Int)).toUInt64 >>> ((nI (8 * j)).toInt64.toUInt64 &&& Int64.toUInt64 63)).toInt64 = jL ((N / 256 ^ j : Nat) : Int) := by
  have e : ((nI (8 * j)).toInt64.toUInt64 &&& Int64.toUInt64 63) = UInt64.ofNat (8 * j) := by
    rcases (show j = 0 ∨ j = 1 ∨ j = 2 ∨ j = 3 ∨ j = 4 ∨ j = 5 ∨ j = 6 ∨ j = 7 by omega) with rfl | rfl | rfl | rfl | rfl | rfl | rfl | rfl <;> decide
  rw [e, jL_ofu]
  congr 2
  rw [UInt64.toNat_shiftRight, jL_un N h]
  have e2 : (UInt64.ofNat (8 * j)).toNat % 64 = 8 * j := by
    rcases (show j = 0 ∨ j = 1 ∨ j = 2 ∨ j = 3 ∨ j = 4 ∨ j = 5 ∨ j = 6 ∨ j = 7 by omega) with rfl | rfl | rfl | rfl | rfl | rfl | rfl | rfl <;> decide
  rw [e2, Nat.shiftRight_eq_div_pow, Nat.pow_mul]
theorem sgM_k (N : Nat) (h : N < 9223372036854775808) {j : Nat} (hj : j < 8) : sgM (jL (N : Int)) j = jI ((N / 256 ^ j % 256 : Nat) : Int) := by
  have hd : N / 256 ^ j < 9223372036854775808 := Nat.lt_of_le_of_lt (Nat.div_le_self _ _) h
  rw [← sgC _ hj, shr_k N h hj, and_255 _ hd, jL_i, ← jI_n, nar_small _ (by omega)]
theorem cnt_1 (N : Nat) (h : N < 9223372036854775808) (hz : 33 ≤ N % 256 ∧ N % 256 ≤ 126) (f k : Nat) (hk : k < 8) : L_X5_cnt (f + 1) (jL (N : Int)) k = L_X5_cnt f (jL ((N / 256 : Nat) : Int)) (k + 1) := by
  have e1 : (jL (N : Int)).toInt = N := jL_t ⟨by omega, by omega⟩
  have e2 : (jL (N : Int) &&& 255).toInt = ((N % 256 : Nat) : Int) := by rw [and_255 N h]; exact jL_t ⟨by omega, by omega⟩
  have z33 : (33 : Int64).toInt = 33 := rfl
  have z126 : (126 : Int64).toInt = 126 := rfl
  rw [L_X5_cnt_s, if_neg (by omega), if_neg (fun q => by have q2 := congrArg Int64.toInt q; rw [e1] at q2; have : (0 : Int64).toInt = 0 := rfl; omega), if_neg (by rw [i64_lt_iff, e2, z33]; omega), if_pos (by rw [i64_le_iff, e2, z126]; omega), shr_8 N h]
theorem cnt_0 (f k : Nat) : L_X5_cnt (f + 1) (jL ((0 : Nat) : Int)) k = (false, 0, jL ((0 : Nat) : Int), k) := by
  rw [L_X5_cnt_s]
  by_cases c : 8 ≤ k
  · rw [if_pos c]
  · rw [if_neg c, if_pos (show jL ((0 : Nat) : Int) = 0 from rfl)]
/-- what is put, sign by sign -/
def horN : List Nat → Nat
  | [] => 0
  | c :: l => horN l * 256 + c
theorem horN_lt : ∀ l : List Nat, (∀ c ∈ l, c ≤ 126) → 255 * horN l + 126 ≤ 126 * 256 ^ l.length
  | [], _ => by decide
  | c :: l, h => by
    have h1 := horN_lt l (fun d hd => h d (List.mem_cons_of_mem _ hd))
    have h2 := h c (List.mem_cons_self)
    show 255 * (horN l * 256 + c) + 126 ≤ 126 * 256 ^ (l.length + 1)
    rw [Nat.pow_succ]
    omega
theorem horN_63 (l : List Nat) (h : ∀ c ∈ l, c ≤ 126) (h8 : l.length ≤ 8) : horN l < 9223372036854775808 := by
  have h1 := horN_lt l h
  have h3 : 256 ^ l.length ≤ 256 ^ 8 := Nat.pow_le_pow_right (by decide) h8
  omega
theorem horN_at : ∀ (l : List Nat) (j : Nat) (c : Nat), (∀ c ∈ l, c ≤ 126) → l[j]? = some c → horN l / 256 ^ j % 256 = c
  | [], j, c, _, h => by simp at h
  | d :: l, 0, c, h, e => by
    have h2 := h d (List.mem_cons_self)
    have e2 : d = c := by simpa using e
    show (horN l * 256 + d) / 256 ^ 0 % 256 = c
    rw [Nat.pow_zero]
    omega
  | d :: l, j + 1, c, h, e => by
    have h2 := h d (List.mem_cons_self)
    have e2 : l[j]? = some c := by simpa using e
    have ih := horN_at l j c (fun d hd => h d (List.mem_cons_of_mem _ hd)) e2
    show (horN l * 256 + d) / 256 ^ (j + 1) % 256 = c
    rw [Nat.pow_succ', ← Nat.div_div_eq_div_mul, show (horN l * 256 + d) / 256 = horN l by omega]
    exact ih
theorem cnt_l : ∀ (l : List Nat) (f k : Nat), (∀ c ∈ l, 33 ≤ c ∧ c ≤ 126) → k + l.length ≤ 8 → L_X5_cnt (f + l.length + 1) (jL (horN l : Int)) k = (false, 0, jL ((0 : Nat) : Int), k + l.length)
  | [], f, k, _, _ => cnt_0 f k
  | c :: l, f, k, h, hk => by
    have hc := h c (List.mem_cons_self)
    have hk2 : k + (l.length + 1) ≤ 8 := hk
    have h63 := horN_63 (c :: l) (fun d hd => (h d hd).2) (by show l.length + 1 ≤ 8; omega)
    have e1 : horN (c :: l) % 256 = c := by show (horN l * 256 + c) % 256 = c; omega
    have e2 : horN (c :: l) / 256 = horN l := by show (horN l * 256 + c) / 256 = horN l; omega
    show L_X5_cnt (f + (l.length + 1) + 1) _ k = _
    rw [cnt_1 _ h63 (by rw [e1]; exact hc) _ k (by omega), e2]
    have ih := cnt_l l f (k + 1) (fun d hd => h d (List.mem_cons_of_mem _ hd)) (by omega)
    rw [show f + (l.length + 1) = f + l.length + 1 by omega, ih]
    show (_, _, _, k + 1 + l.length) = (_, _, _, k + (l.length + 1))
    rw [show k + 1 + l.length = k + (l.length + 1) by omega]
theorem put_l {z : zPd} (l : List Nat) (h : ∀ c ∈ l, 33 ≤ c ∧ c ≤ 126) (h1 : 1 ≤ l.length) (h8 : l.length ≤ 8) (hn : gPd_n z + l.length ≤ 80) (hz : ∀ i, zch (gPd_sg z i)) : ∃ z', f_X7_put z (jL (horN l : Int)) = (jI ((gPd_n z + l.length : Nat) : Int), z') ∧ gPd_n z' = gPd_n z + l.length ∧ (∀ i, i < gPd_n z → gPd_sg z' i = gPd_sg z i) ∧ (∀ (t c : Nat), l[l.length - 1 - t]? = some c → t < l.length → gPd_sg z' (gPd_n z + t) = jI (c : Int)) ∧ ∀ i, zch (gPd_sg z' i) := by
  have hc : f_X5_countCharacters (jL (horN l : Int)) = l.length := by
    have e := cnt_l l (8 - l.length) 0 h (by omega)
    rw [show 8 - l.length + l.length + 1 = 8 - 0 + 1 by omega] at e
    unfold f_X5_countCharacters
    rw [e]
    show (if false = true then 0 else 0 + l.length) = _
    rw [if_neg (by decide)]; omega
  obtain ⟨a1, a2, a3⟩ := app_at (jL (horN l : Int)) l.length z h8 hn
  have h63 := horN_63 l (fun d hd => (h d hd).2) h8
  refine ⟨f_X5_append z (jL (horN l : Int)) l.length, ?_, a1, fun i hi => ?_, fun t c e ht => ?_, a3 hz⟩
  · unfold f_X7_put
    rw [hc, if_neg (by omega), if_pos hn, ← a1, ← jI_n]
    rfl
  · have e := a2 i
    rw [if_neg (by omega)] at e
    exact e
  · have e2 := a2 (gPd_n z + t)
    rw [if_pos ⟨by omega, by omega⟩, show gPd_n z + l.length - 1 - (gPd_n z + t) = l.length - 1 - t by omega, sgM_k _ h63 (by omega), horN_at l _ c (fun d hd => (h d hd).2) e] at e2
    exact e2
