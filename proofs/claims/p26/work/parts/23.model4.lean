/-! pure functions and their rows; out of whole's part of the same name -/
theorem L_sell_hi (S : zMs) (amount : Int64) : ∀ (n : Nat) (A : Nat → Int64) (i : Nat), 19 ≤ i → L_X8_sell S amount n A i = A i
  | 0, A, i, h => rfl
  | n + 1, A, i, h => by
    rw [L_X8_sell_s]
    repeat' split
    all_goals first | rfl | skip
    all_goals (rw [L_sell_hi S amount n _ i h, vp_updL_n _ _ (by omega), vp_updL_n _ _ (by omega), vp_updL_n _ _ (by omega)])
theorem f_sell_hi (S : zMs) (amount : Int64) {i : Nat} (h : 19 ≤ i) : gMs_at (f_X8_sellFor S amount) i = gMs_at S i := by
  unfold f_X8_sellFor; rw [zsl_e]; exact L_sell_hi S amount _ _ i h
theorem f_sell_sh (S : zMs) (amount : Int64) : gMs_sh (f_X8_sellFor S amount) = gMs_sh S := by
  unfold f_X8_sellFor; rw [zsl_e]
theorem zcn_eq {S : zMs} {kd n : Nat} (h : gMs_at S kd = lN n) (hn : n ≤ 20) : zCk S kd ∧ zcn S kd = n := by
  have e : zcn S kd = n := by
    unfold zcn
    rw [h, lN_toInt (by omega)]
    rfl
  exact ⟨⟨by rw [e]; exact h, by omega⟩, e⟩
theorem zCk_take {S : zMs} {kd o : Nat} (hk : kd ≤ 122) (hc : zCk S kd) (ho : o < zcn S kd) : zCk (f_X8_takeOut S kd o) kd ∧ zcn (f_X8_takeOut S kd o) kd = zcn S kd - 1 := by
  have h2 := hc.2
  refine zcn_eq ?_ (by omega)
  show va_cpy (vp_updL (gMs_at S) kd (gMs_at S kd - 1)) (vp_updL (gMs_at S) kd (gMs_at S kd - 1)) (kd + 1 + 3 * o + 3) (kd + 1 + 3 * o) (3 * (zcn S kd - 1 - o)) kd = _
  rw [zcpy_out _ _ (by omega), vp_updL_s, hc.1]
  exact lN_sub (b := 1) (by omega)
theorem zl_le0 {n : Nat} (h : n < 2 ^ 31) : lN n ≤ 0 ↔ n = 0 := by
  rw [show (0 : Int64) = lN 0 from rfl, lN_le h (by decide)]; omega
/-- the holder of an order, as a number -/
noncomputable def zho (X : zMs) (k : Nat) : Nat := (f_X8_ofOrder X 122 k 0).toInt.toNat
noncomputable def zhb (X : zMs) : Nat := (f_X8_ofOrder X 61 0 0).toInt.toNat
/-- what a step of the paying rests on -/
def okp_pay (S X : zMs) (go : Bool) (k : Nat) : Prop := zCk X 122 ∧ zcn X 122 = zcn S 122 ∧ (k < zcn S 122 → go = true → ∀ Y : zMs, gMs_sh Y = gMs_sh X → (∀ i, 19 ≤ i → gMs_at Y i = gMs_at X i) → 0 < gMs_sh Y k →
  f_X8_ofOrder Y 122 k 0 = lN (zho X k) ∧ zho X k < 6 ∧ (0 < gMs_sh Y k - (if gMs_sh Y k ≤ f_X8_of Y (zho X k) 0 then gMs_sh Y k else f_X8_of Y (zho X k) 0) → ¬ f_X8_allNew Y = 0))

noncomputable def L_X8_pay1 (price : Int64) (inc : Int64) : Nat → (zMs) → (Bool) → (Nat) → (zMs) × (Bool) × (Nat)
  | 0, X, go, k => (X, go, k)
  | fuel + 1, X, go, k =>
    if (zcn X 122) ≤ k then
      (X, go, k)
    else
      if go = false then
        (X, go, k)
      else
        let x48_0 : Bool := (if ((gMs_sh X) k) ≤ 0 then go else (if ((gMs_at (f_X8_sellFor X ((((gMs_sh X) k) * price) / 1000))) 5) < ((((gMs_sh X) k) * price) / 1000) then false else true))
        let x48_1 : zMs := (if ((gMs_sh X) k) ≤ 0 then X else (f_X8_sellFor X ((((gMs_sh X) k) * price) / 1000)))
        let x85_0 : zMs := (if ((gMs_sh x48_1) k) ≤ 0 then x48_1 else (if x48_0 = false then x48_1 else (sMs_at (f_X8_add (f_X8_goUnits (sMs_at x48_1 (vp_updL (gMs_at x48_1) 5 (((gMs_at x48_1) 5) - ((((gMs_sh X) k) * price) / 1000)))) (zho X k) ((gMs_sh x48_1) k) inc) (zho X k) 3 ((((gMs_sh X) k) * price) / 1000)) (vp_updL (vp_updL (gMs_at (f_X8_add (f_X8_goUnits (sMs_at x48_1 (vp_updL (gMs_at x48_1) 5 (((gMs_at x48_1) 5) - ((((gMs_sh X) k) * price) / 1000)))) (zho X k) ((gMs_sh x48_1) k) inc) (zho X k) 3 ((((gMs_sh X) k) * price) / 1000))) (123 + (3 * k) + 1) (((gMs_at (f_X8_add (f_X8_goUnits (sMs_at x48_1 (vp_updL (gMs_at x48_1) 5 (((gMs_at x48_1) 5) - ((((gMs_sh X) k) * price) / 1000)))) (zho X k) ((gMs_sh x48_1) k) inc) (zho X k) 3 ((((gMs_sh X) k) * price) / 1000))) (123 + (3 * k) + 1)) - ((gMs_sh (f_X8_add (f_X8_goUnits (sMs_at x48_1 (vp_updL (gMs_at x48_1) 5 (((gMs_at x48_1) 5) - ((((gMs_sh X) k) * price) / 1000)))) (zho X k) ((gMs_sh x48_1) k) inc) (zho X k) 3 ((((gMs_sh X) k) * price) / 1000))) k))) 13 (((vp_updL (gMs_at (f_X8_add (f_X8_goUnits (sMs_at x48_1 (vp_updL (gMs_at x48_1) 5 (((gMs_at x48_1) 5) - ((((gMs_sh X) k) * price) / 1000)))) (zho X k) ((gMs_sh x48_1) k) inc) (zho X k) 3 ((((gMs_sh X) k) * price) / 1000))) (123 + (3 * k) + 1) (((gMs_at (f_X8_add (f_X8_goUnits (sMs_at x48_1 (vp_updL (gMs_at x48_1) 5 (((gMs_at x48_1) 5) - ((((gMs_sh X) k) * price) / 1000)))) (zho X k) ((gMs_sh x48_1) k) inc) (zho X k) 3 ((((gMs_sh X) k) * price) / 1000))) (123 + (3 * k) + 1)) - ((gMs_sh (f_X8_add (f_X8_goUnits (sMs_at x48_1 (vp_updL (gMs_at x48_1) 5 (((gMs_at x48_1) 5) - ((((gMs_sh X) k) * price) / 1000)))) (zho X k) ((gMs_sh x48_1) k) inc) (zho X k) 3 ((((gMs_sh X) k) * price) / 1000))) k))) 13) + ((gMs_sh (f_X8_add (f_X8_goUnits (sMs_at x48_1 (vp_updL (gMs_at x48_1) 5 (((gMs_at x48_1) 5) - ((((gMs_sh X) k) * price) / 1000)))) (zho X k) ((gMs_sh x48_1) k) inc) (zho X k) 3 ((((gMs_sh X) k) * price) / 1000))) k))))))
        L_X8_pay1 price inc fuel x85_0 x48_0 (k + 1)
theorem L_X8_pay1_s (price : Int64) (inc : Int64) (fuel : Nat) (X : zMs) (go : Bool) (k : Nat) : L_X8_pay1 price inc (fuel + 1) X go k = (
    if (zcn X 122) ≤ k then
      (X, go, k)
    else
      if go = false then
        (X, go, k)
      else
        let x48_0 : Bool := (if ((gMs_sh X) k) ≤ 0 then go else (if ((gMs_at (f_X8_sellFor X ((((gMs_sh X) k) * price) / 1000))) 5) < ((((gMs_sh X) k) * price) / 1000) then false else true))
        let x48_1 : zMs := (if ((gMs_sh X) k) ≤ 0 then X else (f_X8_sellFor X ((((gMs_sh X) k) * price) / 1000)))
        let x85_0 : zMs := (if ((gMs_sh x48_1) k) ≤ 0 then x48_1 else (if x48_0 = false then x48_1 else (sMs_at (f_X8_add (f_X8_goUnits (sMs_at x48_1 (vp_updL (gMs_at x48_1) 5 (((gMs_at x48_1) 5) - ((((gMs_sh X) k) * price) / 1000)))) (zho X k) ((gMs_sh x48_1) k) inc) (zho X k) 3 ((((gMs_sh X) k) * price) / 1000)) (vp_updL (vp_updL (gMs_at (f_X8_add (f_X8_goUnits (sMs_at x48_1 (vp_updL (gMs_at x48_1) 5 (((gMs_at x48_1) 5) - ((((gMs_sh X) k) * price) / 1000)))) (zho X k) ((gMs_sh x48_1) k) inc) (zho X k) 3 ((((gMs_sh X) k) * price) / 1000))) (123 + (3 * k) + 1) (((gMs_at (f_X8_add (f_X8_goUnits (sMs_at x48_1 (vp_updL (gMs_at x48_1) 5 (((gMs_at x48_1) 5) - ((((gMs_sh X) k) * price) / 1000)))) (zho X k) ((gMs_sh x48_1) k) inc) (zho X k) 3 ((((gMs_sh X) k) * price) / 1000))) (123 + (3 * k) + 1)) - ((gMs_sh (f_X8_add (f_X8_goUnits (sMs_at x48_1 (vp_updL (gMs_at x48_1) 5 (((gMs_at x48_1) 5) - ((((gMs_sh X) k) * price) / 1000)))) (zho X k) ((gMs_sh x48_1) k) inc) (zho X k) 3 ((((gMs_sh X) k) * price) / 1000))) k))) 13 (((vp_updL (gMs_at (f_X8_add (f_X8_goUnits (sMs_at x48_1 (vp_updL (gMs_at x48_1) 5 (((gMs_at x48_1) 5) - ((((gMs_sh X) k) * price) / 1000)))) (zho X k) ((gMs_sh x48_1) k) inc) (zho X k) 3 ((((gMs_sh X) k) * price) / 1000))) (123 + (3 * k) + 1) (((gMs_at (f_X8_add (f_X8_goUnits (sMs_at x48_1 (vp_updL (gMs_at x48_1) 5 (((gMs_at x48_1) 5) - ((((gMs_sh X) k) * price) / 1000)))) (zho X k) ((gMs_sh x48_1) k) inc) (zho X k) 3 ((((gMs_sh X) k) * price) / 1000))) (123 + (3 * k) + 1)) - ((gMs_sh (f_X8_add (f_X8_goUnits (sMs_at x48_1 (vp_updL (gMs_at x48_1) 5 (((gMs_at x48_1) 5) - ((((gMs_sh X) k) * price) / 1000)))) (zho X k) ((gMs_sh x48_1) k) inc) (zho X k) 3 ((((gMs_sh X) k) * price) / 1000))) k))) 13) + ((gMs_sh (f_X8_add (f_X8_goUnits (sMs_at x48_1 (vp_updL (gMs_at x48_1) 5 (((gMs_at x48_1) 5) - ((((gMs_sh X) k) * price) / 1000)))) (zho X k) ((gMs_sh x48_1) k) inc) (zho X k) 3 ((((gMs_sh X) k) * price) / 1000))) k))))))
        L_X8_pay1 price inc fuel x85_0 x48_0 (k + 1)
  ) := rfl
noncomputable def L_X8_pay2  : Nat → (zMs) → (Nat) → (zMs) × (Nat)
  | 0, X, j => (X, j)
  | fuel + 1, X, j =>
    if j = 0 then
      (X, j)
    else
      let x214_0 : zMs := (if (f_X8_ofOrder X 122 (j - 1) 1) = 0 then (f_X8_takeOut X 122 (j - 1)) else X)
      L_X8_pay2  fuel x214_0 (j - 1)
theorem L_X8_pay2_s  (fuel : Nat) (X : zMs) (j : Nat) : L_X8_pay2  (fuel + 1) X j = (
    if j = 0 then
      (X, j)
    else
      let x214_0 : zMs := (if (f_X8_ofOrder X 122 (j - 1) 1) = 0 then (f_X8_takeOut X 122 (j - 1)) else X)
      L_X8_pay2  fuel x214_0 (j - 1)
  ) := rfl
noncomputable def f_X8_payThem (S : zMs) (price : Int64) (inc : Int64) : zMs := zsl (
  let X1 : zMs := ((L_X8_pay1 price inc (zcn S 122 - 0 + 1) S true 0).1)
  let go1 : Bool := ((L_X8_pay1 price inc (zcn S 122 - 0 + 1) S true 0).2.1)
  let k1 : Nat := ((L_X8_pay1 price inc (zcn S 122 - 0 + 1) S true 0).2.2)
  let X2 : zMs := ((L_X8_pay2  ((zcn X1 122) + 1) X1 (zcn X1 122)).1)
  let j2 : Nat := ((L_X8_pay2  ((zcn X1 122) + 1) X1 (zcn X1 122)).2)
  X2
  )
noncomputable def f_X8_buyFor (S : zMs) (h : Nat) (amount : Int64) (price : Int64) (inc : Int64) : zMs := zsl (
  let x3_0 : Int64 := (if price = 0 then 0 else ((1000 * amount) / price))
  if x3_0 = 0 then
    (sMs_at S (vp_updL (gMs_at S) 17 (((gMs_at S) 17) + amount)))
  else
    if ((f_X8_issue S) + x3_0) ≤ 1000000000 then
      (sMs_at (f_X8_add (f_X8_makeUnits (sMs_at S (vp_updL (gMs_at S) 5 (((gMs_at S) 5) + amount))) h x3_0 inc) h 2 amount) (vp_updL (gMs_at (f_X8_add (f_X8_makeUnits (sMs_at S (vp_updL (gMs_at S) 5 (((gMs_at S) 5) + amount))) h x3_0 inc) h 2 amount)) 12 (((gMs_at (f_X8_add (f_X8_makeUnits (sMs_at S (vp_updL (gMs_at S) 5 (((gMs_at S) 5) + amount))) h x3_0 inc) h 2 amount)) 12) + x3_0)))
    else
      (sMs_at S (vp_updL (gMs_at S) 17 (((gMs_at S) 17) + amount)))
  )
theorem f_add_at (S : zMs) {h w i : Nat} {x : Int64} (hi : i ≠ 19 + 7 * h + w) : gMs_at (f_X8_add S h w x) i = gMs_at S i := vp_updL_n _ _ hi
theorem f_hold_at (S : zMs) {i : Nat} (hi : i ≠ 8) : gMs_at (f_X8_holdPool S) i = gMs_at S i := vp_updL_n _ _ hi
theorem f_make_at (S : zMs) {h i : Nat} {many inc : Int64} (hh : h < 6) (hi : 61 ≤ i) : gMs_at (f_X8_makeUnits S h many inc) i = gMs_at S i := by
  unfold f_X8_makeUnits
  rw [zsl_e, f_hold_at _ (by omega)]
  show vp_updL (vp_updL (gMs_at (f_X8_add S h 1 many)) 8 _) 9 _ i = _
  rw [vp_updL_n _ _ (by omega), vp_updL_n _ _ (by omega), f_add_at _ (by omega)]
theorem f_buy_at (S : zMs) {h i : Nat} {amount price inc : Int64} (hh : h < 6) (hi : 61 ≤ i) : gMs_at (f_X8_buyFor S h amount price inc) i = gMs_at S i := by
  have key : ∀ q : Int64, gMs_at (sMs_at (f_X8_add (f_X8_makeUnits (sMs_at S (vp_updL (gMs_at S) 5 (gMs_at S 5 + amount))) h q inc) h 2 amount) (vp_updL (gMs_at (f_X8_add (f_X8_makeUnits (sMs_at S (vp_updL (gMs_at S) 5 (gMs_at S 5 + amount))) h q inc) h 2 amount)) 12 (gMs_at (f_X8_add (f_X8_makeUnits (sMs_at S (vp_updL (gMs_at S) 5 (gMs_at S 5 + amount))) h q inc) h 2 amount) 12 + q))) i = gMs_at S i := fun q => by
    refine (vp_updL_n _ _ (by omega)).trans ((f_add_at _ (by omega)).trans ((f_make_at _ hh hi).trans (vp_updL_n _ _ (by omega))))
  have key2 : gMs_at (sMs_at S (vp_updL (gMs_at S) 17 (gMs_at S 17 + amount))) i = gMs_at S i := vp_updL_n _ _ (by omega)
  unfold f_X8_buyFor
  rw [zsl_e]
  dsimp only
  repeat' split
  all_goals first | exact key2 | exact key _
/-- what a step of the buying rests on -/
def okp_buy (X : zMs) : Prop := zCk X 61 ∧ (¬ zcn X 61 = 0 → f_X8_ofOrder X 61 0 2 ≤ gMs_at X 10 → f_X8_ofOrder X 61 0 0 = lN (zhb X) ∧ zhb X < 6)
noncomputable def f_X8_clear (S : zMs) : zMs := sMs_at S (vp_updL (vp_updL (vp_updL (vp_updL (vp_updL (vp_updL (gMs_at S) 12 0) 13 0) 14 0) 15 0) 16 0) 17 0)
theorem zcn_k {S T : zMs} {kd : Nat} (h : gMs_at T kd = gMs_at S kd) : zcn T kd = zcn S kd := by unfold zcn; rw [h]
theorem zCk_k {S T : zMs} {kd : Nat} (h : gMs_at T kd = gMs_at S kd) (hc : zCk S kd) : zCk T kd := by
  unfold zCk at hc ⊢
  rw [zcn_k h, h]
  exact hc
theorem zbuy_dec {X : zMs} {h : Nat} {a p i : Int64} (hh : h < 6) (hc : zCk X 61) (h0 : ¬ zcn X 61 = 0) : zcn (f_X8_takeOut (f_X8_buyFor X h a p i) 61 0) 61 = zcn X 61 - 1 := by
  have e := f_buy_at X (amount := a) (price := p) (inc := i) hh (show 61 ≤ 61 by decide)
  rw [(zCk_take (by decide) (zCk_k e hc) (by rw [zcn_k e]; omega)).2, zcn_k e]

noncomputable def L_X8_buys (S : zMs) : Nat → (zMs) → (zMs)
  | 0, X => X
  | fuel + 1, X =>
    if zcn X 61 = 0 then
      X
    else
      if ((gMs_at X) 10) < (f_X8_ofOrder X 61 0 2) then
        X
      else
        L_X8_buys S fuel (f_X8_takeOut (f_X8_buyFor X (zhb X) (f_X8_ofOrder X 61 0 1) (f_X8_priceNow S) (f_X8_incomeOfUnit S)) 61 0)
theorem L_X8_buys_s (S : zMs) (fuel : Nat) (X : zMs) : L_X8_buys S (fuel + 1) X = (
    if zcn X 61 = 0 then
      X
    else
      if ((gMs_at X) 10) < (f_X8_ofOrder X 61 0 2) then
        X
      else
        L_X8_buys S fuel (f_X8_takeOut (f_X8_buyFor X (zhb X) (f_X8_ofOrder X 61 0 1) (f_X8_priceNow S) (f_X8_incomeOfUnit S)) 61 0)
  ) := rfl
/-- what a day's end rests on -/
def ok_endIt (S : zMs) : Prop := zCk S 61 ∧ zCk S 122 ∧ ok_share S ∧ 0 ≤ f_X8_mayLeave S ∧
  (∃ P : zMs → Bool → Nat → Prop, P (f_X8_clear (f_X8_shareOut S (f_X8_mayLeave S))) true 0 ∧ ∀ X go k, P X go k → okp_pay (f_X8_clear (f_X8_shareOut S (f_X8_mayLeave S))) X go k ∧ P (L_X8_pay1 (f_X8_priceNow S) (f_X8_incomeOfUnit S) (0 + 1) X go k).1 (L_X8_pay1 (f_X8_priceNow S) (f_X8_incomeOfUnit S) (0 + 1) X go k).2.1 (L_X8_pay1 (f_X8_priceNow S) (f_X8_incomeOfUnit S) (0 + 1) X go k).2.2) ∧
  zCk (f_X8_clear (f_X8_shareOut S (f_X8_mayLeave S))) 122 ∧
  (∃ Q : zMs → Prop, Q (f_X8_payThem (f_X8_clear (f_X8_shareOut S (f_X8_mayLeave S))) (f_X8_priceNow S) (f_X8_incomeOfUnit S)) ∧ ∀ X, Q X → okp_buy X ∧ Q (L_X8_buys S (0 + 1) X))

noncomputable def f_X8_endIt (S : zMs) : zMs := zsl (
  let X3 : zMs := (L_X8_buys S (zcn (f_X8_payThem (sMs_at (f_X8_shareOut S (f_X8_mayLeave S)) (vp_updL (vp_updL (vp_updL (vp_updL (vp_updL (vp_updL (gMs_at (f_X8_shareOut S (f_X8_mayLeave S))) 12 0) 13 0) 14 0) 15 0) 16 0) 17 0)) (f_X8_priceNow S) (f_X8_incomeOfUnit S)) 61 + 1) (f_X8_payThem (sMs_at (f_X8_shareOut S (f_X8_mayLeave S)) (vp_updL (vp_updL (vp_updL (vp_updL (vp_updL (vp_updL (gMs_at (f_X8_shareOut S (f_X8_mayLeave S))) 12 0) 13 0) 14 0) 15 0) 16 0) 17 0)) (f_X8_priceNow S) (f_X8_incomeOfUnit S)))
  (sMs_at X3 (vp_updL (vp_updL (vp_updL (vp_updL (vp_updL (gMs_at X3) 15 (((f_X8_swing S)).toInt64)) 16 ((f_X8_sumOf S 122 ((gMs_at S) 10)) - ((vp_updL (gMs_at X3) 15 (((f_X8_swing S)).toInt64)) 13))) 11 (f_X8_priceNow S)) 18 1) 10 (((vp_updL (vp_updL (vp_updL (vp_updL (gMs_at X3) 15 (((f_X8_swing S)).toInt64)) 16 ((f_X8_sumOf S 122 ((gMs_at S) 10)) - ((vp_updL (gMs_at X3) 15 (((f_X8_swing S)).toInt64)) 13))) 11 (f_X8_priceNow S)) 18 1) 10) + 1)))
  )
