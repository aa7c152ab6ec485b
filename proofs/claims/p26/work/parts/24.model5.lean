/-! pure functions and their rows; out of whole's part of the same name -/
theorem zsw_out {x : Int32} {n : Nat} (hn : n < 2 ^ 31) (h : ∀ k, k ≤ n → ¬ x = nI k) : x.toInt < (0 : Int) ∨ (n : Int) < x.toInt := by
  by_cases h0 : x < 0
  · exact Or.inl (by rw [Int32.lt_iff_toInt_lt] at h0; exact h0)
  · obtain ⟨j, hj, rfl⟩ := nI_of h0
    refine Or.inr ?_
    rw [nI_toInt hj]
    have := h j
    by_cases q : j ≤ n
    · exact absurd rfl (h j q)
    · omega
theorem zin_w {x : Int32} {hi : Int64} {N : Nat} (c : ¬ f_X8_in x.toInt64 0 hi = false) (hN : hi.toInt < N) : x = nI x.toNatClampNeg ∧ x.toNatClampNeg < N := by
  have h := f_in_int (zbt c)
  have h1 : (0 : Int64).toInt = 0 := by decide
  rw [h1] at h
  obtain ⟨j, hj, rfl⟩ := nI_of (x := x) (by rw [Int32.lt_iff_toInt_lt]; have : (0 : Int32).toInt = 0 := by decide
                                            omega)
  rw [nI_clamp hj]
  rw [nI_toInt hj] at h
  exact ⟨rfl, by omega⟩
theorem zord {S : zMs} {kd : Nat} {x : Int32} (hc : zCk S kd) (c : ¬ f_X8_in x.toInt64 0 (gMs_at S kd - 1) = false) : x = nI x.toNatClampNeg ∧ x.toNatClampNeg < zcn S kd := by
  have h2 := hc.2
  have c1 := c
  rw [hc.1] at c1
  rcases Nat.eq_zero_or_pos (zcn S kd) with q | q
  · rw [q] at c1
    have := f_in_int (zbt c1)
    have h3 : (lN 0 - 1).toInt = -1 := by decide
    have h1 : (0 : Int64).toInt = 0 := by decide
    omega
  · rw [show lN (zcn S kd) - 1 = lN (zcn S kd - 1) from lN_sub (b := 1) q] at c1
    exact zin_w c1 (by rw [lN_toInt (by omega)]; omega)

noncomputable def f_X8_tryEndDay (S : zMs) (b : Bool) : Int32 × zMs := zsl (
  (((((gMs_at (f_X8_endIt (f_X8_keepIf S b))) 10)).toInt32), (f_X8_endIt (f_X8_keepIf S b)))
  )
noncomputable def f_X8_endDay (S : zMs) : Int32 × zMs :=
  (((f_X8_tryEndDay S true).1), ((f_X8_tryEndDay S true).2))
noncomputable def f_X8_tryQuote (S : zMs) (q : Int32) (b : Bool) : Int32 × zMs := zsl (
  if (f_X8_in (q.toInt64) 1 10000) = false then
    ((-2), S)
  else
    (((((gMs_at (f_X8_keepIf S b)) 7)).toInt32), (sMs_at (f_X8_keepIf S b) (vp_updL (gMs_at (f_X8_keepIf S b)) 7 (q.toInt64))))
  )
noncomputable def f_X8_quote (S : zMs) (q : Int32) : Int32 × zMs :=
  (((f_X8_tryQuote S q true).1), ((f_X8_tryQuote S q true).2))
noncomputable def f_X8_trade (S : zMs) (lots : Int32) : Int32 × zMs := zsl (
  if lots = 0 then
    ((-2), S)
  else
    if (f_X8_in (lots.toInt64) (-1000) 1000) = false then
      ((-2), S)
    else
      if (((gMs_at S) 6) + (lots.toInt64)) ≤ 1000 then
        let x42_0 : Int64 := (if lots ≤ 0 then ((((-lots)).toInt64) * (((gMs_at S) 7) - (f_X8_cost S))) else ((((-lots)).toInt64) * (((gMs_at S) 7) + (f_X8_cost S))))
        if (((gMs_at S) 6) + (lots.toInt64)) < 0 then
          ((-5), S)
        else
          if lots ≤ 0 then
            (((((vp_updL (vp_updL (gMs_at (f_X8_keep S)) 6 (((gMs_at (f_X8_keep S)) 6) + (lots.toInt64))) 5 (((vp_updL (gMs_at (f_X8_keep S)) 6 (((gMs_at (f_X8_keep S)) 6) + (lots.toInt64))) 5) + x42_0)) 6)).toInt32), (sMs_at (f_X8_keep S) (vp_updL (vp_updL (gMs_at (f_X8_keep S)) 6 (((gMs_at (f_X8_keep S)) 6) + (lots.toInt64))) 5 (((vp_updL (gMs_at (f_X8_keep S)) 6 (((gMs_at (f_X8_keep S)) 6) + (lots.toInt64))) 5) + x42_0))))
          else
            if 0 ≤ ((((gMs_at S) 5) - ((gMs_at S) 8)) + x42_0) then
              (((((vp_updL (vp_updL (gMs_at (f_X8_keep S)) 6 (((gMs_at (f_X8_keep S)) 6) + (lots.toInt64))) 5 (((vp_updL (gMs_at (f_X8_keep S)) 6 (((gMs_at (f_X8_keep S)) 6) + (lots.toInt64))) 5) + x42_0)) 6)).toInt32), (sMs_at (f_X8_keep S) (vp_updL (vp_updL (gMs_at (f_X8_keep S)) 6 (((gMs_at (f_X8_keep S)) 6) + (lots.toInt64))) 5 (((vp_updL (gMs_at (f_X8_keep S)) 6 (((gMs_at (f_X8_keep S)) 6) + (lots.toInt64))) 5) + x42_0))))
            else
              ((-5), S)
      else
        ((-4), S)
  )
noncomputable def f_X8_tryIncome (S : zMs) (a : Int32) (b : Bool) : Int32 × zMs := zsl (
  if (f_X8_in (a.toInt64) 1 1000000) = false then
    ((-2), S)
  else
    if (f_X8_issue S) = 0 then
      ((-5), S)
    else
      (((((vp_updL (vp_updL (gMs_at (f_X8_keepIf S b)) 5 (((gMs_at (f_X8_keepIf S b)) 5) + (a.toInt64))) 8 (((vp_updL (gMs_at (f_X8_keepIf S b)) 5 (((gMs_at (f_X8_keepIf S b)) 5) + (a.toInt64))) 8) + (a.toInt64))) 8)).toInt32), (sMs_at (f_X8_keepIf S b) (vp_updL (vp_updL (gMs_at (f_X8_keepIf S b)) 5 (((gMs_at (f_X8_keepIf S b)) 5) + (a.toInt64))) 8 (((vp_updL (gMs_at (f_X8_keepIf S b)) 5 (((gMs_at (f_X8_keepIf S b)) 5) + (a.toInt64))) 8) + (a.toInt64)))))
  )
noncomputable def f_X8_income (S : zMs) (a : Int32) : Int32 × zMs :=
  (((f_X8_tryIncome S a true).1), ((f_X8_tryIncome S a true).2))
noncomputable def L_X8_tp1 (S : zMs) (b : Bool) (x15_0 : Int64) : Nat → (zMs) → (Int64) → (Nat) → (zMs) × (Int64) × (Nat)
  | 0, X, al, j => (X, al, j)
  | fuel + 1, X, al, j =>
    if 6 ≤ j then
      (X, al, j)
    else
      let x101_0 : Int64 := (if (((f_X8_units X j) * (f_X8_incomeOfUnit (f_X8_keepIf S b))) / 1000) ≤ (((f_X8_of X j 1) * x15_0) / 1000) then (((f_X8_units X j) * (f_X8_incomeOfUnit (f_X8_keepIf S b))) / 1000) else (((f_X8_of X j 1) * x15_0) / 1000))
      L_X8_tp1 S b x15_0 fuel (f_X8_add (f_X8_add X j 4 (((f_X8_units X j) * (f_X8_incomeOfUnit (f_X8_keepIf S b))) / 1000)) j 5 x101_0) (al + (((f_X8_units X j) * (f_X8_incomeOfUnit (f_X8_keepIf S b))) / 1000)) (j + 1)
theorem L_X8_tp1_s (S : zMs) (b : Bool) (x15_0 : Int64) (fuel : Nat) (X : zMs) (al : Int64) (j : Nat) : L_X8_tp1 S b x15_0 (fuel + 1) X al j = (
    if 6 ≤ j then
      (X, al, j)
    else
      let x101_0 : Int64 := (if (((f_X8_units X j) * (f_X8_incomeOfUnit (f_X8_keepIf S b))) / 1000) ≤ (((f_X8_of X j 1) * x15_0) / 1000) then (((f_X8_units X j) * (f_X8_incomeOfUnit (f_X8_keepIf S b))) / 1000) else (((f_X8_of X j 1) * x15_0) / 1000))
      L_X8_tp1 S b x15_0 fuel (f_X8_add (f_X8_add X j 4 (((f_X8_units X j) * (f_X8_incomeOfUnit (f_X8_keepIf S b))) / 1000)) j 5 x101_0) (al + (((f_X8_units X j) * (f_X8_incomeOfUnit (f_X8_keepIf S b))) / 1000)) (j + 1)
  ) := rfl
noncomputable def L_X8_tp2  : Nat → (zMs) → (Nat) → (zMs) × (Nat)
  | 0, X, j => (X, j)
  | fuel + 1, X, j =>
    if 6 ≤ j then
      (X, j)
    else
      L_X8_tp2  fuel (f_X8_add (f_X8_add X j 0 (f_X8_of X j 1)) j 1 (-(f_X8_of X j 1))) (j + 1)
theorem L_X8_tp2_s  (fuel : Nat) (X : zMs) (j : Nat) : L_X8_tp2  (fuel + 1) X j = (
    if 6 ≤ j then
      (X, j)
    else
      L_X8_tp2  fuel (f_X8_add (f_X8_add X j 0 (f_X8_of X j 1)) j 1 (-(f_X8_of X j 1))) (j + 1)
  ) := rfl
noncomputable def f_X8_tryPay (S : zMs) (b : Bool) : Int32 × zMs := zsl (
  let x15_0 : Int64 := (if (f_X8_allNew (f_X8_keepIf S b)) = 0 then 0 else ((1000 * ((gMs_at (f_X8_keepIf S b)) 9)) / (f_X8_allNew (f_X8_keepIf S b))))
  let X1 : zMs := ((L_X8_tp1 S b x15_0 (6 - 0 + 1) (f_X8_keepIf S b) 0 0).1)
  let al1 : Int64 := ((L_X8_tp1 S b x15_0 (6 - 0 + 1) (f_X8_keepIf S b) 0 0).2.1)
  let j1 : Nat := ((L_X8_tp1 S b x15_0 (6 - 0 + 1) (f_X8_keepIf S b) 0 0).2.2)
  let X2 : zMs := ((L_X8_tp2  (6 - 0 + 1) X1 0).1)
  let j2 : Nat := ((L_X8_tp2  (6 - 0 + 1) X1 0).2)
  (((al1).toInt32), (sMs_at X2 (vp_updL (vp_updL (vp_updL (gMs_at X2) 5 (((gMs_at X2) 5) - al1)) 8 (((vp_updL (gMs_at X2) 5 (((gMs_at X2) 5) - al1)) 8) - al1)) 9 0)))
  )
noncomputable def f_X8_pay (S : zMs) : Int32 × zMs :=
  (((f_X8_tryPay S true).1), ((f_X8_tryPay S true).2))
noncomputable def f_X8_ofHolder (S : zMs) (h : Int32) (wh : Int32) : Int32 :=
  if (f_X8_isHolder h) = false then
    (-1)
  else
    if wh = nI 0 then
      (((f_X8_units S h.toNatClampNeg)).toInt32)
    else
      if wh = nI 1 then
        (((f_X8_of S h.toNatClampNeg 0)).toInt32)
      else
        if wh = nI 2 then
          (((f_X8_of S h.toNatClampNeg 1)).toInt32)
        else
          if wh = nI 3 then
            (((f_X8_bound S h.toNatClampNeg)).toInt32)
          else
            if wh = nI 4 then
              (((f_X8_of S h.toNatClampNeg 2)).toInt32)
            else
              if wh = nI 5 then
                (((f_X8_of S h.toNatClampNeg 3)).toInt32)
              else
                if wh = nI 6 then
                  (((f_X8_of S h.toNatClampNeg 4)).toInt32)
                else
                  if wh = nI 7 then
                    (((f_X8_of S h.toNatClampNeg 5)).toInt32)
                  else
                    if wh = nI 8 then
                      (((f_X8_of S h.toNatClampNeg 6)).toInt32)
                    else
                      (-2)
noncomputable def f_X8_count (S : zMs) (wh : Int32) : Int32 :=
  if wh = nI 0 then
    ((((gMs_at S) 5)).toInt32)
  else
    if wh = nI 1 then
      ((((gMs_at S) 6)).toInt32)
    else
      if wh = nI 2 then
        ((((gMs_at S) 7)).toInt32)
      else
        if wh = nI 3 then
          (((f_X8_value S)).toInt32)
        else
          if wh = nI 4 then
            (((f_X8_issue S)).toInt32)
          else
            if wh = nI 5 then
              (((f_X8_allNew S)).toInt32)
            else
              if wh = nI 6 then
                ((((gMs_at S) 8)).toInt32)
              else
                if wh = nI 7 then
                  ((((gMs_at S) 9)).toInt32)
                else
                  if wh = nI 8 then
                    ((((gMs_at S) 10)).toInt32)
                  else
                    if wh = nI 9 then
                      ((((gMs_at S) 61)).toInt32)
                    else
                      if wh = nI 10 then
                        ((((gMs_at S) 122)).toInt32)
                      else
                        if wh = nI 11 then
                          (((f_X8_sumOf S 122 (((gMs_at S) 10) + 1))).toInt32)
                        else
                          if wh = nI 12 then
                            ((((gMs_at S) 0)).toInt32)
                          else
                            if wh = nI 13 then
                              ((((gMs_at S) 1)).toInt32)
                            else
                              if wh = nI 14 then
                                ((((gMs_at S) 2)).toInt32)
                              else
                                if wh = nI 15 then
                                  ((((gMs_at S) 3)).toInt32)
                                else
                                  if wh = nI 16 then
                                    ((((gMs_at S) 4)).toInt32)
                                  else
                                    if wh = nI 17 then
                                      (nI (gMs_pdm S))
                                    else
                                      if wh = nI 18 then
                                        (nI (gMs_pm S))
                                      else
                                        (-2)
noncomputable def f_X8_order (S : zMs) (kd : Int32) (o : Int32) (wh : Int32) : Int32 :=
  if (f_X8_in (kd.toInt64) 0 1) = false then
    (-2)
  else
    if (f_X8_in (wh.toInt64) 0 2) = false then
      (-2)
    else
      let x26_0 : Nat := (if kd = 0 then 61 else 122)
      let x53_0 : Int32 := (if (f_X8_in (o.toInt64) 0 (((gMs_at S) x26_0) - 1)) = false then (-1) else (((f_X8_ofOrder S x26_0 o.toNatClampNeg wh.toNatClampNeg)).toInt32))
      x53_0
noncomputable def f_X8_lastDay (S : zMs) (wh : Int32) : Int32 :=
  if (f_X8_in (wh.toInt64) 0 5) = false then
    (-2)
  else
    let x23_0 : Int32 := (if ((gMs_at S) 18) = 0 then (-6) else ((((gMs_at S) (12 + wh.toNatClampNeg))).toInt32))
    x23_0
noncomputable def f_X8_price (S : zMs) (wh : Int32) : Int64 :=
  if wh = nI 0 then
    (f_X8_middle S)
  else
    if wh = nI 1 then
      (f_X8_priceNow S)
    else
      if wh = nI 2 then
        ((gMs_at S) 11)
      else
        if wh = nI 3 then
          (f_X8_incomeOfUnit S)
        else
          (-2)
