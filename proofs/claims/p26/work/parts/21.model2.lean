/-! pure functions and their rows; out of whole's part of the same name -/
theorem zbt {b : Bool} (h : ¬ b = false) : b = true := by cases b; exact absurd rfl h; rfl
theorem f_in_iff {v lo hi : Int64} : f_X8_in v lo hi = true ↔ lo ≤ v ∧ v ≤ hi := by
  show (if v < lo then false else (if hi < v then false else true)) = true ↔ _
  by_cases h1 : v < lo
  · rw [if_pos h1]
    exact ⟨fun q => (by cases q), fun q => absurd h1 (Int64.not_lt.mpr q.1)⟩
  · rw [if_neg h1]
    by_cases h2 : hi < v
    · rw [if_pos h2]
      exact ⟨fun q => (by cases q), fun q => absurd h2 (Int64.not_lt.mpr q.2)⟩
    · rw [if_neg h2]
      exact ⟨fun _ => ⟨Int64.not_lt.mp h1, Int64.not_lt.mp h2⟩, fun _ => rfl⟩
theorem f_in_int {x : Int32} {lo hi : Int64} (h : f_X8_in x.toInt64 lo hi = true) : lo.toInt ≤ x.toInt ∧ x.toInt ≤ hi.toInt := by
  have := f_in_iff.mp h
  rw [Int64.le_iff_toInt_le, Int64.le_iff_toInt_le, Int32.toInt_toInt64] at this
  exact this
theorem zin_idx {x : Int32} {hi : Int64} {N : Nat} (h : f_X8_in x.toInt64 0 hi = true) (hN : hi.toInt < N) : vp_in x N := vp_in_iff.mpr ⟨(f_in_int h).1, by have := (f_in_int h).2; omega⟩
theorem zh_lt {h : Int32} (c : ¬ f_X8_isHolder h = false) : h.toNatClampNeg < 6 := by
  have c1 : f_X8_in h.toInt64 0 5 = true := by cases hb : f_X8_isHolder h; exact absurd hb c; exact hb
  have := (f_in_int c1).2
  have h5 : (5 : Int64).toInt = 5 := by decide
  rw [h5] at this
  show h.toInt.toNat < 6
  omega
theorem zh_eq {h : Int32} (c : ¬ f_X8_isHolder h = false) : h = nI h.toNatClampNeg := by
  have c1 : f_X8_in h.toInt64 0 5 = true := by cases hb : f_X8_isHolder h; exact absurd hb c; exact hb
  have h0 := (f_in_int c1).1
  have h1 : (0 : Int64).toInt = 0 := by decide
  rw [h1] at h0
  obtain ⟨j, hj, rfl⟩ := nI_of (x := h) (by rw [Int32.lt_iff_toInt_lt]; have : (0 : Int32).toInt = 0 := by decide
                                            omega)
  rw [nI_clamp hj]

noncomputable def f_X8_set (S : zMs) (st : Int32) (v : Int32) : Int32 × zMs := zsl (
  let x1_0 : Nat := (if st = 0 then 23 else (if st = (nI 2) then 100 else (if st = (nI 4) then 50 else 1000)))
  if (f_X8_in (st.toInt64) 0 4) = false then
    ((-2), S)
  else
    if (f_X8_in (v.toInt64) 0 (lN x1_0)) = false then
      ((-2), S)
    else
      (((((gMs_at (f_X8_keep S)) st.toNatClampNeg)).toInt32), (sMs_at (f_X8_keep S) (vp_updL (gMs_at (f_X8_keep S)) st.toNatClampNeg (v.toInt64))))
  )
theorem zcn_at {S T : zMs} {kd : Nat} (h : gMs_at T = gMs_at S) : zcn T kd = zcn S kd := by unfold zcn; rw [h]
theorem zCk_at {S T : zMs} {kd : Nat} (h : gMs_at T = gMs_at S) (hc : zCk S kd) : zCk T kd := by
  unfold zCk at hc ⊢
  rw [zcn_at h, h]
  exact hc
theorem f_keepIf_at (S : zMs) (b : Bool) : gMs_at (f_X8_keepIf S b) = gMs_at S := by
  unfold f_X8_keepIf
  split <;> rfl
theorem zc20 {n : Nat} (h : n ≤ 20) (h2 : ¬ lN n = 20) : n < 20 := by
  rcases Nat.lt_or_eq_of_le h with q | q
  · exact q
  · subst q; exact absurd rfl h2
theorem f_holder_u {h : Int32} : (fun q : f_X8_isHolder h = false => q) = (fun q => q) := rfl

noncomputable def f_X8_tryBuy (S : zMs) (h : Int32) (amount : Int32) (hour : Int32) (b : Bool) : Int32 × zMs := zsl (
  if (f_X8_isHolder h) = false then
    ((-1), S)
  else
    if (f_X8_in (amount.toInt64) 1 1000000) = false then
      ((-2), S)
    else
      if (f_X8_in (hour.toInt64) 0 23) = false then
        ((-2), S)
      else
        if (lN (zcn S 61)) = 20 then
          ((-4), S)
        else
          ((((f_X8_day (f_X8_keepIf S b) hour)).toInt32), (f_X8_putIn (f_X8_keepIf S b) 61 h (amount.toInt64) hour))
  )
noncomputable def f_X8_buy (S : zMs) (h : Int32) (amount : Int32) (hour : Int32) : Int32 × zMs :=
  (((f_X8_tryBuy S h amount hour true).1), ((f_X8_tryBuy S h amount hour true).2))
noncomputable def f_X8_tryLeave (S : zMs) (h : Int32) (units : Int32) (hour : Int32) (b : Bool) : Int32 × zMs := zsl (
  if (f_X8_isHolder h) = false then
    ((-1), S)
  else
    if units < (nI 1) then
      ((-2), S)
    else
      if (f_X8_in (hour.toInt64) 0 23) = false then
        ((-2), S)
      else
        if (lN (zcn S 122)) = 20 then
          ((-4), S)
        else
          if (units.toInt64) ≤ ((f_X8_units S h.toNatClampNeg) - (f_X8_bound S h.toNatClampNeg)) then
            ((((f_X8_day (f_X8_keepIf S b) hour)).toInt32), (f_X8_putIn (f_X8_keepIf S b) 122 h (units.toInt64) hour))
          else
            ((-5), S)
  )
noncomputable def f_X8_leave (S : zMs) (h : Int32) (units : Int32) (hour : Int32) : Int32 × zMs :=
  (((f_X8_tryLeave S h units hour true).1), ((f_X8_tryLeave S h units hour true).2))
/-- what inKind rests on -/
def ok_inKind (S : zMs) (h units : Int32) : Prop := f_X8_isHolder h = true → nI 1 ≤ units → units.toInt64 ≤ f_X8_units S h.toNatClampNeg - f_X8_bound S h.toNatClampNeg → ¬ f_X8_issue S = 0 ∧ (0 < units.toInt64 - (if units.toInt64 ≤ f_X8_of S h.toNatClampNeg 0 then units.toInt64 else f_X8_of S h.toNatClampNeg 0) → ¬ f_X8_allNew S = 0)

noncomputable def f_X8_inKind (S : zMs) (h : Int32) (units : Int32) : Int32 × zMs := zsl (
  if (f_X8_isHolder h) = false then
    ((-1), S)
  else
    if (nI 1) ≤ units then
      if (units.toInt64) ≤ ((f_X8_units S h.toNatClampNeg) - (f_X8_bound S h.toNatClampNeg)) then
        ((((((units.toInt64) * ((gMs_at (f_X8_keep S)) 6)) / (f_X8_issue (f_X8_keep S)))).toInt32), (f_X8_add (f_X8_add (f_X8_holdPool (sMs_at (f_X8_goUnits (f_X8_keep S) h.toNatClampNeg (units.toInt64) (f_X8_incomeOfUnit (f_X8_keep S))) (vp_updL (vp_updL (gMs_at (f_X8_goUnits (f_X8_keep S) h.toNatClampNeg (units.toInt64) (f_X8_incomeOfUnit (f_X8_keep S)))) 6 (((gMs_at (f_X8_goUnits (f_X8_keep S) h.toNatClampNeg (units.toInt64) (f_X8_incomeOfUnit (f_X8_keep S)))) 6) - (((units.toInt64) * ((gMs_at (f_X8_keep S)) 6)) / (f_X8_issue (f_X8_keep S))))) 5 (((vp_updL (gMs_at (f_X8_goUnits (f_X8_keep S) h.toNatClampNeg (units.toInt64) (f_X8_incomeOfUnit (f_X8_keep S)))) 6 (((gMs_at (f_X8_goUnits (f_X8_keep S) h.toNatClampNeg (units.toInt64) (f_X8_incomeOfUnit (f_X8_keep S)))) 6) - (((units.toInt64) * ((gMs_at (f_X8_keep S)) 6)) / (f_X8_issue (f_X8_keep S))))) 5) - (((units.toInt64) * ((gMs_at (f_X8_keep S)) 5)) / (f_X8_issue (f_X8_keep S))))))) h.toNatClampNeg 6 (((units.toInt64) * ((gMs_at (f_X8_keep S)) 6)) / (f_X8_issue (f_X8_keep S)))) h.toNatClampNeg 3 (((units.toInt64) * ((gMs_at (f_X8_keep S)) 5)) / (f_X8_issue (f_X8_keep S)))))
      else
        ((-5), S)
    else
      ((-2), S)
  )
noncomputable def f_X8_mayLeave (S : zMs) : Int64 := zsl (
  let x32_0 : Int64 := (if ((((gMs_at S) 3) * (f_X8_issue S)) / 1000) ≤ (f_X8_sumOf S 122 ((gMs_at S) 10)) then ((((gMs_at S) 3) * (f_X8_issue S)) / 1000) else (f_X8_sumOf S 122 ((gMs_at S) 10)))
  x32_0
  )
noncomputable def f_X8_swing (S : zMs) : Int32 := zsl (
  if (f_X8_issue S) = 0 then
    (nI 2)
  else
    let x53_0 : Nat := (if ((f_X8_sumOf S 61 ((gMs_at S) 10)) - (((f_X8_mayLeave S) * (f_X8_middle S)) / 1000)) ≤ 0 then (if 0 ≤ ((f_X8_sumOf S 61 ((gMs_at S) 10)) - (((f_X8_mayLeave S) * (f_X8_middle S)) / 1000)) then 2 else (if (-(((gMs_at S) 1) * (f_X8_value S))) ≤ (1000 * ((f_X8_sumOf S 61 ((gMs_at S) 10)) - (((f_X8_mayLeave S) * (f_X8_middle S)) / 1000))) then 2 else 1)) else (if (1000 * ((f_X8_sumOf S 61 ((gMs_at S) 10)) - (((f_X8_mayLeave S) * (f_X8_middle S)) / 1000))) ≤ (((gMs_at S) 1) * (f_X8_value S)) then (if 0 ≤ ((f_X8_sumOf S 61 ((gMs_at S) 10)) - (((f_X8_mayLeave S) * (f_X8_middle S)) / 1000)) then 2 else (if (-(((gMs_at S) 1) * (f_X8_value S))) ≤ (1000 * ((f_X8_sumOf S 61 ((gMs_at S) 10)) - (((f_X8_mayLeave S) * (f_X8_middle S)) / 1000))) then 2 else 1)) else 3))
    (nI x53_0)
  )
noncomputable def f_X8_priceNow (S : zMs) : Int64 := zsl (
  (((f_X8_middle S) * (1000 + (((((f_X8_swing S) - (nI 2))).toInt64) * ((gMs_at S) 2)))) / 1000)
  )
