/-! pure functions and their rows; out of whole's part of the same name -/
/-- a value whose making the unifier does not look into -/
noncomputable def zsl {α : Type} (x : α) : α := Classical.choose (⟨x, rfl⟩ : ∃ y : α, y = x)
theorem zsl_e {α : Type} (x : α) : zsl x = x := Classical.choose_spec (⟨x, rfl⟩ : ∃ y : α, y = x)

noncomputable def f_X8_in (v : Int64) (low : Int64) (high : Int64) : Bool :=
  let x2_0 : Bool := (if v < low then false else (if high < v then false else true))
  x2_0
noncomputable def f_X8_isHolder (h : Int32) : Bool :=
  (f_X8_in (h.toInt64) 0 5)
noncomputable def f_X8_of (S : zMs) (h : Nat) (w : Nat) : Int64 :=
  ((gMs_at S) (19 + (7 * h) + w))
noncomputable def f_X8_add (S : zMs) (h : Nat) (w : Nat) (by0 : Int64) : zMs :=
  (sMs_at S (vp_updL (gMs_at S) (19 + (7 * h) + w) (((gMs_at S) (19 + (7 * h) + w)) + by0)))
noncomputable def f_X8_units (S : zMs) (h : Nat) : Int64 :=
  ((f_X8_of S h 0) + (f_X8_of S h 1))
noncomputable def f_X8_value (S : zMs) : Int64 :=
  (((gMs_at S) 5) + (((gMs_at S) 6) * ((gMs_at S) 7)))
noncomputable def f_X8_cost (S : zMs) : Int64 :=
  (((((gMs_at S) 7) * ((gMs_at S) 4)) + 999) / 1000)
noncomputable def f_X8_ofOrder (S : zMs) (kd : Nat) (o : Nat) (w : Nat) : Int64 :=
  ((gMs_at S) (kd + 1 + (3 * o) + w))
noncomputable def f_X8_holdPool (S : zMs) : zMs :=
  let x19_0 : Int64 := (if ((gMs_at S) 8) ≤ ((gMs_at S) 5) then ((gMs_at S) 8) else ((gMs_at S) 5))
  (sMs_at S (vp_updL (gMs_at S) 8 x19_0))
noncomputable def f_X8_next (S : zMs) : Int32 :=
  let x8_0 : Int32 := (if (gMs_pdm S) ≤ (gMs_sp S) then (nI 0) else ((gMs_pd S) (gMs_sp S)))
  x8_0
noncomputable def f_X8_issue (S : zMs) : Int64 := zsum (fun i => f_X8_units S i) 6

noncomputable def f_X8_allNew (S : zMs) : Int64 := zsum (fun i => f_X8_of S i 1) 6

noncomputable def f_X8_middle (S : zMs) : Int64 :=
  let x5_0 : Int64 := (if (f_X8_issue S) = 0 then 100000 else ((1000 * (f_X8_value S)) / (f_X8_issue S)))
  x5_0
noncomputable def f_X8_incomeOfUnit (S : zMs) : Int64 :=
  let x5_0 : Int64 := (if (f_X8_issue S) = 0 then 0 else ((1000 * ((gMs_at S) 8)) / (f_X8_issue S)))
  x5_0
noncomputable def f_X8_keep (S : zMs) : zMs :=
  let a : Nat := (if (gMs_pm S) = 6 then ((gMs_pf S) + 1) % 6 else (gMs_pf S))
  let b : Nat := (if (gMs_pm S) = 6 then (gMs_pm S) - 1 else (gMs_pm S))
  sMs_pm (sMs_pf (sMs_past S (va_cpy (gMs_at S) (gMs_past S) 0 (183 * ((a + b) % 6)) 183)) a) (b + 1)

noncomputable def f_X8_keepIf (S : zMs) (b : Bool) : zMs := if b = false then S else f_X8_keep S

noncomputable def f_X8_layAside (S : zMs) : zMs := sMs_as S (va_cpy (gMs_at S) (gMs_as S) 0 0 183)
noncomputable def f_X8_layBack (S : zMs) : zMs := sMs_at S (va_cpy (gMs_as S) (gMs_at S) 0 0 183)

noncomputable def f_X8_sumOf (S : zMs) (kd : Nat) (day : Int64) : Int64 := zsum (fun i => if day < f_X8_ofOrder S kd i 2 then 0 else f_X8_ofOrder S kd i 1) (zcn S kd)
noncomputable def f_X8_bound (S : zMs) (h : Nat) : Int64 := zsum (fun i => if f_X8_ofOrder S 122 i 0 = lN h then f_X8_ofOrder S 122 i 1 else 0) (zcn S 122)

noncomputable def f_X8_makeUnits (S : zMs) (h : Nat) (many : Int64) (inc : Int64) : zMs := zsl (
  (f_X8_holdPool (sMs_at (f_X8_add S h 1 many) (vp_updL (vp_updL (gMs_at (f_X8_add S h 1 many)) 8 (((gMs_at (f_X8_add S h 1 many)) 8) + ((many * inc) / 1000))) 9 (((vp_updL (gMs_at (f_X8_add S h 1 many)) 8 (((gMs_at (f_X8_add S h 1 many)) 8) + ((many * inc) / 1000))) 9) + ((many * inc) / 1000)))))
  )
theorem f_of_lt (S : zMs) {h w k : Nat} {x : Int64} (hk : k < 19) : f_X8_of (sMs_at S (vp_updL (gMs_at S) k x)) h w = f_X8_of S h w := vp_updL_n _ _ (by omega)
theorem f_allNew_lt (S : zMs) {k : Nat} {x : Int64} (hk : k < 19) : f_X8_allNew (sMs_at S (vp_updL (gMs_at S) k x)) = f_X8_allNew S := zsum_congr _ (fun i _ => f_of_lt S hk)

noncomputable def f_X8_goUnits (S : zMs) (h : Nat) (many : Int64) (inc : Int64) : zMs := zsl (
  let x27_0 : Int64 := (if 0 ≤ (((gMs_at S) 8) - ((many * inc) / 1000)) then (((gMs_at S) 8) - ((many * inc) / 1000)) else 0)
  let x45_0 : Int64 := (if many ≤ (f_X8_of (sMs_at S (vp_updL (gMs_at S) 8 x27_0)) h 0) then many else (f_X8_of (sMs_at S (vp_updL (gMs_at S) 8 x27_0)) h 0))
  let x70_0 : Nat → Int64 := (if (many - x45_0) ≤ 0 then (vp_updL (gMs_at S) 8 x27_0) else (vp_updL (vp_updL (gMs_at S) 8 x27_0) 9 (((vp_updL (gMs_at S) 8 x27_0) 9) - (((many - x45_0) * ((vp_updL (gMs_at S) 8 x27_0) 9)) / (f_X8_allNew (sMs_at S (vp_updL (gMs_at S) 8 x27_0)))))))
  (f_X8_holdPool (f_X8_add (f_X8_add (sMs_at S x70_0) h 0 (-x45_0)) h 1 (-(many - x45_0))))
  )
noncomputable def f_X8_takeOut (S : zMs) (kd o : Nat) : zMs := sMs_at S (va_cpy (vp_updL (gMs_at S) kd (gMs_at S kd - 1)) (vp_updL (gMs_at S) kd (gMs_at S kd - 1)) (kd + 1 + 3 * o + 3) (kd + 1 + 3 * o) (3 * (zcn S kd - 1 - o)))
noncomputable def f_X8_day (S : zMs) (hour : Int32) : Int64 := if gMs_at S 0 ≤ hour.toInt64 then gMs_at S 10 + 1 else gMs_at S 10
noncomputable def f_X8_putIn (S : zMs) (kd : Nat) (h : Int32) (much : Int64) (hour : Int32) : zMs := sMs_at S (zput (gMs_at S) kd (zpos (f_X8_day S hour) (fun i => f_X8_ofOrder S kd i 2) (zcn S kd)) (zcn S kd) h.toInt64 much (f_X8_day S hour))

