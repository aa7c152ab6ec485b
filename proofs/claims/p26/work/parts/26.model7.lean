/-! pure functions and their rows; out of whole's part of the same name -/
/-- what reading a text rests on -/
def zpp (S : zMs) : Prop := gMs_pdm S ≤ 80 ∧ gMs_sp S ≤ gMs_pdm S ∧ gMs_od S ≤ 40
theorem zdig {X : zMs} {lo hi : Int64} (h : f_X8_in (f_X8_next X).toInt64 lo hi = true) (hlo : 0 < lo.toInt) : gMs_sp X < gMs_pdm X := by
  rcases Nat.lt_or_ge (gMs_sp X) (gMs_pdm X) with q | q
  · exact q
  · have e : f_X8_next X = nI 0 := if_pos q
    rw [e] at h
    have := (f_in_int h).1
    have h0 : (nI 0).toInt = 0 := by decide
    omega
theorem zsgn {X : zMs} {s : Int32} (h : f_X8_next X = s) (hs : ¬ s = nI 0) : gMs_sp X < gMs_pdm X := by
  rcases Nat.lt_or_ge (gMs_sp X) (gMs_pdm X) with q | q
  · exact q
  · have e : f_X8_next X = nI 0 := if_pos q
    rw [e] at h
    exact absurd h.symm hs

noncomputable def f_X8_takeSign (S : zMs) (sg : Int32) : zMs :=
  let x5_0 : Bool := (if (gMs_wr S) = false then (if (f_X8_next S) = sg then false else true) else true)
  let x33_0 : Nat := (if x5_0 = false then 1 else 0)
  (sMs_wr (sMs_sp S ((gMs_sp S) + x33_0)) x5_0)
noncomputable def L_X8_num (S : zMs) (high : Int32) : Nat → (Bool) → (Nat) → (Int32) → (Bool) × (Nat) × (Int32)
  | 0, w, p, v => (w, p, v)
  | fuel + 1, w, p, v =>
    if w = false then
      if v ≤ 0 then
        (w, p, v)
      else
        if (f_X8_in (((f_X8_next (sMs_wr (sMs_sp S p) w))).toInt64) 48 57) = false then
          (w, p, v)
        else
          let x101_0 : Bool := (if ((((nI 10) * v) + (f_X8_next (sMs_wr (sMs_sp S p) w))) - (nI 48)) ≤ high then false else true)
          let x116_0 : Int32 := (if x101_0 = false then ((((nI 10) * v) + (f_X8_next (sMs_wr (sMs_sp S p) x101_0))) - (nI 48)) else v)
          let x145_0 : Nat := (if x101_0 = false then 1 else 0)
          L_X8_num S high fuel x101_0 (p + x145_0) x116_0
    else
      (w, p, v)
theorem L_X8_num_s (S : zMs) (high : Int32) (fuel : Nat) (w : Bool) (p : Nat) (v : Int32) : L_X8_num S high (fuel + 1) w p v = (
    if w = false then
      if v ≤ 0 then
        (w, p, v)
      else
        if (f_X8_in (((f_X8_next (sMs_wr (sMs_sp S p) w))).toInt64) 48 57) = false then
          (w, p, v)
        else
          let x101_0 : Bool := (if ((((nI 10) * v) + (f_X8_next (sMs_wr (sMs_sp S p) w))) - (nI 48)) ≤ high then false else true)
          let x116_0 : Int32 := (if x101_0 = false then ((((nI 10) * v) + (f_X8_next (sMs_wr (sMs_sp S p) x101_0))) - (nI 48)) else v)
          let x145_0 : Nat := (if x101_0 = false then 1 else 0)
          L_X8_num S high fuel x101_0 (p + x145_0) x116_0
    else
      (w, p, v)
  ) := rfl
noncomputable def f_X8_takeNumber (S : zMs) (pl : Nat) (high : Int32) : zMs := zsl (
  let x5_0 : Bool := (if (gMs_wr S) = false then (if (f_X8_in (((f_X8_next S)).toInt64) 48 57) = false then true else false) else true)
  if x5_0 = false then
    let w1 : Bool := ((L_X8_num S high ((gMs_pdm S - ((gMs_sp S) + 1)) + (1 - x5_0.toNat) + 1) x5_0 ((gMs_sp S) + 1) ((f_X8_next (sMs_wr S x5_0)) - (nI 48))).1)
    let p1 : Nat := ((L_X8_num S high ((gMs_pdm S - ((gMs_sp S) + 1)) + (1 - x5_0.toNat) + 1) x5_0 ((gMs_sp S) + 1) ((f_X8_next (sMs_wr S x5_0)) - (nI 48))).2.1)
    let v1 : Int32 := ((L_X8_num S high ((gMs_pdm S - ((gMs_sp S) + 1)) + (1 - x5_0.toNat) + 1) x5_0 ((gMs_sp S) + 1) ((f_X8_next (sMs_wr S x5_0)) - (nI 48))).2.2)
    (sMs_nu (sMs_wr (sMs_sp S p1) w1) (upd (gMs_nu S) (3 * (gMs_od S) + pl) v1))
  else
    (sMs_wr S x5_0)
  )
noncomputable def f_X8_takeHolder (S : zMs) : zMs :=
  let x5_0 : Bool := (if (gMs_wr S) = false then (if (f_X8_in (((f_X8_next S)).toInt64) 48 53) = false then true else false) else true)
  let x37_0 : Nat := (if x5_0 = false then (gMs_sp S) + 1 else (gMs_sp S))
  let x37_1 : Nat → Int32 := (if x5_0 = false then (upd (gMs_nu S) (3 * (gMs_od S)) ((f_X8_next (sMs_wr S x5_0)) - (nI 48))) else (gMs_nu S))
  (sMs_nu (sMs_wr (sMs_sp S x37_0) x5_0) x37_1)
