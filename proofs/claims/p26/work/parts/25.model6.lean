/-! pure functions and their rows; out of whole's part of the same name -/
noncomputable def L_X8_exit (h : Int32) : Nat → (zMs) → (Nat) → (zMs) × (Nat)
  | 0, X, dd => (X, dd)
  | fuel + 1, X, dd =>
    if 60 ≤ dd then
      (X, dd)
    else
      if (f_X8_bound X h.toNatClampNeg) ≤ 0 then
        (X, dd)
      else
        L_X8_exit h fuel (f_X8_endIt X) (dd + 1)
theorem L_X8_exit_s (h : Int32) (fuel : Nat) (X : zMs) (dd : Nat) : L_X8_exit h (fuel + 1) X dd = (
    if 60 ≤ dd then
      (X, dd)
    else
      if (f_X8_bound X h.toNatClampNeg) ≤ 0 then
        (X, dd)
      else
        L_X8_exit h fuel (f_X8_endIt X) (dd + 1)
  ) := rfl
noncomputable def f_X8_exitIn (S : zMs) (h : Int32) : Int32 × zMs := zsl (
  if (f_X8_isHolder h) = false then
    ((-1), S)
  else
    let X1 : zMs := ((L_X8_exit h (60 - 0 + 1) (f_X8_layAside S) 0).1)
    let d1 : Nat := ((L_X8_exit h (60 - 0 + 1) (f_X8_layAside S) 0).2)
    let x47_0 : Bool := (if (f_X8_bound X1 h.toNatClampNeg) = 0 then true else false)
    let x62_0 : Int32 := (if x47_0 = false then (-6) else (nI d1))
    (x62_0, (f_X8_layBack X1))
  )
noncomputable def L_X8_fair (S : zMs) : Nat → (zMs) → (Int32) → (Nat) → (zMs) × (Int32) × (Nat)
  | 0, X, best, sw => (X, best, sw)
  | fuel + 1, X, best, sw =>
    if 100 < sw then
      (X, best, sw)
    else
      if 0 ≤ best then
        (X, best, sw)
      else
        let x44_0 : Int32 := (if (f_X8_middle (f_X8_endIt (sMs_at X (vp_updL (gMs_at X) 2 (lN sw))))) < (f_X8_middle S) then (-6) else (nI sw))
        L_X8_fair S fuel (f_X8_layBack (f_X8_endIt (sMs_at X (vp_updL (gMs_at X) 2 (lN sw))))) x44_0 (sw + 1)
theorem L_X8_fair_s (S : zMs) (fuel : Nat) (X : zMs) (best : Int32) (sw : Nat) : L_X8_fair S (fuel + 1) X best sw = (
    if 100 < sw then
      (X, best, sw)
    else
      if 0 ≤ best then
        (X, best, sw)
      else
        let x44_0 : Int32 := (if (f_X8_middle (f_X8_endIt (sMs_at X (vp_updL (gMs_at X) 2 (lN sw))))) < (f_X8_middle S) then (-6) else (nI sw))
        L_X8_fair S fuel (f_X8_layBack (f_X8_endIt (sMs_at X (vp_updL (gMs_at X) 2 (lN sw))))) x44_0 (sw + 1)
  ) := rfl
noncomputable def f_X8_fairSwing (S : zMs) : Int32 × zMs := zsl (
  let X1 : zMs := ((L_X8_fair S (101 - 0 + 1) (f_X8_layAside S) (-6) 0).1)
  let best1 : Int32 := ((L_X8_fair S (101 - 0 + 1) (f_X8_layAside S) (-6) 0).2.1)
  let sw1 : Nat := ((L_X8_fair S (101 - 0 + 1) (f_X8_layAside S) (-6) 0).2.2)
  (best1, X1)
  )
theorem zsh_r (x : Int64) : (x.toUInt64 >>> ((nI 8).toInt64.toUInt64 &&& Int64.toUInt64 63)).toInt64 = (x.toUInt64 >>> 8).toInt64 := rfl
theorem zsh_s (x : Int64) (y : Int32) : x >>> (y.toInt64 &&& 63) = x >>> (y.toInt64 &&& 63) := rfl

noncomputable def L_X8_put1  : Nat → (Nat) → (Int64) → (Bool) × (Int32) × (Nat) × (Int64)
  | 0, mn, rest => (false, 0, mn, rest)
  | fuel + 1, mn, rest =>
    if 8 ≤ mn then
      (false, 0, mn, rest)
    else
      if (rest &&& 255) = 0 then
        (false, 0, mn, rest)
      else
        if (f_X8_in (rest &&& 255) 33 126) = false then
          (true, (-2), mn, rest)
        else
          L_X8_put1  fuel (mn + 1) ((rest.toUInt64 >>> 8).toInt64)
theorem L_X8_put1_s  (fuel : Nat) (mn : Nat) (rest : Int64) : L_X8_put1  (fuel + 1) mn rest = (
    if 8 ≤ mn then
      (false, 0, mn, rest)
    else
      if (rest &&& 255) = 0 then
        (false, 0, mn, rest)
      else
        if (f_X8_in (rest &&& 255) 33 126) = false then
          (true, (-2), mn, rest)
        else
          L_X8_put1  fuel (mn + 1) ((rest.toUInt64 >>> 8).toInt64)
  ) := rfl
noncomputable def L_X8_put2 (S : zMs) (ch : Int64) (mn1 : Nat) : Nat → (Nat → Int32) → (Nat) → (Nat → Int32) × (Nat)
  | 0, pd, k => (pd, k)
  | fuel + 1, pd, k =>
    if mn1 ≤ k then
      (pd, k)
    else
      L_X8_put2 S ch mn1 fuel (upd pd ((gMs_pdm S) + k) ((((ch >>> ((nI (8 * ((mn1 - 1) - k))).toInt64 &&& 63)) &&& 255)).toInt32)) (k + 1)
theorem L_X8_put2_s (S : zMs) (ch : Int64) (mn1 : Nat) (fuel : Nat) (pd : Nat → Int32) (k : Nat) : L_X8_put2 S ch mn1 (fuel + 1) pd k = (
    if mn1 ≤ k then
      (pd, k)
    else
      L_X8_put2 S ch mn1 fuel (upd pd ((gMs_pdm S) + k) ((((ch >>> ((nI (8 * ((mn1 - 1) - k))).toInt64 &&& 63)) &&& 255)).toInt32)) (k + 1)
  ) := rfl
noncomputable def f_X8_put (S : zMs) (ch : Int64) : Int32 × zMs := zsl (
  let fl_5 : Bool := ((L_X8_put1  (8 - 0 + 1) 0 ch).1)
  let rv_5 : Int32 := ((L_X8_put1  (8 - 0 + 1) 0 ch).2.1)
  let mn1 : Nat := ((L_X8_put1  (8 - 0 + 1) 0 ch).2.2.1)
  let rest1 : Int64 := ((L_X8_put1  (8 - 0 + 1) 0 ch).2.2.2)
  if fl_5 = true then
    (rv_5, S)
  else
    if mn1 = 0 then
      ((-2), S)
    else
      if rest1 = 0 then
        if ((gMs_pdm S) + mn1) ≤ 80 then
          let pd2 : Nat → Int32 := ((L_X8_put2 S ch mn1 (mn1 - 0 + 1) (gMs_pd S) 0).1)
          let k2 : Nat := ((L_X8_put2 S ch mn1 (mn1 - 0 + 1) (gMs_pd S) 0).2)
          ((nI ((gMs_pdm S) + mn1)), (sMs_pdm (sMs_pd S pd2) ((gMs_pdm S) + mn1)))
        else
          ((-4), S)
      else
        ((-2), S)
  )
noncomputable def f_X8_wipe (S : zMs) : Nat × zMs :=
  ((gMs_pdm S), (sMs_pdm S 0))
