/-! pure functions and their rows; out of whole's part of the same name -/
theorem zne_of2 {a s : Int64} (h : 0 ≤ a) (h2 : a < s) : ¬ s = 0 := fun e => by
  subst e
  exact absurd h2 (Int64.not_lt.mpr h)
theorem zdec2 {x : Int64} (h : ¬ x ≤ 0) : (x - 1).toInt.toNat < x.toInt.toNat := by
  have h1 : 0 < x.toInt := by
    have := Int64.not_le.mp h
    rw [Int64.lt_iff_toInt_lt] at this
    exact this
  have h2 : (x - 1).toInt = x.toInt - 1 := by
    rw [Int64.toInt_sub]
    have hx := x.toInt_lt
    have h3 : (1 : Int64).toInt = 1 := by decide
    rw [h3]
    rw [Int.bmod_eq_of_le] <;> omega
  omega
theorem zI_m1lt {j : Nat} (h : j < 2 ^ 31) : nI j - nI 1 < 0 ↔ j = 0 := by
  rcases Nat.eq_zero_or_pos j with e | e
  · subst e; exact ⟨fun _ => rfl, fun _ => by decide⟩
  · rw [pk_sub (by omega)]
    exact ⟨fun q => absurd q (nI_pos (by omega)), fun q => by omega⟩
theorem zI_m2 {j : Nat} (h : ¬ j = 0) : nI j - nI 1 + -1 = nI (j - 1) - nI 1 := by
  rw [pk_sub (by omega), Int32.sub_eq_add_neg, show -(nI 1) = (-1 : Int32) from by decide]

noncomputable def L_X8_sell (S : zMs) (amount : Int64) : Nat → (Nat → Int64) → (Nat → Int64)
  | 0, A => A
  | fuel + 1, A =>
    if amount ≤ (A 5) then
      A
    else
      if (A 6) ≤ 0 then
        A
      else
        L_X8_sell S amount fuel (vp_updL (vp_updL (vp_updL A 6 ((A 6) - 1)) 5 (((vp_updL A 6 ((A 6) - 1)) 5) + (((vp_updL A 6 ((A 6) - 1)) 7) - (f_X8_cost (sMs_at S (vp_updL A 6 ((A 6) - 1))))))) 14 (((vp_updL (vp_updL A 6 ((A 6) - 1)) 5 (((vp_updL A 6 ((A 6) - 1)) 5) + (((vp_updL A 6 ((A 6) - 1)) 7) - (f_X8_cost (sMs_at S (vp_updL A 6 ((A 6) - 1))))))) 14) + 1))
theorem L_X8_sell_s (S : zMs) (amount : Int64) (fuel : Nat) (A : Nat → Int64) : L_X8_sell S amount (fuel + 1) A = (
    if amount ≤ (A 5) then
      A
    else
      if (A 6) ≤ 0 then
        A
      else
        L_X8_sell S amount fuel (vp_updL (vp_updL (vp_updL A 6 ((A 6) - 1)) 5 (((vp_updL A 6 ((A 6) - 1)) 5) + (((vp_updL A 6 ((A 6) - 1)) 7) - (f_X8_cost (sMs_at S (vp_updL A 6 ((A 6) - 1))))))) 14 (((vp_updL (vp_updL A 6 ((A 6) - 1)) 5 (((vp_updL A 6 ((A 6) - 1)) 5) + (((vp_updL A 6 ((A 6) - 1)) 7) - (f_X8_cost (sMs_at S (vp_updL A 6 ((A 6) - 1))))))) 14) + 1))
  ) := rfl
noncomputable def f_X8_sellFor (S : zMs) (amount : Int64) : zMs := zsl (
  let A_e : Nat → Int64 := (L_X8_sell S amount (((gMs_at S) 6).toInt.toNat + 1) (gMs_at S))
  (sMs_at S A_e)
  )
noncomputable def L_X8_sd1 (S : zMs) (to : Nat) : Nat → (Int64) → (Nat) → (Int64) × (Nat)
  | 0, sm, j => (sm, j)
  | fuel + 1, sm, j =>
    if to ≤ j then
      (sm, j)
    else
      L_X8_sd1 S to fuel (sm + (f_X8_ofOrder S 122 j 1)) (j + 1)
theorem L_X8_sd1_s (S : zMs) (to : Nat) (fuel : Nat) (sm : Int64) (j : Nat) : L_X8_sd1 S to (fuel + 1) sm j = (
    if to ≤ j then
      (sm, j)
    else
      L_X8_sd1 S to fuel (sm + (f_X8_ofOrder S 122 j 1)) (j + 1)
  ) := rfl
noncomputable def L_X8_sd2 (S : zMs) (to : Nat) (left : Int64) (sm_e : Int64) : Nat → (Nat → Int64) → (Int64) → (Nat) → (Nat → Int64) × (Int64) × (Nat)
  | 0, sh, rest, k => (sh, rest, k)
  | fuel + 1, sh, rest, k =>
    if to ≤ k then
      (sh, rest, k)
    else
      let x64_0 : Int64 := (if left < sm_e then (((f_X8_ofOrder (sMs_sh S sh) 122 k 1) * left) / sm_e) else (f_X8_ofOrder (sMs_sh S sh) 122 k 1))
      L_X8_sd2 S to left sm_e fuel (vp_updL sh k x64_0) (rest - ((vp_updL sh k x64_0) k)) (k + 1)
theorem L_X8_sd2_s (S : zMs) (to : Nat) (left : Int64) (sm_e : Int64) (fuel : Nat) (sh : Nat → Int64) (rest : Int64) (k : Nat) : L_X8_sd2 S to left sm_e (fuel + 1) sh rest k = (
    if to ≤ k then
      (sh, rest, k)
    else
      let x64_0 : Int64 := (if left < sm_e then (((f_X8_ofOrder (sMs_sh S sh) 122 k 1) * left) / sm_e) else (f_X8_ofOrder (sMs_sh S sh) 122 k 1))
      L_X8_sd2 S to left sm_e fuel (vp_updL sh k x64_0) (rest - ((vp_updL sh k x64_0) k)) (k + 1)
  ) := rfl
noncomputable def L_X8_sd3 (S : zMs) (to : Nat) (left : Int64) (sm_e : Int64) : Nat → (Nat → Int64) → (Int64) → (Nat) → (Nat → Int64) × (Int64) × (Nat)
  | 0, sh, rest, k => (sh, rest, k)
  | fuel + 1, sh, rest, k =>
    if to ≤ k then
      (sh, rest, k)
    else
      if sm_e ≤ left then
        (sh, rest, k)
      else
        if rest ≤ 0 then
          (sh, rest, k)
        else
          L_X8_sd3 S to left sm_e fuel (vp_updL sh k ((sh k) + 1)) (rest - 1) (k + 1)
theorem L_X8_sd3_s (S : zMs) (to : Nat) (left : Int64) (sm_e : Int64) (fuel : Nat) (sh : Nat → Int64) (rest : Int64) (k : Nat) : L_X8_sd3 S to left sm_e (fuel + 1) sh rest k = (
    if to ≤ k then
      (sh, rest, k)
    else
      if sm_e ≤ left then
        (sh, rest, k)
      else
        if rest ≤ 0 then
          (sh, rest, k)
        else
          L_X8_sd3 S to left sm_e fuel (vp_updL sh k ((sh k) + 1)) (rest - 1) (k + 1)
  ) := rfl
noncomputable def f_X8_shareDay (S : zMs) (fr : Nat) (to : Nat) (left : Int64) : Int64 × zMs := zsl (
  let sm_e : Int64 := ((L_X8_sd1 S to (to - fr + 1) 0 fr).1)
  let j_e : Nat := ((L_X8_sd1 S to (to - fr + 1) 0 fr).2)
  let sh1 : Nat → Int64 := ((L_X8_sd2 S to left sm_e (to - fr + 1) (gMs_sh S) left fr).1)
  let rest1 : Int64 := ((L_X8_sd2 S to left sm_e (to - fr + 1) (gMs_sh S) left fr).2.1)
  let k1 : Nat := ((L_X8_sd2 S to left sm_e (to - fr + 1) (gMs_sh S) left fr).2.2)
  let sh2 : Nat → Int64 := ((L_X8_sd3 S to left sm_e (to - fr + 1) sh1 rest1 fr).1)
  let rest2 : Int64 := ((L_X8_sd3 S to left sm_e (to - fr + 1) sh1 rest1 fr).2.1)
  let k2 : Nat := ((L_X8_sd3 S to left sm_e (to - fr + 1) sh1 rest1 fr).2.2)
  (rest2, (sMs_sh S sh2))
  )
theorem f_shareDay_sh (S : zMs) (fr to : Nat) (left : Int64) : (f_X8_shareDay S fr to left).2 = sMs_sh S (gMs_sh (f_X8_shareDay S fr to left).2) := by
  unfold f_X8_shareDay; rw [zsl_e]
/-- what the sharing out leaves is not below 0 -/
def ok_share (S : zMs) : Prop := ∀ (sh : Nat → Int64) (fr t : Nat) (left : Int64), 0 ≤ left → fr < t → t ≤ zcn S 122 → 0 ≤ (f_X8_shareDay (sMs_sh S sh) fr t left).1

noncomputable def L_X8_so1 (S : zMs) : Nat → (Nat → Int64) → (Nat) → (Nat → Int64) × (Nat)
  | 0, sh, k => (sh, k)
  | fuel + 1, sh, k =>
    if 20 ≤ k then
      (sh, k)
    else
      L_X8_so1 S fuel (vp_updL sh k 0) (k + 1)
theorem L_X8_so1_s (S : zMs) (fuel : Nat) (sh : Nat → Int64) (k : Nat) : L_X8_so1 S (fuel + 1) sh k = (
    if 20 ≤ k then
      (sh, k)
    else
      L_X8_so1 S fuel (vp_updL sh k 0) (k + 1)
  ) := rfl
noncomputable def L_X8_so3 (S : zMs) (sh : Nat → Int64) (fr : Nat) : Nat → (Nat) → (Nat)
  | 0, t => t
  | fuel + 1, t =>
    if (zcn S 122) ≤ t then
      t
    else
      if (f_X8_ofOrder (sMs_sh S sh) 122 t 2) = (f_X8_ofOrder (sMs_sh S sh) 122 fr 2) then
        L_X8_so3 S sh fr fuel (t + 1)
      else
        t
theorem L_X8_so3_s (S : zMs) (sh : Nat → Int64) (fr : Nat) (fuel : Nat) (t : Nat) : L_X8_so3 S sh fr (fuel + 1) t = (
    if (zcn S 122) ≤ t then
      t
    else
      if (f_X8_ofOrder (sMs_sh S sh) 122 t 2) = (f_X8_ofOrder (sMs_sh S sh) 122 fr 2) then
        L_X8_so3 S sh fr fuel (t + 1)
      else
        t
  ) := rfl
noncomputable def L_X8_so2 (S : zMs) : Nat → (Nat → Int64) → (Int64) → (Nat) → (Nat → Int64) × (Int64) × (Nat)
  | 0, sh, left, fr => (sh, left, fr)
  | fuel + 1, sh, left, fr =>
    if (zcn S 122) ≤ fr then
      (sh, left, fr)
    else
      if ((gMs_at S) 10) < (f_X8_ofOrder (sMs_sh S sh) 122 fr 2) then
        (sh, left, fr)
      else
        let t_e : Nat := (L_X8_so3 S sh fr (zcn S 122 - (fr + 1) + 1) (fr + 1))
        L_X8_so2 S fuel (gMs_sh ((f_X8_shareDay (sMs_sh S sh) fr t_e left).2)) ((f_X8_shareDay (sMs_sh S sh) fr t_e left).1) t_e
theorem L_X8_so2_s (S : zMs) (fuel : Nat) (sh : Nat → Int64) (left : Int64) (fr : Nat) : L_X8_so2 S (fuel + 1) sh left fr = (
    if (zcn S 122) ≤ fr then
      (sh, left, fr)
    else
      if ((gMs_at S) 10) < (f_X8_ofOrder (sMs_sh S sh) 122 fr 2) then
        (sh, left, fr)
      else
        let t_e : Nat := (L_X8_so3 S sh fr (zcn S 122 - (fr + 1) + 1) (fr + 1))
        L_X8_so2 S fuel (gMs_sh ((f_X8_shareDay (sMs_sh S sh) fr t_e left).2)) ((f_X8_shareDay (sMs_sh S sh) fr t_e left).1) t_e
  ) := rfl
noncomputable def f_X8_shareOut (S : zMs) (may : Int64) : zMs := zsl (
  let sh0 : Nat → Int64 := ((L_X8_so1 S (20 - 0 + 1) (gMs_sh S) 0).1)
  let k0 : Nat := ((L_X8_so1 S (20 - 0 + 1) (gMs_sh S) 0).2)
  let shz : Nat → Int64 := ((L_X8_so2 S (zcn S 122 - 0 + 1) sh0 may 0).1)
  let lz : Int64 := ((L_X8_so2 S (zcn S 122 - 0 + 1) sh0 may 0).2.1)
  let frz : Nat := ((L_X8_so2 S (zcn S 122 - 0 + 1) sh0 may 0).2.2)
  (sMs_sh S shz)
  )
