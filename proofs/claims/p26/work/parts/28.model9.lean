/-! pure functions and their rows; out of whole's part of the same name -/
theorem zpp_nu1 {T : zMs} {f : Nat → Int32} (hz : zpp T) (hlt : gMs_sp T < gMs_pdm T) : zpp (sMs_nu (sMs_sp T (gMs_sp T + 1)) f) := ⟨hz.1, hlt, hz.2.2⟩
theorem zpp_nu {T : zMs} {f : Nat → Int32} (hz : zpp T) : zpp (sMs_nu T f) := ⟨hz.1, hz.2.1, hz.2.2⟩
theorem zpp_wr1 {T : zMs} {w : Bool} (hz : zpp T) (hlt : gMs_sp T < gMs_pdm T) : zpp (sMs_wr (sMs_sp T (gMs_sp T + 1)) w) := ⟨hz.1, hlt, hz.2.2⟩
def zPR (S T : zMs) : Prop := zsame S T ∧ gMs_od T = gMs_od S ∧ gMs_sp S ≤ gMs_sp T ∧ gMs_sp T ≤ gMs_pdm S
theorem zPR_nu {S T : zMs} (f : Nat → Int32) (hz : zpp T) (h : zPR S T) : zPR S (sMs_nu T f) := zp4_t h ⟨rfl, rfl, Nat.le_refl _, hz.2.1⟩
theorem zPR_nu1 {S T : zMs} (f : Nat → Int32) (hlt : gMs_sp T < gMs_pdm T) (h : zPR S T) : zPR S (sMs_nu (sMs_sp T (gMs_sp T + 1)) f) := zp4_t h ⟨rfl, rfl, Nat.le_succ _, hlt⟩
theorem zPR_wr1 {T : zMs} (w : Bool) (hlt : gMs_sp T < gMs_pdm T) : zPR T (sMs_wr (sMs_sp T (gMs_sp T + 1)) w) := ⟨rfl, rfl, Nat.le_succ _, hlt⟩
theorem zsgn_nu {T : zMs} {f : Nat → Int32} {s : Int32} (h : f_X8_next (sMs_nu T f) = s) (hs : ¬ s = nI 0) : gMs_sp T < gMs_pdm T := zsgn (X := sMs_nu T f) h hs

noncomputable def f_X8_takeOrdering (S : zMs) : zMs := zsl (
  let T_1 : zMs := (f_X8_takeHolder S)
  let T_7 : zMs := (f_X8_takeSign T_1 (nI 58))
  let T_14 : zMs := (f_X8_takeNumber T_7 1 (nI 1000000))
  let F_30 : Nat → Int32 := (upd (gMs_nu T_14) (3 * (gMs_od T_14) + 2) (nI 0))
  let x35_0 : zMs := (if (gMs_wr T_14) = false then (if (f_X8_next (sMs_nu T_14 F_30)) = (nI 64) then (f_X8_takeNumber (sMs_nu (sMs_sp T_14 ((gMs_sp T_14) + 1)) F_30) 2 (nI 23)) else (sMs_nu T_14 F_30)) else (sMs_nu T_14 F_30))
  x35_0
  )
theorem zp_ord2 {S N : zMs} {f0 : Nat → Int32} (zz3 : zpp N) (z13 : zPR S N) : zPR S (if (gMs_wr N) = false then (if (f_X8_next (sMs_nu N f0)) = (nI 64) then (f_X8_takeNumber (sMs_nu (sMs_sp N ((gMs_sp N) + 1)) f0) 2 (nI 23)) else (sMs_nu N f0)) else (sMs_nu N f0)) := by
  by_cases c1 : gMs_wr N = false
  · rw [if_pos c1]
    by_cases c2 : f_X8_next (sMs_nu N f0) = nI 64
    · rw [if_pos c2]
      have hlt := zsgn_nu c2 (by decide)
      exact zp4_t (zPR_nu1 f0 hlt z13) (zp_num (zpp_nu1 zz3 hlt))
    · rw [if_neg c2]
      exact zPR_nu f0 zz3 z13
  · rw [if_neg c1]
    exact zPR_nu f0 zz3 z13
theorem zp_ordering {S : zMs} (hz : zpp S) : zPR S (f_X8_takeOrdering S) := by
  have z1 := zp_holder hz
  have zz1 := zpp_of hz z1
  have z2 := zp4 (zp_sign (sg := nI 58) zz1 (by decide))
  have zz2 := zpp_of zz1 z2
  have z3 := zp_num (pl := 1) (high := nI 1000000) zz2
  have zz3 := zpp_of zz2 z3
  have z13 := zp4_t z1 (zp4_t z2 z3)
  unfold f_X8_takeOrdering
  rw [zsl_e]
  exact zp_ord2 zz3 z13

noncomputable def f_X8_takeOrder (S : zMs) : zMs := zsl (
  let x9_0 : Bool := (if (f_X8_next S) = (nI 98) then false else (if (f_X8_next S) = (nI 108) then false else (if (f_X8_next S) = (nI 113) then false else (if (f_X8_next S) = (nI 105) then false else (if (f_X8_next S) = (nI 100) then false else (if (f_X8_next S) = (nI 112) then false else true))))))
  if x9_0 = false then
    let x71_0 : zMs := (if (f_X8_next S) = (nI 98) then (f_X8_takeOrdering (sMs_wr (sMs_sp S ((gMs_sp S) + 1)) x9_0)) else (if (f_X8_next S) = (nI 108) then (f_X8_takeOrdering (sMs_wr (sMs_sp S ((gMs_sp S) + 1)) x9_0)) else (if (f_X8_next S) = (nI 113) then (f_X8_takeNumber (sMs_wr (sMs_sp S ((gMs_sp S) + 1)) x9_0) 0 (nI 1000000)) else (if (f_X8_next S) = (nI 105) then (f_X8_takeNumber (sMs_wr (sMs_sp S ((gMs_sp S) + 1)) x9_0) 0 (nI 1000000)) else (sMs_wr (sMs_sp S ((gMs_sp S) + 1)) x9_0)))))
    let x110_0 : Nat := (if (gMs_wr x71_0) = false then (gMs_od x71_0) + 1 else (gMs_od x71_0))
    let x110_1 : Nat → Int32 := (if (gMs_wr x71_0) = false then (upd (gMs_so x71_0) (gMs_od x71_0) (f_X8_next S)) else (gMs_so x71_0))
    (sMs_so (sMs_od x71_0 x110_0) x110_1)
  else
    (sMs_wr S x9_0)
  )
