/-! the law's loop -/
section LAW
variable {E : zE} {cy : Nat → ClassId} {l : Launch} {D : va_G} {bb N c q : Nat} {xs : Nat → Int32} {x0 x1 x2 d0 d1 p0 p1 h0 h1 : Nat} {a b : Nat → Nat} {hs sl : Nat → Nat → Nat} {m : Nat → Nat} {T U : zTr} {x : zDd} {z : zPd} {y : zHs} {s : zSl} {S : zMs}
set_option maxHeartbeats 4000000 in
set_option maxRecDepth 100000 in
theorem law_step (C : zO E cL_law 4 "SwingUnitsLaw" room_1 cy l D) (hsc : zScr E bb N xs) (hN : N ≤ 2048) (hc : c + 3 < N) (hq : q ≤ 512) (hFR : FR q T z y s S) (kk : ∀ (T U : zTr) (x : zDd) (z : zPd) (y : zHs) (s : zSl) (S : zMs), FR (q + 1) T z y s S → zJ E 4 217 4450 (LB cy x0 x1 x2 d0 d1 p0 p1 h0 h1 a b hs sl m T U x z y s S).flatten 720 (LL c (m 0) x0 bb) []) : zJ E 4 217 4450 (LB cy x0 x1 x2 d0 d1 p0 p1 h0 h1 a b hs sl m T U x z y s S).flatten 26 (LL c (m 0) x0 bb) [] := by
  refine zj_arg0 C hsc hN rfl (by omega) dL_law_26 dL_law_27 dL_law_28 ?_
  refine zj_bipush C (v := (31 : Int32)) dL_law_29 (by decide) ?_
  refine zj_iand C dL_law_31 ?_
  refine zj_topi (xs c &&& 31) rfl ?_
  generalize xs c &&& 31 = v
  by_cases hv : 0 ≤ v.toInt ∧ v.toInt < (23 : Nat)
  · obtain ⟨j, hj, rfl⟩ := sw_of (by decide) hv
    match j, hj with
    | 0, _ => exact zj_tin C 140 dL_law_32 (by decide) (by decide) (off := 108) rfl (by decide) (law_set C hsc hN hc hq hFR kk)
    | 1, _ => exact zj_tin C 173 dL_law_32 (by decide) (by decide) (off := 141) rfl (by decide) (law_buy C hsc hN hc hq hFR kk)
    | 2, _ => exact zj_tin C 216 dL_law_32 (by decide) (by decide) (off := 184) rfl (by decide) (law_leave C hsc hN hc hq hFR kk)
    | 3, _ => exact zj_tin C 259 dL_law_32 (by decide) (by decide) (off := 227) rfl (by decide) (law_inKind C hsc hN hc hq hFR kk)
    | 4, _ => exact zj_tin C 292 dL_law_32 (by decide) (by decide) (off := 260) rfl (by decide) (law_endDay C hsc hN hc hq hFR kk)
    | 5, _ => exact zj_tin C 305 dL_law_32 (by decide) (by decide) (off := 273) rfl (by decide) (law_quote C hsc hN hc hq hFR kk)
    | 6, _ => exact zj_tin C 328 dL_law_32 (by decide) (by decide) (off := 296) rfl (by decide) (law_trade C hsc hN hc hq hFR kk)
    | 7, _ => exact zj_tin C 351 dL_law_32 (by decide) (by decide) (off := 319) rfl (by decide) (law_income C hsc hN hc hq hFR kk)
    | 8, _ => exact zj_tin C 374 dL_law_32 (by decide) (by decide) (off := 342) rfl (by decide) (law_pay C hsc hN hc hq hFR kk)
    | 9, _ => exact zj_tin C 387 dL_law_32 (by decide) (by decide) (off := 355) rfl (by decide) (law_ofHolder C hsc hN hc hq hFR kk)
    | 10, _ => exact zj_tin C 420 dL_law_32 (by decide) (by decide) (off := 388) rfl (by decide) (law_count C hsc hN hc hq hFR kk)
    | 11, _ => exact zj_tin C 443 dL_law_32 (by decide) (by decide) (off := 411) rfl (by decide) (law_order C hsc hN hc hq hFR kk)
    | 12, _ => exact zj_tin C 486 dL_law_32 (by decide) (by decide) (off := 454) rfl (by decide) (law_lastDay C hsc hN hc hq hFR kk)
    | 13, _ => exact zj_tin C 509 dL_law_32 (by decide) (by decide) (off := 477) rfl (by decide) (law_price C hsc hN hc hq hFR kk)
    | 14, _ => exact zj_tin C 533 dL_law_32 (by decide) (by decide) (off := 501) rfl (by decide) (law_exitIn C hsc hN hc hq hFR kk)
    | 15, _ => exact zj_tin C 556 dL_law_32 (by decide) (by decide) (off := 524) rfl (by decide) (law_fairSwing C hsc hN hc hq hFR kk)
    | 16, _ => exact zj_tin C 569 dL_law_32 (by decide) (by decide) (off := 537) rfl (by decide) (law_put C hsc hN hc hq hFR kk)
    | 17, _ => exact zj_tin C 622 dL_law_32 (by decide) (by decide) (off := 590) rfl (by decide) (law_wipe C hsc hN hc hq hFR kk)
    | 18, _ => exact zj_tin C 635 dL_law_32 (by decide) (by decide) (off := 603) rfl (by decide) (law_fault C hsc hN hc hq hFR kk)
    | 19, _ => exact zj_tin C 648 dL_law_32 (by decide) (by decide) (off := 616) rfl (by decide) (law_carryOut C hsc hN hc hq hFR kk)
    | 20, _ => exact zj_tin C 661 dL_law_32 (by decide) (by decide) (off := 629) rfl (by decide) (law_undo C hsc hN hc hq hFR kk)
    | 21, _ => exact zj_tin C 674 dL_law_32 (by decide) (by decide) (off := 642) rfl (by decide) (law_save C hsc hN hc hq hFR kk)
    | 22, _ => exact zj_tin C 697 dL_law_32 (by decide) (by decide) (off := 665) rfl (by decide) (law_restore C hsc hN hc hq hFR kk)
    | n + 23, hn => exact absurd hn (by omega)
  · refine zj_tout C 720 dL_law_32 (by omega) (by decide) ?_
    exact kk T U x z y s S (FR_same hFR)
set_option maxHeartbeats 4000000 in
set_option maxRecDepth 100000 in
theorem law_loop (C : zO E cL_law 4 "SwingUnitsLaw" room_1 cy l D) (hsc : zScr E bb N xs) (hN : N ≤ 2048) (hend : ∀ (ws : va_W) (L : List (Nat × Value)), zJ E 4 217 4450 ws 727 L [.int 1]) : ∀ (f q : Nat), N ≤ 4 * q + 4 * f → ∀ (T U : zTr) (x : zDd) (z : zPd) (y : zHs) (s : zSl) (S : zMs), 4 * q < N + 4 → FR q T z y s S → zJ E 4 217 4450 (LB cy x0 x1 x2 d0 d1 p0 p1 h0 h1 a b hs sl m T U x z y s S).flatten 18 (LL (4 * q) (m 0) x0 bb) [] := by
  intro f
  induction f with
  | zero =>
    intro q hf T U x z y s S hq hFR
    refine zj_iload_n C dL_law_18 0 rfl ?_
    refine zj_aload_n C dL_law_19 3 rfl ?_
    refine zj_slen C hsc dL_law_20 ?_
    refine zj_iconst C (v := nI 4) dL_law_21 (by decide) ?_
    refine zj_isub C dL_law_22 ?_
    have e : (nI N - nI 4).toInt = (N : Int) - 4 := i32_sub (nI_toInt (by omega)) (nI_toInt (by decide)) (by omega) (by omega)
    have e2 : (nI (4 * q)).toInt = ((4 * q : Nat) : Int) := nI_toInt (by omega)
    refine zj_icmp_gt C 726 dL_law_23 (by decide) (fun _ => ?_) (fun g => absurd (i32_lt_iff.mpr (by rw [e, e2]; omega)) g)
    refine zj_iconst C (v := 1) dL_law_726 (by decide) ?_
    exact hend _ _
  | succ f ih =>
    intro q hf T U x z y s S hq hFR
    refine zj_iload_n C dL_law_18 0 rfl ?_
    refine zj_aload_n C dL_law_19 3 rfl ?_
    refine zj_slen C hsc dL_law_20 ?_
    refine zj_iconst C (v := nI 4) dL_law_21 (by decide) ?_
    refine zj_isub C dL_law_22 ?_
    have e : (nI N - nI 4).toInt = (N : Int) - 4 := i32_sub (nI_toInt (by omega)) (nI_toInt (by decide)) (by omega) (by omega)
    have e2 : (nI (4 * q)).toInt = ((4 * q : Nat) : Int) := nI_toInt (by omega)
    refine zj_icmp_gt C 726 dL_law_23 (by decide) (fun _ => ?_) (fun g => ?_)
    · refine zj_iconst C (v := 1) dL_law_726 (by decide) ?_
      exact hend _ _
    · rw [i32_lt_iff, e, e2] at g
      refine law_step (q := q) C hsc hN (by omega) (by omega) hFR (fun T U x z y s S hFR => ?_)
      refine zj_iinc C (j := 0) (v := nI (4 * (q + 1))) (L' := LL (4 * (q + 1)) (m 0) x0 bb) dL_law_720 rfl (nI_add (4 * q) 4) (by decide) rfl ?_
      refine zj_goto C 18 dL_law_723 (by decide) ?_
      exact ih (q + 1) (by omega) T U x z y s S (by omega) hFR
end LAW
