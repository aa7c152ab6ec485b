/-! what the reference's row of numbers tells of a trust -/
def RC (T : zTr) (A : Nat → Int64) : Prop :=
  (∀ k, k < 5 → A k = (gTr_st T k).toInt64) ∧ A 5 = gTr_cash T ∧ A 6 = (gTr_lots T).toInt64 ∧ A 7 = (gTr_quote T).toInt64 ∧ A 8 = gTr_pool T ∧ A 9 = gTr_even T ∧ A 10 = (gTr_day T).toInt64 ∧
  ∀ h, h < 6 → A (19 + 7 * h + 0) = gHd_old (gTr_hd T h) ∧ A (19 + 7 * h + 1) = gHd_new (gTr_hd T h) ∧ A (19 + 7 * h + 2) = gHd_bought (gTr_hd T h) ∧ A (19 + 7 * h + 3) = gHd_paid (gTr_hd T h) ∧ A (19 + 7 * h + 4) = gHd_inc (gTr_hd T h) ∧ A (19 + 7 * h + 5) = gHd_eve (gTr_hd T h) ∧ A (19 + 7 * h + 6) = gHd_lots (gTr_hd T h)
/-- the orders of a kind -/
def RO (kd : Nat) (o : zOd) (A : Nat → Int64) : Prop := A kd = lN (gOd_n o) ∧ ∀ i, i < gOd_n o → A (kd + 1 + 3 * i + 0) = (gOd_ho o i).toInt64 ∧ A (kd + 1 + 3 * i + 1) = (gOd_sz o i).toInt64 ∧ A (kd + 1 + 3 * i + 2) = (gOd_dy o i).toInt64
/-- the day that ended last -/
def RLd (x : zLd) (A : Nat → Int64) : Prop := A 18 = (if gLd_ended x = true then 1 else 0) ∧ A 11 = (if gLd_ended x = true then gLd_price x else -6) ∧ (gLd_ended x = true → A 12 = gLd_made x ∧ A 13 = gLd_left x ∧ A 14 = (gLd_sold x).toInt64 ∧ A 15 = (gLd_swung x + nI 2).toInt64 ∧ A 16 = gLd_still x ∧ A 17 = gLd_back x)
/-- a day that is ending -/
def RMd (x : zLd) (A : Nat → Int64) : Prop := A 12 = gLd_made x ∧ A 13 = gLd_left x ∧ A 14 = (gLd_sold x).toInt64 ∧ A 17 = gLd_back x
def RTr (T : zTr) (A : Nat → Int64) : Prop := RC T A ∧ RO 61 (gTr_bu T) A ∧ RO 122 (gTr_le T) A ∧ RLd (gTr_la T) A
/-! what holds of a trust -/
def uO (T : zTr) (h : Nat) : Int := (gHd_old (gTr_hd T h)).toInt
def uN (T : zTr) (h : Nat) : Int := (gHd_new (gTr_hd T h)).toInt
def uU (T : zTr) (h : Nat) : Int := uO T h + uN T h
def uAll (T : zTr) : Int := isum (uU T) 6
def uNew (T : zTr) : Int := isum (uN T) 6
def iH (T : zTr) : Prop := (∀ h, h < 6 → 0 ≤ uO T h ∧ 0 ≤ uN T h) ∧ uAll T ≤ 1000000000
theorem uU_nn {T : zTr} (hH : iH T) : ∀ h, h < 6 → 0 ≤ uU T h := fun h hh => by
  have := hH.1 h hh
  show 0 ≤ uO T h + uN T h
  omega
theorem uAll_nn {T : zTr} (hH : iH T) : 0 ≤ uAll T := isum_nn 6 (uU_nn hH)
theorem uU_le {T : zTr} (hH : iH T) {h : Nat} (hh : h < 6) : uU T h ≤ uAll T := isum_ge 6 h hh (uU_nn hH)
theorem uNew_nn {T : zTr} (hH : iH T) : 0 ≤ uNew T := isum_nn 6 (fun h hh => (hH.1 h hh).2)
theorem uNew_ge {T : zTr} (hH : iH T) {h : Nat} (hh : h < 6) : uN T h ≤ uNew T := isum_ge 6 h hh (fun h hh => (hH.1 h hh).2)
theorem uNew_le {T : zTr} (hH : iH T) : uNew T ≤ uAll T := isum_le 6 (fun h hh => by
  have := hH.1 h hh
  show uN T h ≤ uO T h + uN T h
  omega)
theorem L_units_z (t : zTr) : ∀ (n j : Nat) (sm : Int64), j + n = 6 → (L_X6_units t (n + 1) sm j).1 = zsum (fun i => f_X2_units (gTr_hd t (j + i))) n + sm := by
  intro n
  induction n with
  | zero =>
    intro j sm h
    rw [L_X6_units_s, if_pos (by omega)]
    show sm = 0 + sm
    rw [Int64.zero_add]
  | succ n ih =>
    intro j sm h
    rw [L_X6_units_s, if_neg (by omega)]
    show (L_X6_units t (n + 1) (sm + f_X2_units (gTr_hd t j)) (j + 1)).1 = _
    rw [ih (j + 1) _ (by omega)]
    have hz : ∀ (m : Nat) (f : Nat → Int64), zsum f (m + 1) = f 0 + zsum (fun i => f (i + 1)) m := by
      intro m
      induction m with
      | zero => intro f; show 0 + f 0 = f 0 + 0; rw [Int64.zero_add, Int64.add_zero]
      | succ m ihm => intro f; show zsum f (m + 1) + f (m + 1) = f 0 + (zsum (fun i => f (i + 1)) m + f (m + 1)); rw [ihm f, Int64.add_assoc]
    rw [hz n]
    have e : zsum (fun i => f_X2_units (gTr_hd t (j + 1 + i))) n = zsum (fun i => f_X2_units (gTr_hd t (j + (i + 1)))) n := zsum_congr n (fun i _ => by rw [show j + 1 + i = j + (i + 1) by omega])
    rw [e]
    show _ = f_X2_units (gTr_hd t j) + _ + sm
    generalize zsum (fun i => f_X2_units (gTr_hd t (j + (i + 1)))) n = Z
    generalize f_X2_units (gTr_hd t j) = u
    rw [Int64.add_comm sm u, ← Int64.add_assoc, Int64.add_comm Z u]
theorem zsum_cons (f : Nat → Int64) : ∀ m : Nat, zsum f (m + 1) = f 0 + zsum (fun i => f (i + 1)) m
  | 0 => by show 0 + f 0 = f 0 + 0; rw [Int64.zero_add, Int64.add_zero]
  | m + 1 => by
    show zsum f (m + 1) + f (m + 1) = f 0 + (zsum (fun i => f (i + 1)) m + f (m + 1))
    rw [zsum_cons f m, Int64.add_assoc]
theorem L_new_z (t : zTr) : ∀ (n j : Nat) (sm : Int64), j + n = 6 → (L_X6_newUnits t (n + 1) sm j).1 = zsum (fun i => gHd_new (gTr_hd t (j + i))) n + sm := by
  intro n
  induction n with
  | zero =>
    intro j sm h
    rw [L_X6_newUnits_s, if_pos (by omega)]
    show sm = 0 + sm
    rw [Int64.zero_add]
  | succ n ih =>
    intro j sm h
    rw [L_X6_newUnits_s, if_neg (by omega), ih (j + 1) _ (by omega), zsum_cons]
    have e : zsum (fun i => gHd_new (gTr_hd t (j + 1 + i))) n = zsum (fun i => gHd_new (gTr_hd t (j + (i + 1)))) n := zsum_congr n (fun i _ => by rw [show j + 1 + i = j + (i + 1) by omega])
    rw [e]
    show _ = gHd_new (gTr_hd t j) + _ + sm
    generalize zsum (fun i => gHd_new (gTr_hd t (j + (i + 1)))) n = Z
    generalize gHd_new (gTr_hd t j) = u
    rw [Int64.add_comm sm u, ← Int64.add_assoc, Int64.add_comm Z u]
theorem units_z (t : zTr) : f_X6_units t = zsum (fun i => f_X2_units (gTr_hd t i)) 6 := by
  have h := L_units_z t 6 0 0 (by omega)
  rw [Int64.add_zero] at h
  refine h.trans (zsum_congr 6 (fun i _ => by rw [Nat.zero_add]))
theorem new_z (t : zTr) : f_X6_newUnits t = zsum (fun i => gHd_new (gTr_hd t i)) 6 := by
  have h := L_new_z t 6 0 0 (by omega)
  rw [Int64.add_zero] at h
  refine h.trans (zsum_congr 6 (fun i _ => by rw [Nat.zero_add]))
theorem hunits_int {T : zTr} (hH : iH T) {h : Nat} (hh : h < 6) : (f_X2_units (gTr_hd T h)).toInt = uU T h := by
  have h1 := hH.1 h hh
  have h2 := uU_le hH hh
  have h3 := hH.2
  have h4 : uU T h = uO T h + uN T h := rfl
  exact i64_add (x := uO T h) (y := uN T h) rfl rfl (by omega) (by omega)
theorem units_int {T : zTr} (hH : iH T) : (f_X6_units T).toInt = uAll T := by
  rw [units_z]
  refine zsum_int 6 (fun i hi => hunits_int hH hi) (fun k hk => ?_)
  have h1 := isum_nn (f := uU T) k (fun i hi => uU_nn hH i (by omega))
  have h2 := isum_mono (f := uU T) (n := k) 6 hk (uU_nn hH)
  have h3 := hH.2
  have h4 : uAll T = isum (uU T) 6 := rfl
  omega
theorem new_int {T : zTr} (hH : iH T) : (f_X6_newUnits T).toInt = uNew T := by
  rw [new_z]
  refine zsum_int 6 (fun i hi => rfl) (fun k hk => ?_)
  have h1 := isum_nn (f := uN T) k (fun i hi => (hH.1 i (by omega)).2)
  have h2 := isum_mono (f := uN T) (n := k) 6 hk (fun h hh => (hH.1 h hh).2)
  have h3 := hH.2
  have h4 : uNew T = isum (uN T) 6 := rfl
  have h5 := uNew_le hH
  show -9223372036854775808 ≤ isum (uN T) k ∧ isum (uN T) k < 9223372036854775808
  omega
/-! the reference's sums are the class's -/
theorem issue_eq {T : zTr} {S : zMs} (hR : RC T (gMs_at S)) : f_X8_issue S = f_X6_units T := by
  rw [units_z]
  refine zsum_congr 6 (fun i hi => ?_)
  obtain ⟨h0, h1, -⟩ := hR.2.2.2.2.2.2.2 i hi
  show gMs_at S (19 + 7 * i + 0) + gMs_at S (19 + 7 * i + 1) = _
  rw [h0, h1]
  rfl
theorem allNew_eq {T : zTr} {S : zMs} (hR : RC T (gMs_at S)) : f_X8_allNew S = f_X6_newUnits T := by
  rw [new_z]
  refine zsum_congr 6 (fun i hi => ?_)
  obtain ⟨h0, h1, -⟩ := hR.2.2.2.2.2.2.2 i hi
  exact h1
theorem hunits_eq {T : zTr} {S : zMs} (hR : RC T (gMs_at S)) {h : Nat} (hh : h < 6) : f_X8_units S h = f_X2_units (gTr_hd T h) := by
  obtain ⟨h0, h1, -⟩ := hR.2.2.2.2.2.2.2 h hh
  show gMs_at S (19 + 7 * h + 0) + gMs_at S (19 + 7 * h + 1) = _
  rw [h0, h1]
  rfl
theorem value_eq {T : zTr} {S : zMs} (hR : RC T (gMs_at S)) : f_X8_value S = f_X6_value T := by
  show gMs_at S 5 + gMs_at S 6 * gMs_at S 7 = _
  rw [hR.2.1, hR.2.2.1, hR.2.2.2.1]
  rfl
theorem units0_iff {T : zTr} (hH : iH T) : f_X6_units T ≤ 0 ↔ f_X6_units T = 0 := by
  rw [i64_le_iff, i64_eq_iff, units_int hH]
  have h1 := uAll_nn hH
  have h2 : (0 : Int64).toInt = 0 := rfl
  omega
theorem new0_iff {T : zTr} (hH : iH T) : f_X6_newUnits T ≤ 0 ↔ f_X6_newUnits T = 0 := by
  rw [i64_le_iff, i64_eq_iff, new_int hH]
  have h1 := uNew_nn hH
  have h2 : (0 : Int64).toInt = 0 := rfl
  omega
theorem if_iff {α : Type} {p q : Prop} [Decidable p] [Decidable q] {x y : α} (h : p ↔ q) : (if p then x else y) = (if q then x else y) := by
  by_cases hp : p
  · rw [if_pos hp, if_pos (h.mp hp)]
  · rw [if_neg hp, if_neg (fun r => hp (h.mpr r))]
theorem middle_eq {T : zTr} {S : zMs} (hR : RC T (gMs_at S)) (hH : iH T) : f_X8_middle S = f_X6_middle T := by
  show (if f_X8_issue S = 0 then (100000 : Int64) else 1000 * f_X8_value S / f_X8_issue S) = (if f_X6_units T ≤ 0 then 100000 else 1000 * f_X6_value T / f_X6_units T)
  rw [issue_eq hR, value_eq hR]
  exact if_iff (units0_iff hH).symm
theorem ui_eq {T : zTr} {S : zMs} (hR : RC T (gMs_at S)) (hH : iH T) : f_X8_incomeOfUnit S = f_X6_unitIncome T := by
  show (if f_X8_issue S = 0 then (0 : Int64) else 1000 * gMs_at S 8 / f_X8_issue S) = (if f_X6_units T ≤ 0 then 0 else 1000 * gTr_pool T / f_X6_units T)
  rw [issue_eq hR, hR.2.2.2.2.1]
  exact if_iff (units0_iff hH).symm
theorem cost_eq {T : zTr} {S : zMs} (hR : RC T (gMs_at S)) : f_X8_cost S = f_X6_fee T := by
  show (gMs_at S 7 * gMs_at S 4 + 999) / 1000 = _
  rw [hR.2.2.2.1, hR.1 4 (by omega)]
  rfl
