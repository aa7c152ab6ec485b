/-! bound units -/
theorem isum_swap (f : Nat → Nat → Int) (n : Nat) : ∀ m : Nat, isum (fun h => isum (fun i => f h i) n) m = isum (fun i => isum (fun h => f h i) m) n
  | 0 => (isum_zero n (fun _ _ => rfl)).symm
  | m + 1 => by
    show isum (fun h => isum (fun i => f h i) n) m + isum (fun i => f m i) n = _
    rw [isum_swap f n m, ← isum_add]
    rfl
theorem isum_one (s : Int) {j : Nat} (hj : j < 2 ^ 31) : ∀ m : Nat, m ≤ 6 → isum (fun h => if nI j = nI h then s else 0) m = if j < m then s else 0
  | 0, _ => by rw [if_neg (by omega)]; rfl
  | m + 1, hm => by
    show isum (fun h => if nI j = nI h then s else 0) m + (if nI j = nI m then s else 0) = _
    rw [isum_one s hj m (by omega), if_iff (nI_eq hj (show m < 2 ^ 31 by omega))]
    by_cases c : j < m
    · rw [if_pos c, if_neg (by omega), if_pos (by omega)]; omega
    · rw [if_neg c]
      by_cases e : j = m
      · rw [if_pos e, if_pos (by omega)]; omega
      · rw [if_neg e, if_neg (by omega)]; omega
theorem tot_hS {mx : Int} {o : zOd} (hO : iO mx o) : isum (hS o) 6 = sS o 0 (gOd_n o) := by
  have h := isum_swap (fun h i => if gOd_ho o i = nI h then (gOd_sz o i).toInt else 0) (gOd_n o) 6
  refine Eq.trans h (isum_congr _ (fun i hi => ?_))
  have hv := (hO.2.1 i hi).1
  have e := xho_eq hv
  have hl := xho_lt hv
  generalize (gOd_ho o i).toNatClampNeg = j at e hl
  rw [e]
  have := isum_one (gOd_sz o i).toInt (show j < 2 ^ 31 by omega) 6 (Nat.le_refl _)
  rw [if_pos hl] at this
  rw [Nat.zero_add]
  exact this
/-- no holder has more bound units than units -/
def iE (T : zTr) : Prop := ∀ h, h < 6 → hS (gTr_le T) h ≤ uU T h
theorem tot_le {T : zTr} {mx : Int} (hO : iO mx (gTr_le T)) (hE : iE T) : sS (gTr_le T) 0 (gOd_n (gTr_le T)) ≤ uAll T := by
  rw [← tot_hS hO]
  exact isum_le 6 hE
/-- the bound units of a holder are at least those of each of its orders -/
theorem hS_ge {o : zOd} (hz : ∀ i, i < gOd_n o → 0 ≤ (gOd_sz o i).toInt) {i : Nat} (hi : i < gOd_n o) {h : Nat} (e : gOd_ho o i = nI h) : (gOd_sz o i).toInt ≤ hS o h := by
  have := isum_ge (f := fun i => if gOd_ho o i = nI h then (gOd_sz o i).toInt else 0) (gOd_n o) i hi (fun j hj => by
    split
    · exact hz j hj
    · exact Int.le_refl _)
  rw [if_pos e] at this
  exact this
/-- an order's size told anew -/
theorem hS_upd {o o' : zOd} (hn : gOd_n o' = gOd_n o) (hh : gOd_ho o' = gOd_ho o) {i : Nat} (hi : i < gOd_n o) (hs : ∀ j, j ≠ i → gOd_sz o' j = gOd_sz o j) (h : Nat) : hS o' h = hS o h - (if gOd_ho o i = nI h then (gOd_sz o i).toInt - (gOd_sz o' i).toInt else 0) := by
  unfold hS
  rw [hn, hh, isum_upd (f := fun i => if gOd_ho o i = nI h then (gOd_sz o i).toInt else 0) (gOd_n o) i hi (fun j _ hj => by rw [hs j hj])]
  split <;> omega
/-! what the reference's functions leave alone -/
theorem f_go_form (S : zMs) (h : Nat) (m i : Int64) : f_X8_goUnits S h m i = sMs_at S (gMs_at (f_X8_goUnits S h m i)) := by
  unfold f_X8_goUnits; rw [zsl_e]; rfl
theorem f_make_form (S : zMs) (h : Nat) (m i : Int64) : f_X8_makeUnits S h m i = sMs_at S (gMs_at (f_X8_makeUnits S h m i)) := by
  unfold f_X8_makeUnits; rw [zsl_e]; rfl
theorem f_sell_form (S : zMs) (a : Int64) : f_X8_sellFor S a = sMs_at S (gMs_at (f_X8_sellFor S a)) := by
  unfold f_X8_sellFor; rw [zsl_e]
theorem f_buy_form (S : zMs) (h : Nat) (a p i : Int64) : f_X8_buyFor S h a p i = sMs_at S (gMs_at (f_X8_buyFor S h a p i)) := by
  unfold f_X8_buyFor; rw [zsl_e]
  dsimp only
  generalize (if p = 0 then (0 : Int64) else 1000 * a / p) = x
  rw [f_make_form]
  by_cases c1 : x = 0
  · rw [if_pos c1]
  · rw [if_neg c1]
    by_cases c2 : f_X8_issue S + x ≤ 1000000000
    · rw [if_pos c2]; rfl
    · rw [if_neg c2]
/-! the paying of those who leave -/
/-- what holds of a trust while those who leave are paid; T0 is the trust ahead of it -/
def iP (T0 T : zTr) (k : Nat) : Prop :=
  (gTr_st T = gTr_st T0 ∧ gTr_quote T = gTr_quote T0 ∧ gTr_day T = gTr_day T0 ∧ gTr_bu T = gTr_bu T0 ∧ gOd_n (gTr_le T) = gOd_n (gTr_le T0) ∧ gOd_ho (gTr_le T) = gOd_ho (gTr_le T0) ∧ gOd_dy (gTr_le T) = gOd_dy (gTr_le T0)) ∧
  (0 ≤ (gTr_lots T).toInt ∧ (gTr_lots T).toInt ≤ 1000) ∧ (0 ≤ (gTr_pool T).toInt ∧ (gTr_pool T).toInt ≤ (gTr_cash T).toInt) ∧
  (∀ W : Int, 5 * (gTr_quote T0).toInt ≤ W → 5 * (gTr_cash T).toInt + W * (gTr_lots T).toInt ≤ 5 * (gTr_cash T0).toInt + W * (gTr_lots T0).toInt) ∧
  iH T ∧ uAll T ≤ uAll T0 ∧ iE T ∧ (∀ i, i < gOd_n (gTr_le T0) → (k ≤ i → gOd_sz (gTr_le T) i = gOd_sz (gTr_le T0) i) ∧ 0 ≤ (gOd_sz (gTr_le T) i).toInt ∧ (gOd_sz (gTr_le T) i).toInt ≤ (gOd_sz (gTr_le T0) i).toInt)
/-- what is told of the day -/
def iLa (x : zDd) (la : zLd) : Prop := gLd_ended la = true ∧ gLd_price la = gDd_price x ∧ gLd_swung la = gDd_swung x ∧ gLd_still la = gDd_wanted x - gLd_left la
/-- both sides' states while a day ends -/
def simD (S0 : zMs) (sm : Nat → Int64) (T : zTr) (X : zMs) : Prop := X = sMs_sh (sMs_at S0 (gMs_at X)) sm ∧ RC T (gMs_at X) ∧ RO 61 (gTr_bu T) (gMs_at X) ∧ RO 122 (gTr_le T) (gMs_at X) ∧ RMd (gTr_la T) (gMs_at X)
theorem RC_la {T : zTr} {A : Nat → Int64} (l : zLd) (h : RC T A) : RC (sTr_la T l) A := h
theorem RO_ext {kd : Nat} {o : zOd} {A B : Nat → Int64} (hn : gOd_n o ≤ 20) (h : RO kd o A) (e : ∀ i, kd ≤ i → i < kd + 61 → B i = A i) : RO kd o B := by
  refine ⟨(e kd (Nat.le_refl _) (by omega)).trans h.1, fun i hi => ?_⟩
  rw [e _ (by omega) (by omega), e _ (by omega) (by omega), e _ (by omega) (by omega)]
  exact h.2 i hi
