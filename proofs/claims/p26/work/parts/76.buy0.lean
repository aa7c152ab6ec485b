/-! behind the paying -/
def iY (d : Int) (o : zOd) : Prop := ∀ i, i < gOd_n o → (gOd_dy o i).toInt ≤ d
theorem iY_drop {d : Int} {o : zOd} (h : iY d o) : iY d (f_X4_dropEmpty o) := fun i hi => by
  have hm : trO (f_X4_dropEmpty o) i ∈ oL (f_X4_dropEmpty o) := oL_mem.mpr ⟨i, hi, rfl⟩
  rw [drop_oL] at hm
  obtain ⟨j, hj, e⟩ := oL_mem.mp (List.mem_filter.mp hm).1
  have := h j hj
  have e2 : gOd_dy o j = gOd_dy (f_X4_dropEmpty o) i := congrArg (fun t => t.2.2) e
  rw [← e2]; exact this
/-- what holds of a trust behind the paying of those who leave -/
def iM (T0 T : zTr) : Prop :=
  (gTr_st T = gTr_st T0 ∧ gTr_quote T = gTr_quote T0 ∧ gTr_day T = gTr_day T0 ∧ gTr_bu T = gTr_bu T0) ∧
  (0 ≤ (gTr_lots T).toInt ∧ (gTr_lots T).toInt ≤ 1000) ∧ (0 ≤ (gTr_pool T).toInt ∧ (gTr_pool T).toInt ≤ (gTr_cash T).toInt) ∧
  (∀ W : Int, 5 * (gTr_quote T0).toInt ≤ W → 5 * (gTr_cash T).toInt + W * (gTr_lots T).toInt ≤ 5 * (gTr_cash T0).toInt + W * (gTr_lots T0).toInt) ∧
  iH T ∧ iE T ∧ iO 1000000000 (gTr_le T) ∧ ∀ d, iY d (gTr_le T0) → iY d (gTr_le T)
theorem pay_all {S0 : zMs} {T0 : zTr} {x : zDd} {sm : Nat → Int64} {due : Nat} {T : zTr} {X : zMs} (hc : ctx T0 x sm due) (h : PS S0 T0 x sm T X 0) :
    simD S0 sm (f_X0_payLeavers x T due) (f_X8_payThem X (gDd_price x) (gDd_ui x)) ∧ iM T0 (f_X0_payLeavers x T due) ∧ iLa x (gTr_la (f_X0_payLeavers x T due)) ∧ iSd T0 (f_X0_payLeavers x T due) := by
  have hzn := PS_n hc h
  obtain ⟨hR, hP, hL, hD⟩ := pay_loop hc due 0 (zcn X 122 - 0 + 1) T X true (by omega) (by omega) h
  unfold f_X0_payLeavers f_X8_payThem
  rw [zsl_e]
  dsimp only
  rw [show due - 0 + 1 = due + 1 by omega]
  generalize L_X0_pay x due (due + 1) T true 0 = C at hR hP hL hD ⊢
  generalize L_X8_pay1 (gDd_price x) (gDd_ui x) (zcn X 122 - 0 + 1) X true 0 = M at hR ⊢
  obtain ⟨hX, hRC, hRb, hRl, hRm⟩ := hR
  obtain ⟨⟨e1, e2, e3, e4, e5, e6, e7⟩, hl, hpc, hW, hH, hU, hE, hz⟩ := hP
  have hn20 : gOd_n (gTr_le C.1) ≤ 20 := by rw [e5]; exact hc.2.1.1
  have hz0 : ∀ i, i < gOd_n (gTr_le C.1) → 0 ≤ (gOd_sz (gTr_le C.1) i).toInt := fun i hi => (hz i (by omega)).2.1
  obtain ⟨d1, d2, d3⟩ := drop_RO hRl hn20 hz0
  generalize (L_X8_pay2 (zcn M.1 122 + 1) M.1 (zcn M.1 122)).1 = X2 at d1 d2 d3 ⊢
  have hbu20 : gOd_n (gTr_bu C.1) ≤ 20 := by rw [e4]; exact hc.2.2.2.2.2.2.2.1
  refine ⟨⟨d3.trans (form_at hX _), ?_, ?_, d1, ?_⟩, ⟨⟨e1, e2, e3, e4⟩, hl, hpc, hW, hH, fun h hh => ?_, ?_, fun d hd => ?_⟩, hL, hD⟩
  · exact RC_ext (T := C.1) hRC (fun i hi => d2 i (by omega))
  · exact RO_ext hbu20 hRb (fun i h1 h2 => d2 i (by omega))
  · exact ⟨(d2 12 (by omega)).trans hRm.1, (d2 13 (by omega)).trans hRm.2.1, (d2 14 (by omega)).trans hRm.2.2.1, (d2 17 (by omega)).trans hRm.2.2.2⟩
  · show hS (f_X4_dropEmpty (gTr_le C.1)) h ≤ _
    rw [hS_drop hz0]
    exact hE h hh
  · refine iO_drop hn20 (fun i hi => ⟨?_, ?_⟩) ?_
    · rw [e6]; exact (hc.2.1.2.1 i (by omega)).1
    · have h1 := (hz i (by omega)).2.2
      have h2 := (hc.2.1.2.1 i (by omega)).2.2
      omega
    · unfold oSort
      rw [e5, e7]
      exact hc.2.1.2.2
  · refine iY_drop (fun i hi => ?_)
    rw [e7]
    exact hd i (by omega)
/-! the buying -/
def pS (o : zOd) (k : Nat) : Int := sS o k (gOd_n o)
/-- what holds of a trust while those who buy come in; T1 is the trust ahead of it -/
def iW (T0 T1 T : zTr) (k : Nat) : Prop :=
  (gTr_st T = gTr_st T0 ∧ gTr_quote T = gTr_quote T0 ∧ gTr_day T = gTr_day T0 ∧ gTr_le T = gTr_le T1 ∧ gTr_lots T = gTr_lots T1 ∧ gOd_n (gTr_bu T) = gOd_n (gTr_bu T0) ∧ gOd_ho (gTr_bu T) = gOd_ho (gTr_bu T0) ∧ gOd_dy (gTr_bu T) = gOd_dy (gTr_bu T0)) ∧
  (0 ≤ (gTr_pool T).toInt ∧ (gTr_pool T).toInt ≤ (gTr_cash T).toInt) ∧ (gTr_cash T).toInt + pS (gTr_bu T0) k ≤ (gTr_cash T1).toInt + pS (gTr_bu T0) 0 ∧
  iH T ∧ iE T ∧ (∀ i, i < gOd_n (gTr_bu T0) → (k ≤ i → gOd_sz (gTr_bu T) i = gOd_sz (gTr_bu T0) i) ∧ (i < k → gOd_sz (gTr_bu T) i = 0))
/-- both sides: the reference has taken the first orders out -/
def simB (S0 : zMs) (sm : Nat → Int64) (T0 T : zTr) (k : Nat) (X : zMs) : Prop := X = sMs_sh (sMs_at S0 (gMs_at X)) sm ∧ RC T (gMs_at X) ∧ RO 122 (gTr_le T) (gMs_at X) ∧ RMd (gTr_la T) (gMs_at X) ∧ gMs_at X 61 = lN (gOd_n (gTr_bu T0) - k) ∧ aL (gMs_at X) 61 (gOd_n (gTr_bu T0) - k) = ((oL (gTr_bu T0)).drop k).map upT
/-- what is told of the day does not change by those who come in -/
def iLb (x : zDd) (la1 la : zLd) : Prop := iLa x la ∧ gLd_sold la = gLd_sold la1 ∧ gLd_left la = gLd_left la1
theorem pS_step {o : zOd} {k : Nat} (hk : k < gOd_n o) : pS o k = (gOd_sz o k).toInt + pS o (k + 1) := by
  have h := sS_split (o := o) (fr := k) (to := k + 1) (n := gOd_n o) (by omega) (by omega)
  unfold pS
  rw [h]
  have : sS o k (k + 1) = (gOd_sz o k).toInt := by
    unfold sS
    rw [show k + 1 - k = 1 by omega]
    show 0 + (gOd_sz o (k + 0)).toInt = _
    rw [Nat.add_zero]; omega
  rw [this]
