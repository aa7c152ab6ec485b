/-! all who buy -/
def ctxB (T0 T1 : zTr) (x : zDd) (day : Int32) : Prop := iB T0 ∧ (gDd_price x).toInt = pI T0 ∧ (gDd_ui x).toInt = iI T0 ∧ iO 1000000 (gTr_bu T0) ∧ (gTr_cash T1).toInt + pS (gTr_bu T0) 0 ≤ 10000000000 ∧ gTr_day T0 = day
/-- both sides while those who buy come in -/
def BS (S0 : zMs) (T0 T1 : zTr) (x : zDd) (sm : Nat → Int64) (T : zTr) (k : Nat) (X : zMs) : Prop := simB S0 sm T0 T k X ∧ iW T0 T1 T k ∧ iLa x (gTr_la T) ∧ gLd_sold (gTr_la T) = gLd_sold (gTr_la T1)
theorem pS_nn {mx : Int} {o : zOd} (hO : iO mx o) (k : Nat) : 0 ≤ pS o k := sS_nn hO (Nat.le_refl _)
theorem BS_step {S0 : zMs} {T0 T1 T : zTr} {x : zDd} {sm : Nat → Int64} {k : Nat} {X : zMs} {day : Int32} (hc : ctxB T0 T1 x day) (h : BS S0 T0 T1 x sm T k X) (hk : k < gOd_n (gTr_bu T0)) :
    BS S0 T0 T1 x sm (sTr_bu (buyT x T ((gOd_ho (gTr_bu T) k).toNatClampNeg) (gOd_sz (gTr_bu T) k).toInt64 (mdC x (gOd_sz (gTr_bu T) k).toInt64)) (sOd_sz (gTr_bu (buyT x T ((gOd_ho (gTr_bu T) k).toNatClampNeg) (gOd_sz (gTr_bu T) k).toInt64 (mdC x (gOd_sz (gTr_bu T) k).toInt64))) (upd (gOd_sz (gTr_bu (buyT x T ((gOd_ho (gTr_bu T) k).toNatClampNeg) (gOd_sz (gTr_bu T) k).toInt64 (mdC x (gOd_sz (gTr_bu T) k).toInt64)))) k (nI 0)))) (k + 1) (f_X8_takeOut (f_X8_buyFor X (zhb X) (f_X8_ofOrder X 61 0 1) (gDd_price x) (gDd_ui x)) 61 0) ∧
    (f_X8_ofOrder X 61 0 2 = (gOd_dy (gTr_bu T0) k).toInt64 ∧ gMs_at X 10 = day.toInt64 ∧ f_X8_ofOrder X 61 0 0 = lN (zhb X) ∧ zhb X < 6) := by
  obtain ⟨hB, hp, hi, hO, hcash, hday⟩ := hc
  obtain ⟨⟨hX, hRC, hRl, hRm, h61, hal⟩, ⟨⟨e1, e2, e3, e4, e5, e6, e7, e8⟩, hpc, hW, hH, hE, hz⟩, hL, hSd⟩ := h
  have hn20 := hO.1
  obtain ⟨o1, o2, o3⟩ := hO.2.1 k hk
  -- the first order
  have hhead : trA (gMs_at X) 61 0 = upT (trO (gTr_bu T0) k) := by
    have h1 : (aL (gMs_at X) 61 (gOd_n (gTr_bu T0) - k))[0]? = some (trA (gMs_at X) 61 0) := by
      unfold aL
      rw [List.getElem?_map, List.getElem?_range (by omega)]; rfl
    rw [hal, List.getElem?_map, List.getElem?_drop] at h1
    have h2 : (oL (gTr_bu T0))[k + 0]? = some (trO (gTr_bu T0) k) := by
      unfold oL
      rw [List.getElem?_map, List.getElem?_range (by omega)]; rfl
    rw [h2] at h1
    exact (Option.some.inj h1).symm
  have f0 : f_X8_ofOrder X 61 0 0 = (gOd_ho (gTr_bu T0) k).toInt64 := congrArg (fun t => t.1) hhead
  have f1 : f_X8_ofOrder X 61 0 1 = (gOd_sz (gTr_bu T0) k).toInt64 := congrArg (fun t => t.2.1) hhead
  have f2 : f_X8_ofOrder X 61 0 2 = (gOd_dy (gTr_bu T0) k).toInt64 := congrArg (fun t => t.2.2) hhead
  have j1 := xho_eq o1
  have j2 := xho_lt o1
  have hzk := (hz k hk).1 (Nat.le_refl _)
  rw [e7, hzk]
  generalize hj : (gOd_ho (gTr_bu T0) k).toNatClampNeg = j at j1 j2 ⊢
  have hzb : zhb X = j := by
    unfold zhb
    rw [f0, j1, i32_l, nI_int (by omega)]; rfl
  have h10 : gMs_at X 10 = day.toInt64 := by rw [hRC.2.2.2.2.2.2.1, e3, hday]
  refine ⟨?_, f2, h10, by rw [f0, j1, nI_l (by omega), hzb], by rw [hzb]; exact j2⟩
  rw [hzb, f1]
  have hps := pS_step hk
  have hps0 := pS_nn hO (k + 1)
  have ham : ((gOd_sz (gTr_bu T0) k).toInt64).toInt = (gOd_sz (gTr_bu T0) k).toInt := i32_l _
  obtain ⟨T2, b0, b1, b2, b3, ⟨b4, b5, b6, b7, b8, b9⟩, b10, b11, b12, b13, b14, b15⟩ := buy_one (am := (gOd_sz (gTr_bu T0) k).toInt64) hB hp hi (by rw [ham]; exact ⟨o2, o3⟩) j2 hRC hRm hpc (by omega) hH
  rw [b0]
  generalize hX2 : f_X8_buyFor X j (gOd_sz (gTr_bu T0) k).toInt64 (gDd_price x) (gDd_ui x) = X2 at b1 b2 b3
  have hX2f : X2 = sMs_sh (sMs_at S0 (gMs_at X2)) sm := by
    have h := f_buy_form X j (gOd_sz (gTr_bu T0) k).toInt64 (gDd_price x) (gDd_ui x)
    rw [hX2] at h
    exact h.trans (form_at hX _)
  have h61b : gMs_at X2 61 = lN (gOd_n (gTr_bu T0) - k) := (b3 61 (by omega)).trans h61
  have halb : aL (gMs_at X2) 61 (gOd_n (gTr_bu T0) - k) = ((oL (gTr_bu T0)).drop k).map upT := by
    rw [← hal]
    refine map_range_congr _ (fun i hi => ?_)
    unfold trA
    rw [b3 _ (by omega), b3 _ (by omega), b3 _ (by omega)]
  obtain ⟨t1, t2, t3, t4, t5⟩ := takeOut_at X2 61 0 _ h61b (by omega) (by omega)
  have tl := takeOut_aL X2 61 0 _ h61b (by omega) (by omega)
  rw [ham] at b11
  have hF : ∀ i, i ≠ k → upd (gOd_sz (gTr_bu T2)) k (nI 0) i = gOd_sz (gTr_bu T2) i := fun i hi => by rw [upd_at, if_neg hi]
  have hFk : upd (gOd_sz (gTr_bu T2)) k (nI 0) k = nI 0 := by rw [upd_at, if_pos rfl]
  generalize upd (gOd_sz (gTr_bu T2)) k (nI 0) = F at hF hFk
  refine ⟨⟨?_, ?_, ?_, ?_, ?_, ?_⟩, ⟨⟨b4.trans e1, b5.trans e2, b6.trans e3, b7.trans e4, b8.trans e5, ?_, ?_, ?_⟩, b10, ?_, b12, ?_, ?_⟩, b14 hL, b15.trans hSd⟩
  · rw [t5]; exact form_at hX2f _
  · exact RC_ext (T := T2) b1 (fun i hi => t4 i (by omega))
  · show RO 122 (gTr_le T2) _
    rw [b7]
    have hn : ∀ i, 122 ≤ i → gMs_at (f_X8_takeOut X2 61 0) i = gMs_at X i := fun i hi => (t4 i (by omega)).trans (b3 i (by omega))
    refine ⟨(hn _ (by omega)).trans hRl.1, fun i hi => ?_⟩
    rw [hn _ (by omega), hn _ (by omega), hn _ (by omega)]
    exact hRl.2 i hi
  · exact ⟨(t4 12 (by omega)).trans b2.1, (t4 13 (by omega)).trans b2.2.1, (t4 14 (by omega)).trans b2.2.2.1, (t4 17 (by omega)).trans b2.2.2.2⟩
  · rw [t1]; rw [show gOd_n (gTr_bu T0) - k - 1 = gOd_n (gTr_bu T0) - (k + 1) by omega]
  · rw [show gOd_n (gTr_bu T0) - (k + 1) = gOd_n (gTr_bu T0) - k - 1 by omega, tl, halb, List.eraseIdx_zero, ← List.map_tail, List.tail_drop]
  · show gOd_n (gTr_bu T2) = _
    rw [b9, e6]
  · show gOd_ho (gTr_bu T2) = _
    rw [b9, e7]
  · show gOd_dy (gTr_bu T2) = _
    rw [b9, e8]
  · show (gTr_cash T2).toInt + _ ≤ _
    omega
  · intro h hh
    show hS (gTr_le T2) h ≤ uU T2 h
    rw [b7]
    exact Int.le_trans (hE h hh) (b13 h hh)
  · intro i hi
    show (k + 1 ≤ i → F i = _) ∧ (i < k + 1 → F i = 0)
    by_cases q : i = k
    · subst q
      exact ⟨fun z => by omega, fun _ => hFk⟩
    · rw [hF i q, b9]
      exact ⟨fun z => (hz i hi).1 (by omega), fun z => (hz i hi).2 (by omega)⟩
