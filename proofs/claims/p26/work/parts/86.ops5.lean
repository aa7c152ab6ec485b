/-! orders -/
theorem hour_eq (hour : Int32) : f_X8_in hour.toInt64 0 23 = f_X6_isHour hour := by
  have e1 : f_X8_in hour.toInt64 0 23 = false ↔ ¬ (0 ≤ hour.toInt ∧ hour.toInt ≤ 23) := by rw [in_false, i32_l]; rfl
  have z0 : (0 : Int32).toInt = 0 := rfl
  have z3 : (nI 23).toInt = 23 := rfl
  have e2 : f_X6_isHour hour = false ↔ ¬ (0 ≤ hour.toInt ∧ hour.toInt ≤ 23) := by
    show (if hour < 0 then false else if nI 23 < hour then false else true) = false ↔ _
    by_cases c1 : hour < 0
    · rw [if_pos c1]
      rw [i32_lt_iff, z0] at c1
      exact ⟨fun _ => by omega, fun _ => rfl⟩
    · rw [if_neg c1]
      rw [i32_lt_iff, z0] at c1
      by_cases c2 : nI 23 < hour
      · rw [if_pos c2]
        rw [i32_lt_iff, z3] at c2
        exact ⟨fun _ => by omega, fun _ => rfl⟩
      · rw [if_neg c2]
        rw [i32_lt_iff, z3] at c2
        exact ⟨fun z => (by cases z), fun z => absurd (show 0 ≤ hour.toInt ∧ hour.toInt ≤ 23 by omega) z⟩
  cases q1 : f_X8_in hour.toInt64 0 23 <;> cases q2 : f_X6_isHour hour
  · rfl
  · have := e2.mpr (e1.mp q1); rw [this] at q2; cases q2
  · have := e1.mpr (e2.mp q2); rw [this] at q1; cases q1
  · rfl
theorem full_eq {S : zMs} {kd : Nat} {o : zOd} (hR : RO kd o (gMs_at S)) (hn : gOd_n o ≤ 20) : (lN (zcn S kd) = 20) ↔ ¬ f_X4_isFull o = false := by
  rw [zcn_o hR hn]
  have h : f_X4_isFull o = false ↔ gOd_n o < 20 := by
    show (if gOd_n o < 20 then false else true) = false ↔ _
    by_cases c : gOd_n o < 20
    · rw [if_pos c]; exact ⟨fun _ => c, fun _ => rfl⟩
    · rw [if_neg c]; exact ⟨fun z => (by cases z), fun z => absurd z c⟩
  rw [h, i64_eq_iff, lN_int (by omega)]
  show (gOd_n o : Int) = 20 ↔ _
  omega
theorem day_eq2 {T : zTr} {S : zMs} {D : Int} (hI : Inv D T) (hD : D ≤ 2000000000) (hR : RC T (gMs_at S)) (hour : Int32) : f_X8_day S hour = (f_X6_dayOf T hour).toInt64 ∧ (gTr_day T).toInt ≤ (f_X6_dayOf T hour).toInt ∧ (f_X6_dayOf T hour).toInt ≤ (gTr_day T).toInt + 1 := by
  have hdy := hI.2.2.2.2.1
  have h1 : (gTr_day T + nI 1).toInt = (gTr_day T).toInt + 1 := i32_add rfl rfl (by omega) (by omega)
  have h2 : (gTr_day T).toInt64 + 1 = (gTr_day T + nI 1).toInt64 := i64_eq_iff.mpr (by
    rw [i32_l, h1]
    exact i64_add (i32_l _) rfl (by omega) (by omega))
  unfold f_X8_day f_X6_dayOf
  rw [hR.1 0 (by omega), hR.2.2.2.2.2.2.1, h2]
  dsimp only
  by_cases c : gTr_st T 0 ≤ hour
  · rw [if_pos c, if_pos (i32_l_le.mpr c)]; exact ⟨rfl, by omega, by omega⟩
  · rw [if_neg c, if_neg (fun z => c (i32_l_le.mp z))]; exact ⟨rfl, by omega, by omega⟩
theorem putIn_eq {T : zTr} {S : zMs} {D : Int} {kd : Nat} {o : zOd} (hI : Inv D T) (hD : D ≤ 2000000000) (hRC : RC T (gMs_at S)) (hR : RO kd o (gMs_at S)) (hn : gOd_n o < 20) (h sz hour : Int32) : f_X8_putIn S kd h sz.toInt64 hour = sMs_at S (zput (gMs_at S) kd (cpos (f_X6_dayOf T hour) (gOd_dy o) (gOd_n o)) (gOd_n o) h.toInt64 sz.toInt64 (f_X6_dayOf T hour).toInt64) := by
  unfold f_X8_putIn
  rw [(day_eq2 hI hD hRC hour).1, zcn_o hR (by omega), zpos_cpos (f := gOd_dy o) (w := fun i => f_X8_ofOrder S kd i 2) _ (fun i hi => (hR.2 i hi).2.2)]
theorem buy_op {D : Int} {T : zTr} {S : zMs} (h am hour : Int32) (b : Bool) (hI : Inv D T) (hD : D ≤ 2000000000) (hR : RTr T (gMs_at S)) : opR D T S b (f_X6_orderToBuy T h am hour) (f_X8_tryBuy S h am hour b) 20000000 (if 0 ≤ am.toInt then 5 * am.toInt else 0) := by
  have hIs := hI
  obtain ⟨hB, hOb, hOl, hE, hdy, hYb, hYl⟩ := hI
  have hR1 : RTr T (gMs_at (f_X8_keepIf S b)) := by rw [keepIf_at]; exact hR
  have z1 : (nI 1).toInt = 1 := rfl
  have z2 : (nI 1000000).toInt = 1000000 := rfl
  have hin : f_X8_in am.toInt64 1 1000000 = false ↔ ¬ (1 ≤ am.toInt ∧ am.toInt ≤ 1000000) := by rw [in_false, i32_l]; rfl
  unfold f_X8_tryBuy f_X6_orderToBuy
  rw [zsl_e]
  dsimp only
  rw [holder_eq, hour_eq]
  by_cases c1 : f_X7_isHolder h = false
  · rw [if_pos c1, if_pos c1]; exact opR_no (by decide)
  rw [if_neg c1, if_neg c1]
  by_cases c2 : am < nI 1
  · rw [if_pos c2]
    rw [i32_lt_iff, z1] at c2
    have q : f_X8_in am.toInt64 1 1000000 = false := hin.mpr (by omega)
    rw [if_pos q]; exact opR_no (by decide)
  rw [if_neg c2]
  rw [i32_lt_iff, z1] at c2
  by_cases c3 : nI 1000000 < am
  · rw [if_pos c3]
    rw [i32_lt_iff, z2] at c3
    have q : f_X8_in am.toInt64 1 1000000 = false := hin.mpr (by omega)
    rw [if_pos q]; exact opR_no (by decide)
  rw [if_neg c3]
  rw [i32_lt_iff, z2] at c3
  have q : ¬ f_X8_in am.toInt64 1 1000000 = false := fun z => hin.mp z (by omega)
  rw [if_neg q]
  by_cases c4 : f_X6_isHour hour = false
  · rw [if_pos c4, if_pos c4]; exact opR_no (by decide)
  rw [if_neg c4, if_neg c4]
  have hfull := full_eq hR.2.1 hOb.1
  by_cases c5 : f_X4_isFull (gTr_bu T) = false
  · rw [if_pos c5, if_neg (fun z => hfull.mp z c5)]
    have hn : gOd_n (gTr_bu T) < 20 := xfull rfl c5
    rw [putIn_eq hIs hD hR1.1 hR1.2.1 hn, (day_eq2 hIs hD hR1.1 hour).1, i_l_i, keepIf_at]
    obtain ⟨-, d1, d2⟩ := day_eq2 hIs hD hR1.1 hour
    have hd : f_X6_dayOf (sTr_bu T (f_X4_add (gTr_bu T) h am (f_X6_dayOf T hour))) hour = f_X6_dayOf T hour := rfl
    rw [hd]
    obtain ⟨p1, p2⟩ := put_RO (h := h) (sz := am) (dy := f_X6_dayOf T hour) hR.2.1 hn
    generalize zput (gMs_at S) 61 (cpos (f_X6_dayOf T hour) (gOd_dy (gTr_bu T)) (gOd_n (gTr_bu T))) (gOd_n (gTr_bu T)) h.toInt64 am.toInt64 (f_X6_dayOf T hour).toInt64 = A at p1 p2
    have hhv : vp_in h 6 := by
      rw [xh_eq c1]; exact vp_in_nI (xh_lt c1) (by decide)
    have hO2 : iO 1000000 (f_X4_add (gTr_bu T) h am (f_X6_dayOf T hour)) := add_iO hOb hn hhv ⟨by omega, by omega⟩
    have hps : pS (f_X4_add (gTr_bu T) h am (f_X6_dayOf T hour)) 0 = pS (gTr_bu T) 0 + am.toInt := by
      rw [pS_oL, pS_oL, add_oL _ _ _ _ hn, (ins_sum 0 _ _ _).2]
    have hY2 := add_iY (h := h) (sz := am) hYb hn (show (f_X6_dayOf T hour).toInt ≤ _ by omega)
    generalize f_X4_add (gTr_bu T) h am (f_X6_dayOf T hour) = o' at p1 hO2 hps hY2 ⊢
    refine opR_yes (b := b) A (by omega) ⟨?_, p1, RO_ext hOl.1 hR.2.2.1 (fun i h1 h2 => p2 i (by omega)), ?_⟩ ⟨hB, hO2, hOl, hE, hdy, hY2, hYl⟩ ?_ ?_
    · exact RC_ext (T := T) hR.1 (fun i hi => p2 i (by omega))
    · have r := hR.2.2.2
      refine ⟨(p2 18 (by omega)).trans r.1, (p2 11 (by omega)).trans r.2.1, fun z => ?_⟩
      obtain ⟨q1, q2, q3, q4, q5, q6⟩ := r.2.2 z
      exact ⟨(p2 12 (by omega)).trans q1, (p2 13 (by omega)).trans q2, (p2 14 (by omega)).trans q3, (p2 15 (by omega)).trans q4, (p2 16 (by omega)).trans q5, (p2 17 (by omega)).trans q6⟩
    · unfold pPhi gP
      show 5 * (gTr_cash T).toInt + 5 * pS o' 0 + (20000 + 4 * (gTr_quote T).toInt) * (gTr_lots T).toInt + 2000 * (10000 - (gTr_quote T).toInt) ≤ _
      omega
    · unfold gP
      rw [if_pos (show 0 ≤ am.toInt by omega)]
      show 5 * (gTr_cash T).toInt + 5 * pS o' 0 + 50000 * (gTr_lots T).toInt ≤ _
      omega
  · rw [if_neg c5, if_pos (hfull.mpr c5)]; exact opR_no (by decide)
theorem free_eq {T : zTr} {S : zMs} {mx : Int} (hRC : RC T (gMs_at S)) (hRl : RO 122 (gTr_le T) (gMs_at S)) (hO : iO mx (gTr_le T)) {j : Nat} (hj : j < 6) : f_X8_units S j - f_X8_bound S j = f_X6_freeUnits T j := by
  rw [hunits_eq hRC hj, bound_eq hRl hO.1 hj]
  rfl
theorem free_int {T : zTr} {mx : Int} (hH : iH T) (hO : iO mx (gTr_le T)) (hE : iE T) {j : Nat} (hj : j < 6) : (f_X6_freeUnits T j).toInt = uU T j - hS (gTr_le T) j := by
  have h1 := uU_le hH hj
  have h2 := uU_nn hH j hj
  have h3 := hH.2
  have h4 := hE j hj
  have h5 : 0 ≤ hS (gTr_le T) j := isum_nn _ (fun i hi => by
    have := (hO.2.1 i hi).2.1
    split <;> omega)
  exact i64_sub (hunits_int hH hj) (sumOf_int hO.1 j) (by omega) (by omega)
theorem leave_op {D : Int} {T : zTr} {S : zMs} (h un hour : Int32) (b : Bool) (hI : Inv D T) (hD : D ≤ 2000000000) (hR : RTr T (gMs_at S)) : opR D T S b (f_X6_orderToLeave T h un hour) (f_X8_tryLeave S h un hour b) 20000000 0 := by
  have hIs := hI
  obtain ⟨hB, hOb, hOl, hE, hdy, hYb, hYl⟩ := hI
  have hR1 : RTr T (gMs_at (f_X8_keepIf S b)) := by rw [keepIf_at]; exact hR
  have z1 : (nI 1).toInt = 1 := rfl
  unfold f_X8_tryLeave f_X6_orderToLeave
  rw [zsl_e]
  dsimp only
  rw [holder_eq, hour_eq]
  by_cases c1 : f_X7_isHolder h = false
  · rw [if_pos c1, if_pos c1]; exact opR_no (by decide)
  rw [if_neg c1, if_neg c1]
  by_cases c2 : un < nI 1
  · rw [if_pos c2, if_pos c2]; exact opR_no (by decide)
  rw [if_neg c2, if_neg c2]
  rw [i32_lt_iff, z1] at c2
  by_cases c4 : f_X6_isHour hour = false
  · rw [if_pos c4, if_pos c4]; exact opR_no (by decide)
  rw [if_neg c4, if_neg c4]
  have hfull := full_eq hR.2.2.1 hOl.1
  by_cases c5 : f_X4_isFull (gTr_le T) = false
  · rw [if_pos c5, if_neg (fun z => hfull.mp z c5)]
    have hn : gOd_n (gTr_le T) < 20 := xfull rfl c5
    have hj := xh_lt c1
    have hje := xh_eq c1
    rw [free_eq hR.1 hR.2.2.1 hOl hj]
    by_cases c6 : un.toInt64 ≤ f_X6_freeUnits T h.toNatClampNeg
    · rw [if_pos c6, if_pos c6]
      have hfi := free_int hB.2.2.2.2 hOl hE hj
      rw [i64_le_iff, i32_l, hfi] at c6
      have h1 := uU_le hB.2.2.2.2 hj
      have h3 := hB.2.2.2.2.2
      have h5 : 0 ≤ hS (gTr_le T) h.toNatClampNeg := isum_nn _ (fun i hi => by
        have := (hOl.2.1 i hi).2.1
        split <;> omega)
      rw [putIn_eq hIs hD hR1.1 hR1.2.2.1 hn, (day_eq2 hIs hD hR1.1 hour).1, i_l_i, keepIf_at]
      obtain ⟨-, d1, d2⟩ := day_eq2 hIs hD hR1.1 hour
      have hd : f_X6_dayOf (sTr_le T (f_X4_add (gTr_le T) h un (f_X6_dayOf T hour))) hour = f_X6_dayOf T hour := rfl
      rw [hd]
      obtain ⟨p1, p2⟩ := put_RO (h := h) (sz := un) (dy := f_X6_dayOf T hour) hR.2.2.1 hn
      generalize zput (gMs_at S) 122 (cpos (f_X6_dayOf T hour) (gOd_dy (gTr_le T)) (gOd_n (gTr_le T))) (gOd_n (gTr_le T)) h.toInt64 un.toInt64 (f_X6_dayOf T hour).toInt64 = A at p1 p2
      have hhv : vp_in h 6 := by rw [hje]; exact vp_in_nI hj (by decide)
      have hO2 : iO 1000000000 (f_X4_add (gTr_le T) h un (f_X6_dayOf T hour)) := add_iO hOl hn hhv ⟨by omega, by omega⟩
      have hSs : ∀ j, hS (f_X4_add (gTr_le T) h un (f_X6_dayOf T hour)) j = hS (gTr_le T) j + (if h = nI j then un.toInt else 0) := fun j => by
        rw [hS_lS, hS_lS, add_oL _ _ _ _ hn, (ins_sum j _ _ _).1]
      have hY2 := add_iY (h := h) (sz := un) hYl hn (show (f_X6_dayOf T hour).toInt ≤ _ by omega)
      generalize f_X4_add (gTr_le T) h un (f_X6_dayOf T hour) = o' at p1 hO2 hSs hY2 ⊢
      refine opR_yes (b := b) A (by omega) ⟨?_, RO_ext hOb.1 hR.2.1 (fun i h1 h2 => p2 i (by omega)), p1, ?_⟩ ⟨hB, hOb, hO2, fun j hjj => ?_, hdy, hYb, hY2⟩ ?_ ?_
      · exact RC_ext (T := T) hR.1 (fun i hi => p2 i (by omega))
      · have r := hR.2.2.2
        refine ⟨(p2 18 (by omega)).trans r.1, (p2 11 (by omega)).trans r.2.1, fun z => ?_⟩
        obtain ⟨q1, q2, q3, q4, q5, q6⟩ := r.2.2 z
        exact ⟨(p2 12 (by omega)).trans q1, (p2 13 (by omega)).trans q2, (p2 14 (by omega)).trans q3, (p2 15 (by omega)).trans q4, (p2 16 (by omega)).trans q5, (p2 17 (by omega)).trans q6⟩
      · show hS o' j ≤ uU T j
        rw [hSs]
        have := hE j hjj
        by_cases e : h = nI j
        · rw [if_pos e]
          have : h.toNatClampNeg = j := by rw [e]; exact nI_clamp (by omega)
          rw [this] at c6
          omega
        · rw [if_neg e]; omega
      · unfold pPhi gP
        show 5 * (gTr_cash T).toInt + 5 * pS (gTr_bu T) 0 + (20000 + 4 * (gTr_quote T).toInt) * (gTr_lots T).toInt + 2000 * (10000 - (gTr_quote T).toInt) ≤ _
        omega
      · unfold gP
        show 5 * (gTr_cash T).toInt + 5 * pS (gTr_bu T) 0 + 50000 * (gTr_lots T).toInt ≤ _
        omega
    · have c7 : f_X6_freeUnits T h.toNatClampNeg < un.toInt64 := Int64.not_le.mp c6
      rw [if_neg c6, if_neg c6]; exact opR_no (by decide)
  · rw [if_neg c5, if_pos (hfull.mpr c5)]; exact opR_no (by decide)
