/-! a payment, over integers -/
def egI (T : zTr) : Int := if uNew T = 0 then 0 else 1000 * evI T / uNew T
def gtI (T : zTr) (h : Nat) : Int := uU T h * iI T / 1000
def enI (T : zTr) (h : Nat) : Int := if gtI T h < uN T h * egI T / 1000 then gtI T h else uN T h * egI T / 1000
theorem egI_r {D c : Int} {T : zTr} (h : GI D c T) : 0 ≤ egI T ∧ egI T ≤ 1600000000000 ∧ (∀ i, i < 6 → 0 ≤ uN T i * egI T ∧ uN T i * egI T ≤ 1600000000000 ∧ 0 ≤ uU T i * iI T ∧ uU T i * iI T ≤ 1700000000000 ∧ 0 ≤ gtI T i ∧ 0 ≤ enI T i ∧ enI T i ≤ gtI T i) ∧ 0 ≤ isum (gtI T) 6 ∧ isum (gtI T) 6 ≤ poI T := by
  obtain ⟨-, -, -, -, ⟨u1, u2⟩, ⟨n1, n2⟩, ⟨p1, p2⟩, ⟨e1, e2⟩, -⟩ := id (GI_r h)
  have c2 := (GI_r h).1.2
  obtain ⟨m1, m2, m3, m4⟩ := pm_bd h.1.1
  have hi0 := (mI_bd h.1.1).2.2.1
  have h0 : 0 ≤ egI T := by
    unfold egI; split
    · omega
    · exact Int.ediv_nonneg (by omega) (by omega)
  have h1 : uNew T * egI T ≤ 1000 * evI T := by
    unfold egI; split
    · rw [Int.mul_zero]; omega
    · rw [Int.mul_comm]; exact Int.ediv_mul_le _ (by omega)
  have htot : uAll T * iI T ≤ 1000 * poI T := by
    unfold iI
    by_cases c : uAll T ≤ 0
    · rw [if_pos c, Int.mul_zero]; omega
    · rw [if_neg c, Int.mul_comm]; exact Int.ediv_mul_le _ (by omega)
  have h2 : egI T ≤ 1600000000000 := by
    unfold egI at h1 ⊢
    split
    · omega
    · rename_i g
      refine Int.le_trans (Int.ediv_le_of_le_mul (by omega) (b := 1000 * evI T) ?_) (show 1000 * evI T ≤ 1600000000000 by omega)
      have := Int.mul_le_mul_of_nonneg_left (show 1 ≤ uNew T by omega) (show 0 ≤ 1000 * evI T by omega)
      omega
  refine ⟨h0, h2, fun i hi => ?_, m3, m4⟩
  have hn := (GI_h h hi).1
  have a1 : 0 ≤ uN T i * egI T := Int.mul_nonneg hn.2.1 h0
  have a2 : uN T i * egI T ≤ uNew T * egI T := Int.mul_le_mul_of_nonneg_right hn.2.2.2.2 h0
  have a3 := (m1 i hi).2
  have a4 : uU T i * iI T ≤ uAll T * iI T := Int.mul_le_mul_of_nonneg_right hn.2.2.2.1 hi0
  have a5 : 0 ≤ gtI T i := Int.ediv_nonneg a3 (by decide)
  refine ⟨a1, by omega, a3, by omega, a5, ?_, ?_⟩
  · unfold enI; split
    · exact a5
    · exact Int.ediv_nonneg a1 (by decide)
  · unfold enI; split
    · omega
    · omega
theorem pay_sp {D c : Int} {T : zTr} (h : GI D c T) : ∃ T', f_X6_payIncome T = (jI (isum (gtI T) 6), T') ∧ GI D c T' ∧ cI T' = cI T - isum (gtI T) 6 ∧ poI T' = poI T - isum (gtI T) 6 ∧ evI T' = 0 ∧ uNew T' = 0 ∧ ∀ i, i < 6 → inI T' i = inI T i + gtI T i ∧ eeI T' i = eeI T i + enI T i ∧ uN T' i = 0 := by
  obtain ⟨⟨c1, c2⟩, -, -, -, ⟨u1, u2⟩, ⟨n1, n2⟩, ⟨p1, p2⟩, ⟨e1, e2⟩, -⟩ := GI_r h
  obtain ⟨m1, m2, m3, m4⟩ := pm_bd h.1.1
  obtain ⟨r1, r2, r3, r4, r5⟩ := egI_r h
  have hH := h.1.1.2.2.2.2
  have hnew := new_int hH
  obtain ⟨k1, k2⟩ := L_pay_at T (if f_X6_newUnits T ≤ 0 then 0 else 1000 * gTr_even T / f_X6_newUnits T) (f_X6_unitIncome T) (f_X6_newUnits T) 6 0 (gTr_hd T) 0 (by omega)
  have ho := pay_op (S := sA (aOf T)) true h.1 (GI_RTr h) (GI_hg h)
  have hev : (if f_X6_newUnits T ≤ 0 then (0 : Int64) else 1000 * gTr_even T / f_X6_newUnits T).toInt = egI T := by
    have z0 : (0 : Int64).toInt = 0 := rfl
    unfold egI
    by_cases g : f_X6_newUnits T ≤ 0
    · rw [if_pos g]
      rw [i64_le_iff, hnew, z0] at g
      rw [if_pos (by omega)]; rfl
    · rw [if_neg g]
      rw [i64_le_iff, hnew, z0] at g
      rw [if_neg (by omega)]
      exact i64_div (i64_mul (x := 1000) rfl (y := evI T) rfl (by omega) (by omega)) hnew (by omega) (by omega)
  have form : f_X6_payIncome T = ((L_X6_pay T (if f_X6_newUnits T ≤ 0 then 0 else 1000 * gTr_even T / f_X6_newUnits T) (f_X6_unitIncome T) (f_X6_newUnits T) (6 + 1) (gTr_hd T) 0 0).2.1.toInt32, sTr_hd (sTr_even (sTr_pool (sTr_cash T (gTr_cash T - (L_X6_pay T (if f_X6_newUnits T ≤ 0 then 0 else 1000 * gTr_even T / f_X6_newUnits T) (f_X6_unitIncome T) (f_X6_newUnits T) (6 + 1) (gTr_hd T) 0 0).2.1)) (gTr_pool T - (L_X6_pay T (if f_X6_newUnits T ≤ 0 then 0 else 1000 * gTr_even T / f_X6_newUnits T) (f_X6_unitIncome T) (f_X6_newUnits T) (6 + 1) (gTr_hd T) 0 0).2.1)) 0) (L_X6_pay T (if f_X6_newUnits T ≤ 0 then 0 else 1000 * gTr_even T / f_X6_newUnits T) (f_X6_unitIncome T) (f_X6_newUnits T) (6 + 1) (gTr_hd T) 0 0).1) := rfl
  rw [form] at ho ⊢
  generalize (if f_X6_newUnits T ≤ 0 then (0 : Int64) else 1000 * gTr_even T / f_X6_newUnits T) = ev at hev k1 k2 ho ⊢
  generalize L_X6_pay T ev (f_X6_unitIncome T) (f_X6_newUnits T) (6 + 1) (gTr_hd T) 0 0 = K at k1 k2 ho ⊢
  have kz : zsum (fun k => pmH (f_X6_unitIncome T) (gTr_hd T (0 + k))) 6 = zsum (fun k => pmH (f_X6_unitIncome T) (gTr_hd T k)) 6 := zsum_congr 6 (fun i _ => by rw [Nat.zero_add])
  have al : K.2.1.toInt = isum (gtI T) 6 := by
    rw [k2, kz, Int64.zero_add]
    exact m2
  have hal32 : K.2.1.toInt32 = jI (isum (gtI T) 6) := jL_il al
  have hcash : (gTr_cash T - K.2.1).toInt = cI T - isum (gtI T) 6 := i64_sub (x := cI T) rfl al (by omega) (by omega)
  have hpool : (gTr_pool T - K.2.1).toInt = poI T - isum (gtI T) 6 := i64_sub (x := poI T) rfl al (by omega) (by omega)
  have hpe : ∀ i, i < 6 → K.1 i = payH ev (f_X6_unitIncome T) (gTr_hd T i) := fun i hi => by rw [k1 i, if_pos ⟨by omega, hi⟩]
  rw [hal32] at ho ⊢
  obtain ⟨hI, -⟩ := opR_get ho (by show 0 ≤ (jI _).toInt; rw [jI_t ⟨by omega, by omega⟩]; exact r4)
  have hI : Inv D (sTr_hd (sTr_even (sTr_pool (sTr_cash T (gTr_cash T - K.2.1)) (gTr_pool T - K.2.1)) 0) K.1) := hI
  have hv : ∀ i, i < 6 → inI (sTr_hd (sTr_even (sTr_pool (sTr_cash T (gTr_cash T - K.2.1)) (gTr_pool T - K.2.1)) 0) K.1) i = inI T i + gtI T i ∧ eeI (sTr_hd (sTr_even (sTr_pool (sTr_cash T (gTr_cash T - K.2.1)) (gTr_pool T - K.2.1)) 0) K.1) i = eeI T i + enI T i ∧ uN (sTr_hd (sTr_even (sTr_pool (sTr_cash T (gTr_cash T - K.2.1)) (gTr_pool T - K.2.1)) 0) K.1) i = 0 ∧ boI (sTr_hd (sTr_even (sTr_pool (sTr_cash T (gTr_cash T - K.2.1)) (gTr_pool T - K.2.1)) 0) K.1) i = boI T i ∧ paI (sTr_hd (sTr_even (sTr_pool (sTr_cash T (gTr_cash T - K.2.1)) (gTr_pool T - K.2.1)) 0) K.1) i = paI T i ∧ loI (sTr_hd (sTr_even (sTr_pool (sTr_cash T (gTr_cash T - K.2.1)) (gTr_pool T - K.2.1)) 0) K.1) i = loI T i := fun i hi => by
    obtain ⟨g1, g2, g3, g4, g5, g6, g7⟩ := r3 i hi
    obtain ⟨⟨a1, a2, a3, a4, a5⟩, -, -, -, ⟨i1, i2⟩, ⟨j1, j2⟩, -⟩ := GI_h h hi
    have hm : (pmH (f_X6_unitIncome T) (gTr_hd T i)).toInt = gtI T i := (m1 i hi).1
    have hn : (gHd_new (gTr_hd T i) * ev / 1000).toInt = uN T i * egI T / 1000 := i64_div (i64_mul (x := uN T i) rfl hev (by omega) (by omega)) rfl g1 (by decide)
    have hme : (if pmH (f_X6_unitIncome T) (gTr_hd T i) < gHd_new (gTr_hd T i) * ev / 1000 then pmH (f_X6_unitIncome T) (gTr_hd T i) else gHd_new (gTr_hd T i) * ev / 1000).toInt = enI T i := by
      unfold enI
      by_cases q : pmH (f_X6_unitIncome T) (gTr_hd T i) < gHd_new (gTr_hd T i) * ev / 1000
      · rw [if_pos q]
        rw [i64_lt_iff, hm, hn] at q
        rw [if_pos q, hm]
      · rw [if_neg q]
        rw [i64_lt_iff, hm, hn] at q
        rw [if_neg q, hn]
    have gpo : gtI T i ≤ isum (gtI T) 6 := isum_ge 6 i hi (fun j hj => (r3 j hj).2.2.2.2.1)
    have e := hpe i hi
    refine ⟨?_, ?_, ?_, ?_, ?_, ?_⟩
    · show (gHd_inc (K.1 i)).toInt = _
      rw [e]
      exact i64_add (x := inI T i) rfl hm (by omega) (by omega)
    · show (gHd_eve (K.1 i)).toInt = _
      rw [e]
      exact i64_add (x := eeI T i) rfl hme (by omega) (by omega)
    · show (gHd_new (K.1 i)).toInt = _
      rw [e]; rfl
    · show (gHd_bought (K.1 i)).toInt = _
      rw [e]; rfl
    · show (gHd_paid (K.1 i)).toInt = _
      rw [e]; rfl
    · show (gHd_lots (K.1 i)).toInt = _
      rw [e]; rfl
  have hq : gTr_quote (sTr_hd (sTr_even (sTr_pool (sTr_cash T (gTr_cash T - K.2.1)) (gTr_pool T - K.2.1)) 0) K.1) = gTr_quote T := rfl
  have hl : gTr_lots (sTr_hd (sTr_even (sTr_pool (sTr_cash T (gTr_cash T - K.2.1)) (gTr_pool T - K.2.1)) 0) K.1) = gTr_lots T := rfl
  have hb : gTr_bu (sTr_hd (sTr_even (sTr_pool (sTr_cash T (gTr_cash T - K.2.1)) (gTr_pool T - K.2.1)) 0) K.1) = gTr_bu T := rfl
  have hle : gTr_le (sTr_hd (sTr_even (sTr_pool (sTr_cash T (gTr_cash T - K.2.1)) (gTr_pool T - K.2.1)) 0) K.1) = gTr_le T := rfl
  have hdy : gTr_day (sTr_hd (sTr_even (sTr_pool (sTr_cash T (gTr_cash T - K.2.1)) (gTr_pool T - K.2.1)) 0) K.1) = gTr_day T := rfl
  have hca : cI (sTr_hd (sTr_even (sTr_pool (sTr_cash T (gTr_cash T - K.2.1)) (gTr_pool T - K.2.1)) 0) K.1) = cI T - isum (gtI T) 6 := hcash
  have hpo : poI (sTr_hd (sTr_even (sTr_pool (sTr_cash T (gTr_cash T - K.2.1)) (gTr_pool T - K.2.1)) 0) K.1) = poI T - isum (gtI T) 6 := hpool
  have hev0 : evI (sTr_hd (sTr_even (sTr_pool (sTr_cash T (gTr_cash T - K.2.1)) (gTr_pool T - K.2.1)) 0) K.1) = 0 := rfl
  generalize sTr_hd (sTr_even (sTr_pool (sTr_cash T (gTr_cash T - K.2.1)) (gTr_pool T - K.2.1)) 0) K.1 = T' at *
  obtain ⟨-, ⟨x1, x2, x3, x4, x5⟩, hD, hc0, hc⟩ := h
  have sb : isum (boI T') 6 = isum (boI T) 6 := isum_congr 6 (fun j hj => (hv j hj).2.2.2.1)
  have sp : isum (paI T') 6 = isum (paI T) 6 := isum_congr 6 (fun j hj => (hv j hj).2.2.2.2.1)
  have si : isum (inI T') 6 = isum (inI T) 6 + isum (gtI T) 6 := by
    rw [isum_congr 6 (fun j hj => (hv j hj).1)]
    exact isum_add (inI T) (gtI T) 6
  have hph : pPhi T' = pPhi T - 5 * isum (gtI T) 6 := by
    unfold pPhi gP
    rw [hq, hl, hb]
    have q4 : (gTr_cash T').toInt = (gTr_cash T).toInt - isum (gtI T) 6 := hca
    omega
  have hnw : uNew T' = 0 := isum_zero 6 (fun j hj => (hv j hj).2.2.1)
  refine ⟨T', rfl, ⟨hI, ⟨fun j hj => ?_, ⟨by omega, by rw [sb, hev0]; omega⟩, by rw [sb, hb]; exact x3, by rw [hph, sp, si]; omega, fun j hj => ?_, fun j hj => ?_⟩, hD, hc0, hc⟩, hca, hpo, hev0, hnw, fun i hi => ⟨(hv i hi).1, (hv i hi).2.1, (hv i hi).2.2.1⟩⟩
  · obtain ⟨g1, g2, g3, g4, g5, g6, g7⟩ := x1 j hj
    obtain ⟨q1, q2, q3, q4, q5, q6, q7⟩ := r3 j hj
    obtain ⟨y1, y2, y3, y4, y5, y6⟩ := hv j hj
    rw [y1, y2, y4, y5, y6]
    exact ⟨g1, g2, by omega, by omega, by omega, g6, g7⟩
  · unfold dI at x5 ⊢
    rw [hdy, hb]
    rw [hb] at hj
    exact x5.1 j hj
  · rw [hle] at hj ⊢
    exact x5.2 j hj
