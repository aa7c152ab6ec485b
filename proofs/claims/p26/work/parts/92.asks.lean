/-! the questions -/
theorem lN_i32 {n : Nat} (h : n ≤ 100) : (lN n).toInt32 = nI n := by
  rw [i32_eq_iff, l_i32 (by rw [lN_int (by omega)]; omega) (by rw [lN_int (by omega)]; omega), lN_int (by omega), nI_int (by omega)]
theorem sw_of {wh : Int32} {n : Nat} (hn : n < 100) (h : 0 ≤ wh.toInt ∧ wh.toInt < n) : ∃ j, j < n ∧ wh = nI j := by
  refine ⟨wh.toInt.toNat, by omega, ?_⟩
  rw [i32_eq_iff, nI_int (by omega)]
  omega
theorem sw_ne {wh : Int32} {n : Nat} (hn : n < 100) (h : ¬ (0 ≤ wh.toInt ∧ wh.toInt < n)) (k : Nat) (hk : k < n) : ¬ wh = nI k := fun e => by
  rw [e, nI_int (by omega)] at h
  omega
theorem sw_lt {wh : Int32} {n : Nat} (hn : n < 100) : (wh < nI n) ↔ wh.toInt < n := by
  rw [i32_lt_iff, nI_int (by omega)]
theorem sw_0 {wh : Int32} : (wh < 0) ↔ wh.toInt < 0 := by
  rw [i32_lt_iff]; exact Iff.rfl
section questions
variable {c : Nat} {T : zTr} {z : zPd} {y : zHs} {s : zSl} {S : zMs}
theorem count_FR (h : FR c T z y s S) (wh : Int32) : f_X7_count T z y wh = f_X8_count S wh := by
  obtain ⟨⟨⟨hRC, hRb, hRl, hRd⟩, hI, -⟩, hH, -, hP⟩ := h
  obtain ⟨r1, r5, r6, r7, r8, r9, r10, rh⟩ := id hRC
  by_cases c0 : 0 ≤ wh.toInt ∧ wh.toInt < (19 : Nat)
  · obtain ⟨j, hj, rfl⟩ := sw_of (by decide) c0
    match j, hj with
    | 0, _ =>
      show (gTr_cash T).toInt32 = (gMs_at S 5).toInt32
      rw [r5]
    | 1, _ =>
      show gTr_lots T = (gMs_at S 6).toInt32
      rw [r6, i_l_i]
    | 2, _ =>
      show gTr_quote T = (gMs_at S 7).toInt32
      rw [r7, i_l_i]
    | 3, _ =>
      show (f_X6_value T).toInt32 = (f_X8_value S).toInt32
      rw [value_eq hRC]
    | 4, _ =>
      show (f_X6_units T).toInt32 = (f_X8_issue S).toInt32
      rw [issue_eq hRC]
    | 5, _ =>
      show (f_X6_newUnits T).toInt32 = (f_X8_allNew S).toInt32
      rw [allNew_eq hRC]
    | 6, _ =>
      show (gTr_pool T).toInt32 = (gMs_at S 8).toInt32
      rw [r8]
    | 7, _ =>
      show (gTr_even T).toInt32 = (gMs_at S 9).toInt32
      rw [r9]
    | 8, _ =>
      show gTr_day T = (gMs_at S 10).toInt32
      rw [r10, i_l_i]
    | 9, _ =>
      show nI (gOd_n (gTr_bu T)) = (gMs_at S 61).toInt32
      have hn := hI.2.1.1; rw [hRb.1, lN_i32 (by omega)]
    | 10, _ =>
      show nI (gOd_n (gTr_le T)) = (gMs_at S 122).toInt32
      have hn := hI.2.2.1.1; rw [hRl.1, lN_i32 (by omega)]
    | 11, _ =>
      show (f_X4_sum (gTr_le T) 0 (gOd_n (gTr_le T))).toInt32 = (f_X8_sumOf S 122 (gMs_at S 10 + 1)).toInt32
      have hY := hI.2.2.2.2.2.2
      have hdd := i32_lt (a := gTr_day T)
      have hd0 := hI.2.2.2.2.1.1
      rw [sumAll_eq hRl hI.2.2.1.1 _ (fun i hi => ?_)]
      have e : (gMs_at S 10 + 1).toInt = (gTr_day T).toInt + 1 := i64_add (by rw [r10, i32_l]) rfl (by omega) (by omega)
      rw [e]; exact hY i hi
    | 12, _ =>
      show gTr_st T 0 = (gMs_at S 0).toInt32
      rw [r1 0 (by omega), i_l_i]
    | 13, _ =>
      show gTr_st T 1 = (gMs_at S 1).toInt32
      rw [r1 1 (by omega), i_l_i]
    | 14, _ =>
      show gTr_st T 2 = (gMs_at S 2).toInt32
      rw [r1 2 (by omega), i_l_i]
    | 15, _ =>
      show gTr_st T 3 = (gMs_at S 3).toInt32
      rw [r1 3 (by omega), i_l_i]
    | 16, _ =>
      show gTr_st T 4 = (gMs_at S 4).toInt32
      rw [r1 4 (by omega), i_l_i]
    | 17, _ =>
      show nI (gPd_n z) = nI (gMs_pdm S)
      rw [hP.1]
    | 18, _ =>
      show nI (gHs_count y) = nI (gMs_pm S)
      rw [hH.2.2.1]
    | n + 19, hn => exact absurd hn (by omega)
  · have w := sw_ne (by decide) c0
    have e1 : f_X8_count S wh = (-2) := by
      unfold f_X8_count
      rw [if_neg (w 0 (by decide)), if_neg (w 1 (by decide)), if_neg (w 2 (by decide)), if_neg (w 3 (by decide)), if_neg (w 4 (by decide)), if_neg (w 5 (by decide)), if_neg (w 6 (by decide)), if_neg (w 7 (by decide)), if_neg (w 8 (by decide)), if_neg (w 9 (by decide)), if_neg (w 10 (by decide)), if_neg (w 11 (by decide)), if_neg (w 12 (by decide)), if_neg (w 13 (by decide)), if_neg (w 14 (by decide)), if_neg (w 15 (by decide)), if_neg (w 16 (by decide)), if_neg (w 17 (by decide)), if_neg (w 18 (by decide))]
    have e2 : f_X7_count T z y wh = (-2) := by
      unfold f_X7_count
      by_cases c1 : wh < 0
      · rw [if_pos c1]
      · rw [if_neg c1, if_neg (fun q => c0 ⟨by rw [sw_0] at c1; omega, (sw_lt (by decide)).mp q⟩)]
    rw [e1, e2]
theorem ofHolder_FR (h : FR c T z y s S) (hr wh : Int32) : f_X7_ofHolder T hr wh = f_X8_ofHolder S hr wh := by
  obtain ⟨⟨⟨hRC, hRb, hRl, hRd⟩, hI, -⟩, -, -, -⟩ := h
  by_cases ch : f_X8_isHolder hr = false
  · have e1 : f_X8_ofHolder S hr wh = (-1) := by unfold f_X8_ofHolder; rw [if_pos ch]
    have e2 : f_X7_ofHolder T hr wh = (-1) := by
      unfold f_X7_ofHolder
      dsimp only
      rw [holder_eq] at ch
      rw [if_pos ch]
    rw [e1, e2]
  have ch2 := ch
  rw [holder_eq] at ch2
  have hlt := zh_lt ch
  have heq := zh_eq ch
  generalize hr.toNatClampNeg = j at hlt heq
  subst heq
  obtain ⟨r0, q1, q2, q3, q4, q5, q6⟩ := hRC.2.2.2.2.2.2.2 j hlt
  have cl := nI_clamp (n := j) (by omega)
  by_cases c0 : 0 ≤ wh.toInt ∧ wh.toInt < (9 : Nat)
  · obtain ⟨k, hk, rfl⟩ := sw_of (by decide) c0
    unfold f_X7_ofHolder f_X8_ofHolder
    dsimp only
    rw [if_neg ch, if_neg ch2, cl]
    match k, hk with
    | 0, _ =>
      show (f_X2_units (gTr_hd T j)).toInt32 = (f_X8_units S j).toInt32
      rw [hunits_eq hRC hlt]
    | 1, _ =>
      show (gHd_old (gTr_hd T j)).toInt32 = (gMs_at S (19 + 7 * j + 0)).toInt32
      rw [r0]
    | 2, _ =>
      show (gHd_new (gTr_hd T j)).toInt32 = (gMs_at S (19 + 7 * j + 1)).toInt32
      rw [q1]
    | 3, _ =>
      show (f_X4_sumOf (gTr_le T) (nI j)).toInt32 = (f_X8_bound S j).toInt32
      rw [bound_eq hRl hI.2.2.1.1 hlt]
    | 4, _ =>
      show (gHd_bought (gTr_hd T j)).toInt32 = (gMs_at S (19 + 7 * j + 2)).toInt32
      rw [q2]
    | 5, _ =>
      show (gHd_paid (gTr_hd T j)).toInt32 = (gMs_at S (19 + 7 * j + 3)).toInt32
      rw [q3]
    | 6, _ =>
      show (gHd_inc (gTr_hd T j)).toInt32 = (gMs_at S (19 + 7 * j + 4)).toInt32
      rw [q4]
    | 7, _ =>
      show (gHd_eve (gTr_hd T j)).toInt32 = (gMs_at S (19 + 7 * j + 5)).toInt32
      rw [q5]
    | 8, _ =>
      show (gHd_lots (gTr_hd T j)).toInt32 = (gMs_at S (19 + 7 * j + 6)).toInt32
      rw [q6]
    | n + 9, hn => exact absurd hn (by omega)
  · have w := sw_ne (by decide) c0
    have e1 : f_X8_ofHolder S (nI j) wh = (-2) := by
      unfold f_X8_ofHolder
      rw [if_neg ch, if_neg (w 0 (by decide)), if_neg (w 1 (by decide)), if_neg (w 2 (by decide)), if_neg (w 3 (by decide)), if_neg (w 4 (by decide)), if_neg (w 5 (by decide)), if_neg (w 6 (by decide)), if_neg (w 7 (by decide)), if_neg (w 8 (by decide))]
    have e2 : f_X7_ofHolder T (nI j) wh = (-2) := by
      unfold f_X7_ofHolder
      dsimp only
      rw [if_neg ch2]
      by_cases c1 : wh < 0
      · rw [if_pos c1]
      · rw [if_neg c1, if_neg (fun q => c0 ⟨by rw [sw_0] at c1; omega, (sw_lt (by decide)).mp q⟩)]
    rw [e1, e2]
theorem lastDay_FR (h : FR c T z y s S) (wh : Int32) : f_X7_lastDay T wh = f_X8_lastDay S wh := by
  obtain ⟨⟨⟨hRC, hRb, hRl, hRd⟩, hI, -⟩, -, -, -⟩ := h
  obtain ⟨d1, d2, d3⟩ := hRd
  have hin : f_X8_in wh.toInt64 0 5 = false ↔ ¬ (0 ≤ wh.toInt ∧ wh.toInt ≤ 5) := by rw [in_false, i32_l]; rfl
  unfold f_X7_lastDay f_X8_lastDay
  dsimp only
  by_cases c0 : 0 ≤ wh.toInt ∧ wh.toInt < (6 : Nat)
  · have c1 : ¬ wh < 0 := by rw [sw_0]; omega
    rw [if_neg c1, if_pos ((sw_lt (by decide)).mpr c0.2), if_neg (fun q => hin.mp q (by omega))]
    cases e : gLd_ended (gTr_la T)
    · rw [e] at d1
      have z18 : gMs_at S 18 = 0 := d1
      rw [if_pos rfl, if_pos z18]
    · rw [e] at d1
      have z18 : ¬ gMs_at S 18 = 0 := by rw [d1]; decide
      rw [if_neg (by decide), if_neg z18]
      obtain ⟨e12, e13, e14, e15, e16, e17⟩ := d3 e
      obtain ⟨j, hj, rfl⟩ := sw_of (by decide) c0
      rw [nI_clamp (by omega)]
      match j, hj with
      | 0, _ =>
        show (gLd_made (gTr_la T)).toInt32 = (gMs_at S 12).toInt32
        rw [e12]
      | 1, _ =>
        show (gLd_left (gTr_la T)).toInt32 = (gMs_at S 13).toInt32
        rw [e13]
      | 2, _ =>
        show gLd_sold (gTr_la T) = (gMs_at S 14).toInt32
        rw [e14, i_l_i]
      | 3, _ =>
        show gLd_swung (gTr_la T) + nI 2 = (gMs_at S 15).toInt32
        rw [e15, i_l_i]
      | 4, _ =>
        show (gLd_still (gTr_la T)).toInt32 = (gMs_at S 16).toInt32
        rw [e16]
      | 5, _ =>
        show (gLd_back (gTr_la T)).toInt32 = (gMs_at S 17).toInt32
        rw [e17]
      | n + 6, hn => exact absurd hn (by omega)
  · rw [if_pos (hin.mpr (by omega))]
    by_cases c1 : wh < 0
    · rw [if_pos c1]
    · rw [if_neg c1, if_neg (fun q => c0 ⟨by rw [sw_0] at c1; omega, (sw_lt (by decide)).mp q⟩)]
theorem price_FR (h : FR c T z y s S) (x : zDd) (wh : Int32) : (f_X7_price T x wh).1 = f_X8_price S wh := by
  obtain ⟨⟨⟨hRC, hRb, hRl, hRd⟩, hI, -⟩, -, -, -⟩ := h
  obtain ⟨d1, d2, d3⟩ := hRd
  have hp := priceNow_eq x hRC hRb hRl hI.1 hI.2.1 hI.2.2.1
  by_cases c0 : 0 ≤ wh.toInt ∧ wh.toInt < (4 : Nat)
  · obtain ⟨j, hj, rfl⟩ := sw_of (by decide) c0
    match j, hj with
    | 0, _ =>
      show f_X6_middle T = f_X8_middle S
      rw [middle_eq hRC hI.1.2.2.2.2]
    | 1, _ =>
      show (f_X0_priceOf x T).1 = f_X8_priceNow S
      rw [hp]
      rfl
    | 2, _ =>
      show (if gLd_ended (gTr_la T) = false then (-6) else gLd_price (gTr_la T)) = gMs_at S 11
      rw [d2]
      cases e : gLd_ended (gTr_la T) <;> rfl
    | 3, _ =>
      show f_X6_unitIncome T = f_X8_incomeOfUnit S
      rw [ui_eq hRC hI.1.2.2.2.2]
    | n + 4, hn => exact absurd hn (by omega)
  · have w := sw_ne (by decide) c0
    have e1 : f_X8_price S wh = (-2) := by
      unfold f_X8_price
      rw [if_neg (w 0 (by decide)), if_neg (w 1 (by decide)), if_neg (w 2 (by decide)), if_neg (w 3 (by decide))]
    have e2 : f_X7_price T x wh = ((-2), x) := by
      unfold f_X7_price
      by_cases c1 : wh < 0
      · rw [if_pos c1]
      · rw [if_neg c1, if_neg (fun q => c0 ⟨by rw [sw_0] at c1; omega, (sw_lt (by decide)).mp q⟩)]
    rw [e1, e2]
theorem ordRow {kd : Nat} {od : zOd} (hR : RO kd od (gMs_at S)) (hn : gOd_n od ≤ 20) (o wh : Int32) (hw : 0 ≤ wh.toInt ∧ wh.toInt < (3 : Nat)) :
    (if o < 0 then (-1) else if o < nI (gOd_n od) then (if wh = nI 0 then gOd_ho od o.toNatClampNeg else if wh = nI 1 then gOd_sz od o.toNatClampNeg else gOd_dy od o.toNatClampNeg) else (-1) : Int32) = (if f_X8_in o.toInt64 0 (gMs_at S kd - 1) = false then (-1) else (f_X8_ofOrder S kd o.toNatClampNeg wh.toNatClampNeg).toInt32) := by
  have hin : f_X8_in o.toInt64 0 (gMs_at S kd - 1) = false ↔ ¬ (0 ≤ o.toInt ∧ o.toInt ≤ (gOd_n od : Int) - 1) := by
    rw [in_false, i32_l, hR.1]
    have e : (lN (gOd_n od) - 1).toInt = (gOd_n od : Int) - 1 := i64_sub (lN_int (by omega)) rfl (by omega) (by omega)
    rw [e]; rfl
  by_cases c1 : o < 0
  · rw [if_pos c1, if_pos (hin.mpr (fun q => by rw [sw_0] at c1; omega))]
  rw [if_neg c1]
  rw [sw_0] at c1
  by_cases c2 : o < nI (gOd_n od)
  · rw [if_pos c2]
    rw [sw_lt (by omega)] at c2
    rw [if_neg (fun q => hin.mp q (by omega))]
    obtain ⟨i, hi, rfl⟩ := sw_of (by omega) ⟨by omega, c2⟩
    rw [nI_clamp (by omega)]
    obtain ⟨a0, a1, a2⟩ := hR.2 i hi
    obtain ⟨j, hj, rfl⟩ := sw_of (by decide) hw
    rw [nI_clamp (by omega)]
    match j, hj with
    | 0, _ =>
      show gOd_ho od i = (gMs_at S (kd + 1 + 3 * i + 0)).toInt32
      rw [a0, i_l_i]
    | 1, _ =>
      show gOd_sz od i = (gMs_at S (kd + 1 + 3 * i + 1)).toInt32
      rw [a1, i_l_i]
    | 2, _ =>
      show gOd_dy od i = (gMs_at S (kd + 1 + 3 * i + 2)).toInt32
      rw [a2, i_l_i]
    | n + 3, hn => exact absurd hn (by omega)
  · rw [if_neg c2]
    rw [sw_lt (by omega)] at c2
    rw [if_pos (hin.mpr (by omega))]
theorem order_FR (h : FR c T z y s S) (kd o wh : Int32) : f_X7_order T kd o wh = f_X8_order S kd o wh := by
  obtain ⟨⟨⟨hRC, hRb, hRl, hRd⟩, hI, -⟩, -, -, -⟩ := h
  have hin1 : f_X8_in kd.toInt64 0 1 = false ↔ ¬ (0 ≤ kd.toInt ∧ kd.toInt ≤ 1) := by rw [in_false, i32_l]; rfl
  have hin2 : f_X8_in wh.toInt64 0 2 = false ↔ ¬ (0 ≤ wh.toInt ∧ wh.toInt ≤ 2) := by rw [in_false, i32_l]; rfl
  have z1 : (nI 1).toInt = 1 := rfl
  unfold f_X7_order f_X8_order
  dsimp only
  by_cases c1 : kd < 0
  · rw [if_pos c1]
    rw [sw_0] at c1
    rw [if_pos (hin1.mpr (by omega))]
  rw [if_neg c1]
  by_cases c2 : nI 1 < kd
  · rw [if_pos c2]
    rw [i32_lt_iff, z1] at c2
    rw [if_pos (hin1.mpr (by omega))]
  rw [if_neg c2]
  rw [i32_lt_iff, z1] at c2
  rw [sw_0] at c1
  rw [if_neg (c := f_X8_in kd.toInt64 0 1 = false) (fun q => hin1.mp q (by omega))]
  by_cases c3 : wh < 0
  · rw [if_pos c3]
    rw [sw_0] at c3
    rw [if_pos (hin2.mpr (by omega))]
  rw [if_neg c3]
  rw [sw_0] at c3
  by_cases c4 : wh < nI 3
  · rw [if_pos c4]
    rw [sw_lt (by decide)] at c4
    rw [if_neg (c := f_X8_in wh.toInt64 0 2 = false) (fun q => hin2.mp q (by omega))]
    by_cases c5 : kd = 0
    · rw [if_pos c5, if_pos c5]
      exact ordRow hRb hI.2.1.1 o wh (by omega)
    · rw [if_neg c5, if_neg c5]
      exact ordRow hRl hI.2.2.1.1 o wh (by omega)
  · rw [if_neg c4]
    rw [sw_lt (by decide)] at c4
    rw [if_pos (hin2.mpr (by omega))]
end questions
