/-! one order to buy -/
theorem buy_st {T0 T1 T : zTr} {x : zDd} {k : Nat} (hB : iB T0) (hp : (gDd_price x).toInt = pI T0) (hi : (gDd_ui x).toInt = iI T0) (hO : iO 1000000 (gTr_bu T0)) (hk : k < gOd_n (gTr_bu T0)) (hW : iW T0 T1 T k) (hX : XB T0 T1 T k) (hcb : cI T ≤ 10000000000) (hu1 : 0 ≤ uAll T1) (T2 : zTr) (eT2 : T2 = sTr_bu (buyT x T ((gOd_ho (gTr_bu T) k).toNatClampNeg) (gOd_sz (gTr_bu T) k).toInt64 (mdC x (gOd_sz (gTr_bu T) k).toInt64)) (sOd_sz (gTr_bu (buyT x T ((gOd_ho (gTr_bu T) k).toNatClampNeg) (gOd_sz (gTr_bu T) k).toInt64 (mdC x (gOd_sz (gTr_bu T) k).toInt64))) (upd (gOd_sz (gTr_bu (buyT x T ((gOd_ho (gTr_bu T) k).toNatClampNeg) (gOd_sz (gTr_bu T) k).toInt64 (mdC x (gOd_sz (gTr_bu T) k).toInt64)))) k (nI 0)))) (j : Nat) (ej : (j : Int) = oH (gTr_bu T0) k) (a : Int) (ea : a = oS (gTr_bu T0) k) : j < 6 ∧ (1 ≤ a ∧ a ≤ 1000000) ∧ lI T2 = lI T ∧ soI T2 = soI T ∧ lfI T2 = lfI T ∧ ((mkI T0 a = 0 ∨ 1000000000 < uAll T + mkI T0 a) → cI T2 = cI T ∧ gTr_hd T2 = gTr_hd T ∧ evI T2 = evI T ∧ mdI T2 = mdI T ∧ bkI T2 = bkI T + a) ∧ (¬ (mkI T0 a = 0 ∨ 1000000000 < uAll T + mkI T0 a) → cI T2 = cI T + a ∧ (∀ i, i ≠ j → sameH T T2 i ∧ uU T2 i = uU T i) ∧ uU T2 j = uU T j + mkI T0 a ∧ uAll T2 = uAll T + mkI T0 a ∧ boI T2 j = boI T j + a ∧ paI T2 j = paI T j ∧ inI T2 j = inI T j ∧ eeI T2 j = eeI T j ∧ loI T2 j = loI T j ∧ (evI T ≤ evI T2 ∧ evI T2 ≤ evI T + 4 * a) ∧ mdI T2 = mdI T + mkI T0 a ∧ bkI T2 = bkI T) := by
  obtain ⟨⟨e1, e2, e3, e4, e5, e6, e7, e8⟩, hpc, hWc, hH, hE, hz⟩ := hW
  obtain ⟨x1, x2, ⟨x3, x4, x5⟩, x6, x7, x8, x9, x10, x11⟩ := hX
  obtain ⟨o1, o2, o3⟩ := hO.2.1 k hk
  have j1 := xho_eq o1
  have j2 := xho_lt o1
  have hzk := (hz k hk).1 (Nat.le_refl _)
  have hj : (gOd_ho (gTr_bu T) k).toNatClampNeg = j := by
    rw [e7]
    unfold oH at ej
    rw [j1, nI_int (by omega)] at ej
    omega
  have j6 : j < 6 := by rw [← hj, e7]; exact j2
  have ham : (gOd_sz (gTr_bu T) k).toInt64.toInt = a := by rw [hzk, i32_l, ea]; rfl
  have ha : 1 ≤ a ∧ a ≤ 1000000 := by rw [ea]; exact ⟨o2, o3⟩
  obtain ⟨m1, m2, m3, m4⟩ := mkI_r hB hp ham ha
  have hun := units_int hH
  have hall := uAll_nn hH
  have hall2 := hH.2
  have hbk : (gLd_back (gTr_la T) + (gOd_sz (gTr_bu T) k).toInt64).toInt = bkI T + a := by
    have hs1 : 0 ≤ pS (gTr_bu T0) k := pS_nn hO k
    have hs2 : pS (gTr_bu T0) 0 ≤ 20000000 := by
      have h1 : pS (gTr_bu T0) 0 ≤ ((gOd_n (gTr_bu T0) - 0 : Nat) : Int) * 1000000 := (isum_bd (B := 1000000) (gOd_n (gTr_bu T0) - 0) (fun i hi => by
        have := hO.2.1 (0 + i) (by omega)
        exact ⟨by omega, this.2.2⟩)).2
      have := hO.1
      omega
    exact i64_add (x := bkI T) rfl ham (by omega) (by omega)
  rw [hj] at eT2
  generalize (gOd_sz (gTr_bu T) k).toInt64 = am at ham m1 hbk eT2
  generalize mdC x am = md at m1 eT2
  have z0 : (0 : Int64).toInt = 0 := rfl
  have hsum : (f_X6_units T + md).toInt = uAll T + mkI T0 a := i64_add hun m1 (by omega) (by omega)
  refine ⟨j6, ha, ?_, ?_, ?_, fun g => ?_, fun g => ?_⟩
  · rw [eT2]; unfold buyT lI; split
    · rfl
    · split <;> rfl
  · rw [eT2]; unfold buyT soI; split
    · rfl
    · split <;> rfl
  · rw [eT2]; unfold buyT lfI; split
    · rfl
    · split <;> rfl
  · have eb : buyT x T j am md = sTr_la T (sLd_back (gTr_la T) (gLd_back (gTr_la T) + am)) := by
      unfold buyT
      by_cases c : md = 0
      · rw [if_pos c]
      · rw [if_neg c]
        rw [i64_eq_iff, m1, z0] at c
        rw [if_neg]
        rw [i64_le_iff, hsum]
        have : (1000000000 : Int64).toInt = 1000000000 := rfl
        omega
    rw [eb] at eT2
    rw [eT2]
    exact ⟨rfl, rfl, rfl, rfl, hbk⟩
  · have eb : buyT x T j am md = sTr_la (f_X6_makeUnits T j md am (gDd_ui x)) (sLd_made (gTr_la (f_X6_makeUnits T j md am (gDd_ui x))) (gLd_made (gTr_la (f_X6_makeUnits T j md am (gDd_ui x))) + md)) := by
      unfold buyT
      rw [if_neg (by rw [i64_eq_iff, m1, z0]; omega), if_pos]
      rw [i64_le_iff, hsum]
      have : (1000000000 : Int64).toInt = 1000000000 := rfl
      omega
    rw [eb] at eT2
    have hp1 : 0 < mkI T0 a → 1 ≤ pI T0 := fun q => by
      have p0 := (pI_bd hB).1
      unfold mkI at q
      by_cases c : pI T0 = 0
      · rw [if_pos c] at q; omega
      · omega
    obtain ⟨b1, b2⟩ := even_bd hB m2 hp1 m4
    have hi2 : 0 ≤ iI T0 ∧ iI T0 ≤ 10010000000000 := by
      obtain ⟨y1, y2, y3, y4, y5⟩ := mI_bd hB
      refine ⟨y3, ?_⟩
      by_cases c : 0 < uAll T0
      · have := (y4 c).2; omega
      · have := y5 (by omega); omega
    have b3 : mkI T0 a * iI T0 ≤ 4000000000 + 1000 := by omega
    have hmul : (md * gDd_ui x).toInt = mkI T0 a * iI T0 := i64_mul m1 hi (by omega) (by omega)
    obtain ⟨v1, v2, v3, v4, -, -⟩ := make_inv hH j6 (un := md) (am := am) (ofu := gDd_ui x) ⟨by omega, by omega⟩ ⟨hpc.1, hpc.2, by show cI T ≤ _; omega⟩ ⟨by omega, by omega⟩ (by omega)
    obtain ⟨y1, y2, y3, y4, y5, y6⟩ := x1 j j6
    obtain ⟨w1, w2, w3, w4, w5, w6, w7⟩ := make_sp (T := T) j (un := md) (am := am) (ofu := gDd_ui x) ⟨by omega, by omega⟩ ⟨y5, by omega⟩ ⟨x3, by omega⟩ (by omega)
    have hmd : (gLd_made (gTr_la T) + md).toInt = mdI T + mkI T0 a := i64_add (x := mdI T) rfl m1 (by omega) (by omega)
    have hla : gTr_la (f_X6_makeUnits T j md am (gDd_ui x)) = gTr_la T := rfl
    rw [hla] at eT2
    generalize f_X6_makeUnits T j md am (gDd_ui x) = T3 at *
    rw [eT2]
    refine ⟨?_, fun i hi => ⟨w1 i hi, v3 i hi⟩, ?_, ?_, ?_, w3, w4, w5, w6, ⟨?_, ?_⟩, hmd, rfl⟩
    · show (gTr_cash T3).toInt = _
      rw [v4, ham]; rfl
    · show uU T3 j = _
      rw [v2, m1]
    · show isum (uU T3) 6 = _
      rw [isum_upd (f := uU T) (g := uU T3) 6 j j6 (fun i _ hi => v3 i hi), v2, m1]
      have : uAll T = isum (uU T) 6 := rfl
      omega
    · show boI T3 j = _
      rw [w2, ham]
    · show evI T ≤ evI T3
      rw [w7, hmul]
      have := Int.ediv_nonneg b1 (show (0 : Int) ≤ 1000 by decide)
      omega
    · show evI T3 ≤ _
      rw [w7, hmul]
      omega
theorem XB_next {T0 T1 T T2 : zTr} {x : zDd} {k : Nat} (hB : iB T0) (hp : (gDd_price x).toInt = pI T0) (hi : (gDd_ui x).toInt = iI T0) (hO : iO 1000000 (gTr_bu T0)) (hk : k < gOd_n (gTr_bu T0)) (hW : iW T0 T1 T k) (hX : XB T0 T1 T k) (hcb : cI T ≤ 10000000000) (hu1 : 0 ≤ uAll T1) (hbo : isum (boI T1) 6 + pS (gTr_bu T0) 0 ≤ 1000000000) (hev : evI T1 ≤ 4 * isum (boI T1) 6) (eT2 : T2 = sTr_bu (buyT x T ((gOd_ho (gTr_bu T) k).toNatClampNeg) (gOd_sz (gTr_bu T) k).toInt64 (mdC x (gOd_sz (gTr_bu T) k).toInt64)) (sOd_sz (gTr_bu (buyT x T ((gOd_ho (gTr_bu T) k).toNatClampNeg) (gOd_sz (gTr_bu T) k).toInt64 (mdC x (gOd_sz (gTr_bu T) k).toInt64))) (upd (gOd_sz (gTr_bu (buyT x T ((gOd_ho (gTr_bu T) k).toNatClampNeg) (gOd_sz (gTr_bu T) k).toInt64 (mdC x (gOd_sz (gTr_bu T) k).toInt64)))) k (nI 0)))) : XB T0 T1 T2 (k + 1) := by
  have hoh : 0 ≤ oH (gTr_bu T0) k := by
    have o1 := (hO.2.1 k hk).1
    have j1 := xho_eq o1
    have j2 := xho_lt o1
    unfold oH
    rw [j1, nI_int (by omega)]
    omega
  obtain ⟨j6, ⟨a1, a2⟩, r1, r2, r3, r4, r5⟩ := buy_st hB hp hi hO hk hW hX hcb hu1 T2 eT2 (oH (gTr_bu T0) k).toNat (by omega) _ rfl
  obtain ⟨x1, x2, ⟨x3, x4, x5⟩, x6, x7, x8, x9, x10, x11⟩ := hX
  have hps := pS_step hk
  have hmk := (mkI_r hB hp (am := (gOd_sz (gTr_bu T0) k).toInt64) (a := oS (gTr_bu T0) k) (i32_l _) ⟨a1, a2⟩).2.1
  have hsz : oS (gTr_bu T0) k = (gOd_sz (gTr_bu T0) k).toInt := rfl
  have hp1 : 0 ≤ pS (gTr_bu T0) (k + 1) := pS_nn hO (k + 1)
  generalize (oH (gTr_bu T0) k).toNat = j at j6 r5
  generalize oS (gTr_bu T0) k = a at a1 a2 r4 r5 hsz hmk
  by_cases g : mkI T0 a = 0 ∨ 1000000000 < uAll T + mkI T0 a
  · obtain ⟨s1, s2, s3, s4, s5⟩ := r4 g
    have hb : isum (boI T2) 6 = isum (boI T) 6 := isum_congr 6 (fun i _ => by unfold boI; rw [s2])
    have hu : uAll T2 = uAll T := isum_congr 6 (fun i _ => by unfold uU uO uN; rw [s2])
    refine ⟨fun i hi => ?_, by rw [hb]; omega, by rw [hb, s3]; exact ⟨x3, x4, x5⟩, by rw [r2]; exact x6, by rw [r3]; exact x7, by rw [s4]; exact x8, by rw [s4, hu]; exact x9, by rw [s5]; omega, by rw [s5]; omega⟩
    unfold paI inI eeI loI boI at x1 ⊢
    rw [s2]
    exact x1 i hi
  · obtain ⟨s1, s2, s3, s4, s5, s6, s7, s8, s9, ⟨s10, s11⟩, s12, s13⟩ := r5 g
    have hbn : ∀ i, i < 6 → 0 ≤ boI T2 i := fun i hi => by
      by_cases e : i = j
      · subst e; rw [s5]; have := (x1 i hi).2.2.2.2.1; omega
      · rw [(s2 i e).1.1]; exact (x1 i hi).2.2.2.2.1
    have hb : isum (boI T2) 6 = isum (boI T) 6 + a := by
      rw [isum_upd (f := boI T) (g := boI T2) 6 j j6 (fun i _ hi => (s2 i hi).1.1), s5]; omega
    refine ⟨fun i hi => ?_, by rw [hb]; omega, ⟨by omega, by omega, by rw [hb]; omega⟩, by rw [r2]; exact x6, by rw [r3]; exact x7, by rw [s12]; omega, by rw [s12, s4]; omega, by rw [s13]; exact x10, by rw [s13]; omega⟩
    have hbl : boI T2 i ≤ isum (boI T2) 6 := isum_ge 6 i hi hbn
    by_cases e : i = j
    · subst e
      obtain ⟨y1, y2, y3, y4, y5, y6⟩ := x1 i hi
      exact ⟨s6.trans y1, s7.trans y2, s8.trans y3, s9.trans y4, hbn i hi, by omega⟩
    · obtain ⟨y1, y2, y3, y4, y5, y6⟩ := x1 i hi
      obtain ⟨q1, q2, q3, q4, q5⟩ := (s2 i e).1
      exact ⟨q2.trans y1, q3.trans y2, q4.trans y3, q5.trans y4, hbn i hi, by omega⟩
