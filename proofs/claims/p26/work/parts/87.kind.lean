/-! an exit in kind -/
theorem ui_same {T T1 : zTr} (h1 : gTr_pool T1 = gTr_pool T) (h2 : f_X6_units T1 = f_X6_units T) : f_X6_unitIncome T1 = f_X6_unitIncome T := by
  show (if f_X6_units T1 ≤ 0 then (0 : Int64) else 1000 * gTr_pool T1 / f_X6_units T1) = (if f_X6_units T ≤ 0 then 0 else 1000 * gTr_pool T / f_X6_units T)
  rw [h1, h2]
theorem kind_free {D : Int} {T : zTr} (hI : Inv D T) {j : Nat} (hj : j < 6) {un : Int32} (h1 : 1 ≤ un.toInt) (h2 : un.toInt64 ≤ f_X6_freeUnits T j) : un.toInt ≤ uU T j - hS (gTr_le T) j ∧ 0 ≤ hS (gTr_le T) j ∧ un.toInt ≤ uAll T ∧ 0 < (f_X6_units T).toInt := by
  obtain ⟨hB, hOb, hOl, hE, hdy, hYb, hYl⟩ := hI
  have hfi := free_int hB.2.2.2.2 hOl hE hj
  rw [i64_le_iff, i32_l, hfi] at h2
  have h5 : 0 ≤ hS (gTr_le T) j := isum_nn _ (fun i hi => by
    have := (hOl.2.1 i hi).2.1
    split <;> omega)
  have h6 := uU_le hB.2.2.2.2 hj
  rw [units_int hB.2.2.2.2]
  omega
theorem okKind {D : Int} {T : zTr} {S : zMs} (h un : Int32) (hI : Inv D T) (hR : RTr T (gMs_at S)) : ok_inKind S h un := fun a1 a2 a3 => by
  have hH := hI.1.2.2.2.2
  have c1 : ¬ f_X7_isHolder h = false := by rw [← holder_eq, a1]; decide
  have hj := xh_lt c1
  rw [free_eq hR.1 hR.2.2.1 hI.2.2.1 hj] at a3
  rw [i32_le_iff] at a2
  have a2' : 1 ≤ un.toInt := a2
  obtain ⟨k1, k2, k3, k4⟩ := kind_free hI hj a2' a3
  rw [issue_eq hR.1, allNew_eq hR.1]
  have hof : f_X8_of S h.toNatClampNeg 0 = gHd_old (gTr_hd T h.toNatClampNeg) := (hR.1.2.2.2.2.2.2.2 _ hj).1
  rw [hof, i64_min_le]
  refine ⟨fun z => by rw [z] at k4; exact absurd k4 (by decide), fun hf => ui_ne hH hj ⟨?_, ?_⟩ hf⟩
  · rw [i32_l]; omega
  · rw [i32_l]; omega
theorem kind_op {D : Int} {T : zTr} {S : zMs} (h un : Int32) (hI : Inv D T) (hR : RTr T (gMs_at S)) (hg : gP 50000 T ≤ 10700000000) : opR D T S true (f_X6_exitInKind T h un) (f_X8_inKind S h un) 20000000 0 := by
  have hIs := hI
  obtain ⟨g1, g2⟩ := gP_bd hI hg
  obtain ⟨hB, hOb, hOl, hE, hdy, hYb, hYl⟩ := hI
  have hH := hB.2.2.2.2
  have z1 : (nI 1).toInt = 1 := rfl
  unfold f_X8_inKind f_X6_exitInKind
  rw [zsl_e]
  dsimp only
  rw [holder_eq]
  by_cases c1 : f_X7_isHolder h = false
  · rw [if_pos c1, if_pos c1]; exact opR_no (by decide)
  rw [if_neg c1, if_neg c1]
  by_cases c2 : nI 1 ≤ un
  · rw [if_pos c2, if_pos c2]
    have hj := xh_lt c1
    rw [free_eq hR.1 hR.2.2.1 hOl hj]
    by_cases c6 : un.toInt64 ≤ f_X6_freeUnits T h.toNatClampNeg
    · have c7 : ¬ f_X6_freeUnits T h.toNatClampNeg < un.toInt64 := Int64.not_lt.mpr c6
      rw [i32_le_iff, z1] at c2
      obtain ⟨k1, k2, k3, k4⟩ := kind_free hIs hj c2 c6
      have c8 : 0 < f_X6_units T := by rw [i64_lt_iff]; exact k4
      rw [if_pos c6, if_neg c7, if_pos c8]
      have hk : RTr T (gMs_at (f_X8_keep S)) := hR
      rw [ui_eq hk.1 hH, issue_eq hk.1, hk.1.2.2.1, hk.1.2.1]
      generalize hjj : h.toNatClampNeg = j at hj k1 k2 ⊢
      have hun := units_int hH
      rw [hun] at k4
      have hl := hB.2.1
      have hp := hB.2.2.2.1
      have hall := hH.2
      -- what he gets
      have m1 : 0 ≤ un.toInt * (gTr_lots T).toInt := Int.mul_nonneg (by omega) hl.1
      have m2 : un.toInt * (gTr_lots T).toInt ≤ uAll T * (gTr_lots T).toInt := Int.mul_le_mul_of_nonneg_right k3 hl.1
      have m3 : uAll T * (gTr_lots T).toInt ≤ 1000000000 * 1000 := Int.mul_le_mul hall hl.2 hl.1 (by decide)
      have m4 : 0 ≤ un.toInt * (gTr_cash T).toInt := Int.mul_nonneg (by omega) (by omega)
      have m5 : un.toInt * (gTr_cash T).toInt ≤ uAll T * (gTr_cash T).toInt := Int.mul_le_mul_of_nonneg_right k3 (by omega)
      have m6 : uAll T * (gTr_cash T).toInt ≤ 1000000000 * 3000000000 := Int.mul_le_mul hall (by omega) (by omega) (by decide)
      have hlg : (un.toInt64 * (gTr_lots T).toInt64 / f_X6_units T).toInt = un.toInt * (gTr_lots T).toInt / uAll T := i64_div (i64_mul (i32_l _) (i32_l _) (by omega) (by omega)) hun m1 k4
      have hcg : (un.toInt64 * gTr_cash T / f_X6_units T).toInt = un.toInt * (gTr_cash T).toInt / uAll T := i64_div (i64_mul (i32_l _) rfl (by omega) (by omega)) hun m4 k4
      have l1 : 0 ≤ un.toInt * (gTr_lots T).toInt / uAll T := Int.ediv_nonneg m1 (by omega)
      have l2 : un.toInt * (gTr_lots T).toInt / uAll T ≤ (gTr_lots T).toInt := by
        refine Int.ediv_le_of_le_mul k4 ?_
        rw [Int.mul_comm (gTr_lots T).toInt]; exact m2
      have l3 : 0 ≤ un.toInt * (gTr_cash T).toInt / uAll T := Int.ediv_nonneg m4 (by omega)
      have l4 : un.toInt * (gTr_cash T).toInt / uAll T ≤ (gTr_cash T).toInt := by
        refine Int.ediv_le_of_le_mul k4 ?_
        rw [Int.mul_comm (gTr_cash T).toInt]; exact m5
      generalize un.toInt * (gTr_lots T).toInt / uAll T = lgi at hlg l1 l2
      generalize un.toInt * (gTr_cash T).toInt / uAll T = cgi at hcg l3 l4
      generalize un.toInt64 * (gTr_lots T).toInt64 / f_X6_units T = lg at hlg ⊢
      generalize un.toInt64 * gTr_cash T / f_X6_units T = cg at hcg ⊢
      have hlg32 : lg.toInt32.toInt = lgi := (l_i32 (by omega) (by omega)).trans hlg
      have hlg64 : lg.toInt32.toInt64 = lg := l_i_l (by omega) (by omega)
      rw [hlg64]
      generalize hT1 : sTr_hd (sTr_lots T (gTr_lots T - lg.toInt32)) (zup (gTr_hd T) j (sHd_lots (gTr_hd T j) (gHd_lots (gTr_hd T j) + lg))) = T1
      have hz := uU_zup (T := T) (T' := T1) (h := j) (x := sHd_lots (gTr_hd T j) (gHd_lots (gTr_hd T j) + lg)) (by rw [← hT1])
      have hu1 : ∀ i, uO T1 i = uO T i ∧ uN T1 i = uN T i := fun i => by
        by_cases e : i = j
        · subst e; exact ⟨hz.2.1, hz.2.2⟩
        · exact hz.1 i e
      have hU1 : ∀ i, uU T1 i = uU T i := fun i => by show uO T1 i + uN T1 i = _; rw [(hu1 i).1, (hu1 i).2]; rfl
      have hH1 : iH T1 := ⟨fun i hi => by rw [(hu1 i).1, (hu1 i).2]; exact hH.1 i hi, by
        show isum (uU T1) 6 ≤ _
        rw [isum_congr 6 (fun i _ => hU1 i)]; exact hH.2⟩
      have hunits1 : f_X6_units T1 = f_X6_units T := i64_eq_iff.mpr (by
        rw [units_int hH1, units_int hH]
        exact isum_congr 6 (fun i _ => hU1 i))
      have hnew1 : f_X6_newUnits T1 = f_X6_newUnits T := i64_eq_iff.mpr (by
        rw [new_int hH1, new_int hH]
        exact isum_congr 6 (fun i _ => (hu1 i).2))
      have hui1 : f_X6_unitIncome T1 = f_X6_unitIncome T := ui_same (by rw [← hT1]) hunits1
      rw [hui1]
      have hun64 : (un.toInt64).toInt = un.toInt := i32_l _
      obtain ⟨v1, v2, v3, v4, v5⟩ := take_inv (am := cg) (ofu := f_X6_unitIncome T) hH1 hj (un := un.toInt64) ⟨by omega, by rw [hU1]; omega⟩ ⟨by omega, by rw [← hT1]; show cg.toInt ≤ (gTr_cash T).toInt; omega⟩
      have hev := even_eq hH1 hj (un := un.toInt64) (e := gTr_even T) ⟨by omega, by rw [hU1]; omega⟩
      obtain ⟨q0, q1, q8, q9, qo⟩ := go_at (f_X8_keep S) hj un.toInt64 (f_X6_unitIncome T)
      rw [allNew_eq hk.1] at q9
      obtain ⟨r1, r5, r6, r7, r8, r9, r10, rh⟩ := hk.1
      obtain ⟨h0, h1, h2, h3, h4, h5, h6⟩ := rh j hj
      rw [h0] at q0 q1 q9
      rw [h1] at q1
      rw [r5, r8] at q8
      rw [r9] at q9
      have ho1 : gHd_old (gTr_hd T1 j) = gHd_old (gTr_hd T j) := by rw [← hT1]; show gHd_old (zup _ j _ j) = _; rw [zup_s]
      rw [hnew1, ho1] at hev
      rw [hev] at q9
      have hGf := f_go_form (f_X8_keep S) j un.toInt64 (f_X6_unitIncome T)
      generalize f_X8_goUnits (f_X8_keep S) j un.toInt64 (f_X6_unitIncome T) = G at q0 q1 q8 q9 qo hGf ⊢
      have g6 : gMs_at G 6 = (gTr_lots T).toInt64 := (qo 6 (by omega) (by omega) (by omega) (by omega)).trans r6
      have g5 : gMs_at G 5 = gTr_cash T := (qo 5 (by omega) (by omega) (by omega) (by omega)).trans r5
      generalize hB2 : vp_updL (vp_updL (gMs_at G) 6 (gMs_at G 6 - lg)) 5 (vp_updL (gMs_at G) 6 (gMs_at G 6 - lg) 5 - cg) = B2
      have b5 : B2 5 = gTr_cash T - cg := by rw [← hB2, vp_updL_s, vp_updL_n _ _ (by decide), g5]
      have b6 : B2 6 = (gTr_lots T).toInt64 - lg := by rw [← hB2, vp_updL_n _ _ (by decide), vp_updL_s, g6]
      have bo : ∀ i, i ≠ 5 → i ≠ 6 → B2 i = gMs_at G i := fun i a b => by rw [← hB2, vp_updL_n _ _ a, vp_updL_n _ _ b]
      generalize hF : f_X8_add (f_X8_add (f_X8_holdPool (sMs_at G B2)) j 6 lg) j 3 cg = F
      have hFf : F = sMs_at (f_X8_keep S) (gMs_at F) := by
        rw [← hF, hGf]; rfl
      have f8 : gMs_at F 8 = gTr_pool (f_X6_takeUnits T1 j un.toInt64 cg (f_X6_unitIncome T)) := by
        rw [← hF, f_add_at _ (by omega), f_add_at _ (by omega)]
        show vp_updL B2 8 (if B2 8 ≤ B2 5 then B2 8 else B2 5) 8 = _
        rw [vp_updL_s, bo 8 (by decide) (by decide), b5, q8]
        have hpl : gTr_pool T1 = gTr_pool T := by rw [← hT1]
        have hcs : gTr_cash T1 = gTr_cash T := by rw [← hT1]
        have hq : gTr_pool (f_X6_takeUnits T1 j un.toInt64 cg (f_X6_unitIncome T)) = (if gTr_cash T1 - cg < (if 0 < gTr_pool T1 - un.toInt64 * f_X6_unitIncome T / 1000 then gTr_pool T1 - un.toInt64 * f_X6_unitIncome T / 1000 else 0) then gTr_cash T1 - cg else (if 0 < gTr_pool T1 - un.toInt64 * f_X6_unitIncome T / 1000 then gTr_pool T1 - un.toInt64 * f_X6_unitIncome T / 1000 else 0)) := rfl
        rw [hq, hpl, hcs]
        generalize (if 0 < gTr_pool T - un.toInt64 * f_X6_unitIncome T / 1000 then gTr_pool T - un.toInt64 * f_X6_unitIncome T / 1000 else (0 : Int64)) = m
        have hcc : (gTr_cash T - cg).toInt = (gTr_cash T).toInt - cgi := i64_sub rfl hcg (by omega) (by omega)
        rw [i64_min_le]
        by_cases e1 : gTr_cash T < m
        · rw [if_pos e1]
          rw [i64_lt_iff] at e1
          have e2 : gTr_cash T - cg < m := by rw [i64_lt_iff, hcc]; omega
          rw [if_pos e2]
          by_cases e3 : gTr_cash T - cg < gTr_cash T
          · rw [if_pos e3]
          · rw [if_neg e3]
            rw [i64_lt_iff, hcc] at e3
            exact i64_eq_iff.mpr (by rw [hcc]; omega)
        · rw [if_neg e1]
      have f9 : gMs_at F 9 = gTr_even (f_X6_takeUnits T1 j un.toInt64 cg (f_X6_unitIncome T)) := by
        rw [← hF, f_add_at _ (by omega), f_add_at _ (by omega), f_hold_at _ (by omega)]
        show B2 9 = _
        rw [bo 9 (by decide) (by decide), q9]
        have hev1 : gTr_even T1 = gTr_even T := by rw [← hT1]
        have hq : gTr_even (f_X6_takeUnits T1 j un.toInt64 cg (f_X6_unitIncome T)) = (if f_X6_newUnits T1 ≤ 0 then gTr_even T1 else gTr_even T1 - (un.toInt64 - gOld (gHd_old (gTr_hd T1 j)) un.toInt64) * gTr_even T1 / f_X6_newUnits T1) := rfl
        rw [hq, hnew1, hev1, ho1]
      have fo : ∀ i, i ≠ 5 → i ≠ 6 → i ≠ 8 → i ≠ 9 → i ≠ 19 + 7 * j + 0 → i ≠ 19 + 7 * j + 1 → i ≠ 19 + 7 * j + 3 → i ≠ 19 + 7 * j + 6 → gMs_at F i = gMs_at S i := fun i a1 a2 a3 a4 a5 a6 a7 a8 => by
        rw [← hF, f_add_at _ a7, f_add_at _ a8, f_hold_at _ a3]
        show B2 i = _
        rw [bo i a1 a2, qo i a3 a4 a5 a6]; rfl
      have fb : ∀ i, i ≠ 8 → i ≠ 19 + 7 * j + 3 → i ≠ 19 + 7 * j + 6 → gMs_at F i = B2 i := fun i a1 a2 a3 => by
        rw [← hF, f_add_at _ a2, f_add_at _ a3, f_hold_at _ a1]
      have fj0 : gMs_at F (19 + 7 * j + 0) = gHd_old (gTr_hd T j) - gOld (gHd_old (gTr_hd T j)) un.toInt64 := by rw [fb _ (by omega) (by omega) (by omega), bo _ (by omega) (by omega), q0]
      have fj1 : gMs_at F (19 + 7 * j + 1) = gHd_new (gTr_hd T j) - (un.toInt64 - gOld (gHd_old (gTr_hd T j)) un.toInt64) := by rw [fb _ (by omega) (by omega) (by omega), bo _ (by omega) (by omega), q1]
      have fj3 : gMs_at F (19 + 7 * j + 3) = gHd_paid (gTr_hd T j) + cg := by
        rw [← hF, f_add_s, f_add_at _ (by omega), f_hold_at _ (by omega)]
        show B2 _ + cg = _
        rw [bo _ (by omega) (by omega), qo _ (by omega) (by omega) (by omega) (by omega), h3]
      have fj6 : gMs_at F (19 + 7 * j + 6) = gHd_lots (gTr_hd T j) + lg := by
        rw [← hF, f_add_at _ (by omega), f_add_s, f_hold_at _ (by omega)]
        show B2 _ + lg = _
        rw [bo _ (by omega) (by omega), qo _ (by omega) (by omega) (by omega) (by omega), h6]
      have hlots : (gTr_lots T - lg.toInt32).toInt = (gTr_lots T).toInt - lgi := i32_sub rfl hlg32 (by omega) (by omega)
      have hTk : ∃ pp ee, f_X6_takeUnits T1 j un.toInt64 cg (f_X6_unitIncome T) = sTr_hd (sTr_even (sTr_pool (sTr_cash (sTr_lots T (gTr_lots T - lg.toInt32)) (gTr_cash T - cg)) pp) ee) (zup (zup (gTr_hd T) j (sHd_lots (gTr_hd T j) (gHd_lots (gTr_hd T j) + lg))) j (sHd_paid (sHd_new (sHd_old (gTr_hd T1 j) (gHd_old (gTr_hd T1 j) - gOld (gHd_old (gTr_hd T1 j)) un.toInt64)) (gHd_new (gTr_hd T1 j) - (un.toInt64 - gOld (gHd_old (gTr_hd T1 j)) un.toInt64))) (gHd_paid (gTr_hd T1 j) + cg))) := by
        rw [← hT1]; exact ⟨_, _, rfl⟩
      obtain ⟨pp, ee, hTk⟩ := hTk
      have hd1 : gTr_hd T1 j = sHd_lots (gTr_hd T j) (gHd_lots (gTr_hd T j) + lg) := by rw [← hT1]; exact zup_s _ _ _
      rw [hd1, zup_2] at hTk
      generalize f_X6_takeUnits T1 j un.toInt64 cg (f_X6_unitIncome T) = T2 at f8 f9 v1 v2 v3 v4 v5 hTk ⊢
      have hT2c : gTr_cash T2 = gTr_cash T - cg := by rw [hTk]
      have hT2l : gTr_lots T2 = gTr_lots T - lg.toInt32 := by rw [hTk]
      have hsame : gTr_st T2 = gTr_st T ∧ gTr_quote T2 = gTr_quote T ∧ gTr_day T2 = gTr_day T ∧ gTr_bu T2 = gTr_bu T ∧ gTr_le T2 = gTr_le T ∧ gTr_la T2 = gTr_la T := by rw [hTk]; exact ⟨rfl, rfl, rfl, rfl, rfl, rfl⟩
      have hhd : gTr_hd T2 = zup (gTr_hd T) j (sHd_paid (sHd_new (sHd_old (sHd_lots (gTr_hd T j) (gHd_lots (gTr_hd T j) + lg)) (gHd_old (gTr_hd T j) - gOld (gHd_old (gTr_hd T j)) un.toInt64)) (gHd_new (gTr_hd T j) - (un.toInt64 - gOld (gHd_old (gTr_hd T j)) un.toInt64))) (gHd_paid (gTr_hd T j) + cg)) := by rw [hTk]
      clear hTk
      obtain ⟨s1, s2, s3, s4, s5, s6⟩ := hsame
      have hcc : (gTr_cash T2).toInt = (gTr_cash T).toInt - cgi := by rw [hT2c]; exact i64_sub rfl hcg (by omega) (by omega)
      have hll : (gTr_lots T2).toInt = (gTr_lots T).toInt - lgi := by rw [hT2l]; exact hlots
      rw [hFf]
      refine opR_yes (b := true) (gMs_at F) (by omega) (RTr_C hIs hR ⟨fun k hk => ?_, ?_, ?_, ?_, f8, f9, ?_, fun i hi => ?_⟩ (fun i hi => fo i (by omega) (by omega) (by omega) (by omega) (by omega) (by omega) (by omega) (by omega)) s4 s5 s6) ⟨⟨fun k hk => by rw [s1]; exact hB.1 k hk, by omega, by rw [s2]; exact hB.2.2.1, ⟨v5.1, v5.2, by omega⟩, v1⟩, by rw [s4]; exact hOb, by rw [s5]; exact hOl, fun i hi => ?_, by rw [s3]; exact hdy, by rw [s3, s4]; exact hYb, by rw [s3, s5]; exact hYl⟩ ?_ ?_
      · rw [fo k (by omega) (by omega) (by omega) (by omega) (by omega) (by omega) (by omega) (by omega), s1]; exact r1 k hk
      · rw [fb 5 (by omega) (by omega) (by omega), b5, hT2c]
      · rw [fb 6 (by omega) (by omega) (by omega), b6]
        apply i64_eq_iff.mpr
        rw [i32_l, hll]
        exact i64_sub (i32_l _) hlg (by omega) (by omega)
      · rw [fo 7 (by omega) (by omega) (by omega) (by omega) (by omega) (by omega) (by omega) (by omega), s2]; exact r7
      · rw [fo 10 (by omega) (by omega) (by omega) (by omega) (by omega) (by omega) (by omega) (by omega), s3]; exact r10
      · rw [hhd]
        by_cases e : i = j
        · subst e
          rw [zup_s]
          refine ⟨fj0, fj1, ?_, fj3, ?_, ?_, fj6⟩
          · rw [fo _ (by omega) (by omega) (by omega) (by omega) (by omega) (by omega) (by omega) (by omega)]; exact h2
          · rw [fo _ (by omega) (by omega) (by omega) (by omega) (by omega) (by omega) (by omega) (by omega)]; exact h4
          · rw [fo _ (by omega) (by omega) (by omega) (by omega) (by omega) (by omega) (by omega) (by omega)]; exact h5
        · rw [zup_n _ _ e]
          have q : ∀ w, w < 7 → gMs_at F (19 + 7 * i + w) = gMs_at S (19 + 7 * i + w) := fun w hw => fo _ (by omega) (by omega) (by omega) (by omega) (by omega) (by omega) (by omega) (by omega)
          rw [q 0 (by omega), q 1 (by omega), q 2 (by omega), q 3 (by omega), q 4 (by omega), q 5 (by omega), q 6 (by omega)]
          exact rh i hi
      · rw [s5]
        by_cases e : i = j
        · subst e; rw [v2, hU1, hun64]; omega
        · rw [v3 i e, hU1]; exact hE i hi
      · unfold pPhi gP
        rw [s2, s4, hll, Int.mul_sub]
        have w1 : 0 ≤ (20000 + 4 * (gTr_quote T).toInt) * lgi := Int.mul_nonneg (by have := hB.2.2.1; omega) l1
        omega
      · unfold gP
        rw [s4, hll]
        omega
    · have c7 : f_X6_freeUnits T h.toNatClampNeg < un.toInt64 := Int64.not_le.mp c6
      rw [if_neg c6, if_pos c7]; exact opR_no (by decide)
  · rw [if_neg c2, if_neg c2]; exact opR_no (by decide)
