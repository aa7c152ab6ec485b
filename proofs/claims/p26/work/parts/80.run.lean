/-! a day's end: both sides alike -/
/-- what holds of a trust between the calls -/
def Inv (D : Int) (T : zTr) : Prop := iB T ∧ iO 1000000 (gTr_bu T) ∧ iO 1000000000 (gTr_le T) ∧ iE T ∧ (0 ≤ (gTr_day T).toInt ∧ (gTr_day T).toInt ≤ D) ∧ iY ((gTr_day T).toInt + 1) (gTr_bu T) ∧ iY ((gTr_day T).toInt + 1) (gTr_le T)
/-- what a trust is worth at most, by a weight for a lot -/
def gP (W : Int) (T : zTr) : Int := 5 * (gTr_cash T).toInt + 5 * pS (gTr_bu T) 0 + W * (gTr_lots T).toInt
theorem iO_ok {mx : Int} {o : zOd} (h : iO mx o) : gOd_n o ≤ 20 ∧ ∀ i, i < gOd_n o → vp_in (gOd_ho o i) 6 := ⟨h.1, fun i hi => (h.2.1 i hi).1⟩
theorem Inv_ok {D : Int} {T : zTr} (h : Inv D T) : okT T := ⟨h.2.1.1, h.2.2.1.1, fun i hi => (h.2.1.2.1 i hi).1, fun i hi => (h.2.2.1.2.1 i hi).1⟩
theorem iY_mono {d d' : Int} {o : zOd} (h : iY d o) (hd : d ≤ d') : iY d' o := fun i hi => Int.le_trans (h i hi) hd
theorem run_ok {D : Int} {T : zTr} {S : zMs} (x : zDd) (hI : Inv D T) (hD : D ≤ 2000000000) (hg : gP 50000 T ≤ 45000000000) (hR : RTr T (gMs_at S)) :
    ∃ (x' : zDd) (T' : zTr) (sm : Nat → Int64), f_X0_run x T = (gTr_day T', x', T') ∧ (gTr_day T').toInt = (gTr_day T).toInt + 1 ∧ RTr T' (gMs_at (f_X8_endIt S)) ∧ Inv (D + 1) T' ∧ (∀ W : Int, 5 * (gTr_quote T).toInt ≤ W → gP W T' ≤ gP W T) ∧ gTr_quote T' = gTr_quote T ∧ f_X8_endIt S = sMs_sh (sMs_at S (gMs_at (f_X8_endIt S))) sm ∧ ok_endIt S := by
  obtain ⟨hB, hOb, hOl, hE, hdy, hYb, hYl⟩ := hI
  obtain ⟨hRC, hRb, hRl, hRd⟩ := hR
  have hH := hB.2.2.2.2
  have hpb := pS_nn hOb 0
  have htot := tot_le hOl hE
  have hall := hH.2
  have h10 : gMs_at S 10 = (gTr_day T).toInt64 := hRC.2.2.2.2.2.2.1
  -- what is taken of it
  have hp := priceNow_eq x hRC hRb hRl hB hOb hOl
  have hml := mayLeave_eq x hRC hRl hOl
  have hsw := swing_eq x hRC hRb hRl hB hOb hOl
  have hui := ui_eq hRC hH
  obtain ⟨hpI, -⟩ := price_int x hB hOb hOl
  obtain ⟨haI, hwI, ha0, ha1, ha2⟩ := allowed_int x hB hOl
  have hwant : f_X8_sumOf S 122 (gMs_at S 10) = gDd_wanted (f_X0_takePrice x T) := by rw [h10, sumDay_eq hRl hOl.1 hOl.2.2]; rfl
  have hui2 : gDd_ui (f_X0_takePrice x T) = f_X6_unitIncome T := rfl
  unfold f_X0_run
  rw [zsl_e]
  dsimp only
  generalize hx2 : f_X0_takePrice x T = x2 at hp hml hsw hpI haI hwI hwant hui2 ⊢
  obtain ⟨sm, sc, s1, s2, s3, s4⟩ := share_eq (x := x2) (day := gTr_day T) hRl h10 hOl (by omega) (by rw [haI]; exact ha0)
  rw [s2]
  generalize hx3 : sDd_sh x2 sc = x3
  have p3 : gDd_price x3 = gDd_price x2 := by rw [← hx3]
  have u3 : gDd_ui x3 = gDd_ui x2 := by rw [← hx3]
  have w3 : gDd_wanted x3 = gDd_wanted x2 := by rw [← hx3]
  have g3 : gDd_swung x3 = gDd_swung x2 := by rw [← hx3]
  have h3 : gDd_sh x3 = sc := by rw [← hx3]
  have hctx : ctx T x3 sm (f_X4_dueOn (gTr_le T) (gTr_day T)) := by
    refine ⟨hB, hOl, by rw [p3]; exact hpI, xdue_le, ?_, by rw [h3]; exact s3, s4, hOb⟩
    unfold gP at hg
    omega
  -- the reference ahead of the paying
  have hclr : f_X8_clear (f_X8_shareOut S (f_X8_mayLeave S)) = sMs_sh (sMs_at S (gMs_at (f_X8_clear (f_X8_shareOut S (f_X8_mayLeave S))))) sm := by
    rw [hml, s1]; rfl
  have hclrA : ∀ i, (i < 12 ∨ 18 ≤ i) → gMs_at (f_X8_clear (f_X8_shareOut S (f_X8_mayLeave S))) i = gMs_at S i := fun i hi => by
    rw [hml, s1]
    show vp_updL (vp_updL (vp_updL (vp_updL (vp_updL (vp_updL (gMs_at S) 12 0) 13 0) 14 0) 15 0) 16 0) 17 0 i = _
    rw [vp_updL_n _ _ (by omega), vp_updL_n _ _ (by omega), vp_updL_n _ _ (by omega), vp_updL_n _ _ (by omega), vp_updL_n _ _ (by omega), vp_updL_n _ _ (by omega)]
  have hclr0 : gMs_at (f_X8_clear (f_X8_shareOut S (f_X8_mayLeave S))) 12 = 0 ∧ gMs_at (f_X8_clear (f_X8_shareOut S (f_X8_mayLeave S))) 13 = 0 ∧ gMs_at (f_X8_clear (f_X8_shareOut S (f_X8_mayLeave S))) 14 = 0 ∧ gMs_at (f_X8_clear (f_X8_shareOut S (f_X8_mayLeave S))) 17 = 0 := by
    rw [hml, s1]
    exact ⟨rfl, rfl, rfl, rfl⟩
  have hfold : sMs_at (f_X8_shareOut S (f_X8_mayLeave S)) (vp_updL (vp_updL (vp_updL (vp_updL (vp_updL (vp_updL (gMs_at (f_X8_shareOut S (f_X8_mayLeave S))) 12 0) 13 0) 14 0) 15 0) 16 0) 17 0) = f_X8_clear (f_X8_shareOut S (f_X8_mayLeave S)) := rfl
  unfold f_X8_endIt ok_endIt
  rw [zsl_e]
  dsimp only
  rw [hfold]
  have hzC : zCk S 61 ∧ zCk S 122 ∧ ok_share S ∧ 0 ≤ f_X8_mayLeave S := ⟨zCk_o hRb hOb.1, zCk_o hRl hOl.1, okShare hRl hOl (by omega) x, by rw [hml, i64_le_iff, haI]; exact ha0⟩
  generalize f_X8_clear (f_X8_shareOut S (f_X8_mayLeave S)) = S1 at hclr hclrA hclr0 ⊢
  generalize hla : f_X3_start (gTr_la T) x2 = la
  have hPS : PS S T x3 sm (sTr_la T la) S1 0 := by
    refine ⟨⟨hclr, RC_ext hRC (fun i hi => hclrA i (by omega)), RO_ext hOb.1 hRb (fun i h1 h2 => hclrA i (by omega)), RO_ext hOl.1 hRl (fun i h1 h2 => hclrA i (by omega)), ?_⟩, ?_, ?_, ?_⟩
    · rw [← hla]
      exact ⟨hclr0.1, hclr0.2.1, hclr0.2.2.1, hclr0.2.2.2⟩
    · refine ⟨⟨rfl, rfl, rfl, rfl, rfl, rfl, rfl⟩, hB.2.1, ⟨hB.2.2.2.1.1, hB.2.2.2.1.2.1⟩, fun W hW => Int.le_refl _, hH, Int.le_refl _, hE, fun i hi => ⟨fun _ => rfl, ?_, Int.le_refl _⟩⟩
      have := (hOl.2.1 i hi).2.1
      show 0 ≤ (gOd_sz (gTr_le T) i).toInt
      omega
    · rw [← hla]
      refine ⟨rfl, p3.symm, g3.symm, ?_⟩
      show gDd_wanted x2 = gDd_wanted x3 - 0
      rw [w3, Int64.sub_zero]
    · unfold iSd
      rw [← hla]
      show (0 : Int) = (gTr_lots T).toInt - (gTr_lots T).toInt
      omega
  obtain ⟨hR1, hM1, hL1, hD1⟩ := pay_all hctx hPS
  have hp3 : f_X8_priceNow S = gDd_price x3 := hp.trans p3.symm
  have hu3 : f_X8_incomeOfUnit S = gDd_ui x3 := by rw [hui, u3, hui2]
  have hokp : ∀ (X : zMs) (go : Bool) (k : Nat), (∃ T', PS S T x3 sm T' X k) → okp_pay S1 X go k ∧ ∃ T', PS S T x3 sm T' (L_X8_pay1 (gDd_price x3) (gDd_ui x3) (0 + 1) X go k).1 (L_X8_pay1 (gDd_price x3) (gDd_ui x3) (0 + 1) X go k).2.2 := fun X go k ⟨T', h⟩ => ⟨okp_of hctx (PS_n hctx hPS) h, pay_one hctx h⟩
  have hzS1 : zCk S1 122 := zCk_o hPS.1.2.2.2.1 hOl.1
  rw [hp3, hu3]
  generalize hX2 : f_X8_payThem S1 (gDd_price x3) (gDd_ui x3) = X2 at hR1
  generalize hT1 : f_X0_payLeavers x3 (sTr_la T la) (f_X4_dueOn (gTr_le T) (gTr_day T)) = T1 at hR1 hM1 hL1 hD1
  obtain ⟨hX2f, hRC2, hRb2, hRl2, hRm2⟩ := hR1
  obtain ⟨⟨m1, m2, m3, m4⟩, mlots, mpc, mW, mH, mE, mO, mY⟩ := hM1
  rw [m3, m4]
  rw [m4] at hRb2
  have hW5 := mW 50000 (by have := hB.2.2.1.2; omega)
  have hgx := hg
  unfold gP at hgx
  have hctxB : ctxB T T1 x3 (gTr_day T) := ⟨hB, by rw [p3]; exact hpI, by rw [u3, hui2]; exact ui_int hB, hOb, by have := mlots.1; omega, rfl⟩
  have hBS : BS S T T1 x3 sm T1 0 X2 := by
    refine ⟨⟨hX2f, hRC2, hRl2, hRm2, hRb2.1, ?_⟩, ⟨⟨m1, m2, m3, rfl, rfl, by rw [m4], by rw [m4], by rw [m4]⟩, mpc, Int.le_refl _, mH, mE, fun i hi => ⟨fun _ => by rw [m4], fun z => by omega⟩⟩, hL1, rfl⟩
    rw [List.drop_zero]
    exact (RO_iff.mp hRb2).2
  have hz61 : zcn X2 61 = gOd_n (gTr_bu T) := zcn_o hRb2 hOb.1
  have hloop := buy_loop hctxB hp3 hu3 (f_X4_dueOn (gTr_bu T) (gTr_day T)) 0 (zcn X2 61 + 1) T1 X2 (by omega) (by omega) hBS
  have hokb : ∀ X : zMs, (∃ T' k', BS S T T1 x3 sm T' k' X) → okp_buy X ∧ ∃ T' k', BS S T T1 x3 sm T' k' (L_X8_buys S (0 + 1) X) := fun X ⟨T', k', h⟩ => ⟨BS_okp hctxB h, BS_one hctxB hp3 hu3 h⟩
  have hd2 : f_X4_dueOn (gTr_bu T) (gTr_day T) ≤ gOd_n (gTr_bu T) := xdue_le
  have hdb : f_X0_doBuyers x3 T1 (f_X4_dueOn (gTr_bu T) (gTr_day T)) = sTr_bu (L_X0_buy x3 (f_X4_dueOn (gTr_bu T) (gTr_day T)) (f_X4_dueOn (gTr_bu T) (gTr_day T) + 1) T1 0).1 (f_X4_dropEmpty (gTr_bu (L_X0_buy x3 (f_X4_dueOn (gTr_bu T) (gTr_day T)) (f_X4_dueOn (gTr_bu T) (gTr_day T) + 1) T1 0).1)) := rfl
  rw [hdb]
  generalize (L_X0_buy x3 (f_X4_dueOn (gTr_bu T) (gTr_day T)) (f_X4_dueOn (gTr_bu T) (gTr_day T) + 1) T1 0).1 = T2 at hloop ⊢
  generalize L_X8_buys S (zcn X2 61 + 1) X2 = X3 at hloop ⊢
  obtain ⟨⟨hX3f, hRC3, hRl3, hRm3, h61, hal⟩, hiw, hL3, hS3⟩ := hloop
  have hdrop := drop_buys hOb hiw hd2
  obtain ⟨⟨w1, w2, w3', w4, w5, -, -, -⟩, wpc, wW, wH, wE, -⟩ := hiw
  generalize f_X4_dropEmpty (gTr_bu T2) = ob at hdrop ⊢
  have hnb : gOd_n ob = gOd_n (gTr_bu T) - f_X4_dueOn (gTr_bu T) (gTr_day T) := by rw [← oL_len, hdrop, List.length_drop, oL_len]
  have hROb : RO 61 ob (gMs_at X3) := by
    refine RO_list h61 ?_
    rw [hal, hdrop]
  have hOb2 : iO 1000000 ob := by
    rw [iO_iff, hdrop]
    exact okL_drop (iO_iff.mp hOb) _
  have hpsb : pS ob 0 = pS (gTr_bu T) (f_X4_dueOn (gTr_bu T) (gTr_day T)) := by rw [pS_oL, hdrop, lT_drop _ hd2]
  have hpsb0 := pS_nn hOb2 0
  have hday2 : (gTr_day T2 + nI 1).toInt = (gTr_day T).toInt + 1 := by
    rw [w3']
    exact i32_add rfl rfl (by omega) (by omega)
  have hgW : ∀ W : Int, 5 * (gTr_quote T).toInt ≤ W → 5 * (gTr_cash T2).toInt + 5 * pS ob 0 + W * (gTr_lots T2).toInt ≤ gP W T := fun W hw => by
    have q1 := mW W hw
    unfold gP
    rw [w5, hpsb]
    omega
  generalize hA : vp_updL (vp_updL (vp_updL (vp_updL (vp_updL (gMs_at X3) 15 (f_X8_swing S).toInt64) 16 (f_X8_sumOf S 122 (gMs_at S 10) - vp_updL (gMs_at X3) 15 (f_X8_swing S).toInt64 13)) 11 (gDd_price x3)) 18 1) 10 (vp_updL (vp_updL (vp_updL (vp_updL (gMs_at X3) 15 (f_X8_swing S).toInt64) 16 (f_X8_sumOf S 122 (gMs_at S 10) - vp_updL (gMs_at X3) 15 (f_X8_swing S).toInt64 13)) 11 (gDd_price x3)) 18 1 10 + 1) = A
  have a10 : A 10 = gMs_at X3 10 + 1 := by rw [← hA]; rfl
  have a18 : A 18 = 1 := by rw [← hA]; rfl
  have a11 : A 11 = gDd_price x3 := by rw [← hA]; rfl
  have a16 : A 16 = gDd_wanted x2 - gMs_at X3 13 := by rw [← hA, ← hwant]; rfl
  have a15 : A 15 = (gDd_swung x2 + nI 2).toInt64 := by rw [← hA, ← hsw]; rfl
  have ao : ∀ i, i ≠ 10 → i ≠ 18 → i ≠ 11 → i ≠ 16 → i ≠ 15 → A i = gMs_at X3 i := fun i h1 h2 h3 h4 h5 => by
    rw [← hA, vp_updL_n _ _ h1, vp_updL_n _ _ h2, vp_updL_n _ _ h3, vp_updL_n _ _ h4, vp_updL_n _ _ h5]
  refine ⟨x3, sTr_day (sTr_bu T2 ob) (gTr_day T2 + nI 1), sm, rfl, hday2, ⟨?_, ?_, ?_, ?_⟩, ⟨⟨?_, ?_, ?_, ?_, wH⟩, hOb2, ?_, ?_, ?_, ?_, ?_⟩, hgW, w2, form_at hX3f A, hzC.1, hzC.2.1, hzC.2.2.1, hzC.2.2.2, ⟨fun X _ k => ∃ T', PS S T x3 sm T' X k, ⟨_, hPS⟩, hokp⟩, hzS1, ⟨fun X => ∃ T' k', BS S T T1 x3 sm T' k' X, ?_, hokb⟩⟩
  · obtain ⟨r1, r5, r6, r7, r8, r9, r10, rh⟩ := hRC3
    refine ⟨fun k hk => (ao k (by omega) (by omega) (by omega) (by omega) (by omega)).trans (r1 k hk), (ao 5 (by omega) (by omega) (by omega) (by omega) (by omega)).trans r5, (ao 6 (by omega) (by omega) (by omega) (by omega) (by omega)).trans r6, (ao 7 (by omega) (by omega) (by omega) (by omega) (by omega)).trans r7, (ao 8 (by omega) (by omega) (by omega) (by omega) (by omega)).trans r8, (ao 9 (by omega) (by omega) (by omega) (by omega) (by omega)).trans r9, ?_, fun j hj => ?_⟩
    · show A 10 = (gTr_day T2 + nI 1).toInt64
      rw [a10, r10]
      apply i64_eq_iff.mpr
      rw [i32_l, hday2]
      refine i64_add ((i32_l _).trans (by rw [w3'])) rfl (by omega) (by omega)
    · have q : ∀ i, 19 ≤ i → A i = gMs_at X3 i := fun i hi => ao i (by omega) (by omega) (by omega) (by omega) (by omega)
      obtain ⟨h0, h1, h2, h3, h4, h5, h6⟩ := rh j hj
      exact ⟨(q _ (by omega)).trans h0, (q _ (by omega)).trans h1, (q _ (by omega)).trans h2, (q _ (by omega)).trans h3, (q _ (by omega)).trans h4, (q _ (by omega)).trans h5, (q _ (by omega)).trans h6⟩
  · exact RO_ext hOb2.1 hROb (fun i h1 h2 => ao i (by omega) (by omega) (by omega) (by omega) (by omega))
  · exact RO_ext (by rw [w4]; exact mO.1) hRl3 (fun i h1 h2 => ao i (by omega) (by omega) (by omega) (by omega) (by omega))
  · show RLd (gTr_la T2) A
    obtain ⟨l1, l2, l3, l4⟩ := hL3
    refine ⟨by rw [a18, if_pos l1], by rw [a11, if_pos l1, l2], fun _ => ⟨(ao 12 (by omega) (by omega) (by omega) (by omega) (by omega)).trans hRm3.1, (ao 13 (by omega) (by omega) (by omega) (by omega) (by omega)).trans hRm3.2.1, (ao 14 (by omega) (by omega) (by omega) (by omega) (by omega)).trans hRm3.2.2.1, ?_, ?_, (ao 17 (by omega) (by omega) (by omega) (by omega) (by omega)).trans hRm3.2.2.2⟩⟩
    · rw [a15, l3, g3]
    · rw [a16, l4, w3, hRm3.2.1]
  · intro k hk
    show 0 ≤ (gTr_st T2 k).toInt ∧ _
    rw [w1]
    exact hB.1 k hk
  · show 0 ≤ (gTr_lots T2).toInt ∧ (gTr_lots T2).toInt ≤ 1000
    rw [w5]; exact mlots
  · show 1 ≤ (gTr_quote T2).toInt ∧ (gTr_quote T2).toInt ≤ 10000
    rw [w2]; exact hB.2.2.1
  · refine ⟨wpc.1, wpc.2, ?_⟩
    have q1 := hgW 50000 (by have := hB.2.2.1.2; omega)
    have q2 := mlots.1
    rw [w5] at q1
    show (gTr_cash T2).toInt ≤ 10000000000
    omega
  · show iO 1000000000 (gTr_le T2)
    rw [w4]; exact mO
  · exact wE
  · show 0 ≤ (gTr_day T2 + nI 1).toInt ∧ (gTr_day T2 + nI 1).toInt ≤ D + 1
    rw [hday2]; omega
  · show iY ((gTr_day T2 + nI 1).toInt + 1) ob
    rw [hday2]
    intro i hi
    have hm : trO ob i ∈ oL ob := oL_mem.mpr ⟨i, hi, rfl⟩
    rw [hdrop] at hm
    obtain ⟨j, hj, e⟩ := oL_mem.mp (List.mem_of_mem_drop hm)
    have h1 := hYb j hj
    have h2 : gOd_dy (gTr_bu T) j = gOd_dy ob i := congrArg (fun t => t.2.2) e
    rw [← h2]; omega
  · show iY ((gTr_day T2 + nI 1).toInt + 1) (gTr_le T2)
    rw [hday2, w4]
    exact iY_mono (mY _ hYl) (by omega)
  · exact ⟨T1, 0, hBS⟩
