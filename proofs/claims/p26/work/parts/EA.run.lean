/-! the end of a day in its parts -/
/-- what the paying begins with -/
noncomputable def runL (x : zDd) (T : zTr) : zTr := sTr_la T (f_X3_start (gTr_la T) (f_X0_takePrice x T))
noncomputable def runX (x : zDd) (T : zTr) : zDd := f_X0_shareOut (f_X0_takePrice x T) (gTr_le T) (f_X4_dueOn (gTr_le T) (gTr_day T))
noncomputable def runD (T : zTr) : Nat := f_X4_dueOn (gTr_le T) (gTr_day T)
noncomputable def runE (T : zTr) : Nat := f_X4_dueOn (gTr_bu T) (gTr_day T)
noncomputable def runP (x : zDd) (T : zTr) (k : Nat) : zTr × Bool := payS (runX x T) (runL x T) k
noncomputable def runF (x : zDd) (T : zTr) : zTr := sTr_le (runP x T (runD T)).1 (f_X4_dropEmpty (gTr_le (runP x T (runD T)).1))
noncomputable def runB (x : zDd) (T : zTr) (k : Nat) : zTr := buyS (runX x T) (runF x T) k
noncomputable def runR (x : zDd) (T : zTr) : zTr := sTr_day (sTr_bu (runB x T (runE T)) (f_X4_dropEmpty (gTr_bu (runB x T (runE T))))) (gTr_day (runB x T (runE T)) + nI 1)
theorem iLa_la {x : zDd} {a b : zLd} (h : iLa x a) (e1 : gLd_ended b = gLd_ended a) (e2 : gLd_price b = gLd_price a) (e3 : gLd_swung b = gLd_swung a) (e4 : gLd_still b = gLd_still a) (e5 : gLd_left b = gLd_left a) : iLa x b := by
  obtain ⟨h1, h2, h3, h4⟩ := h
  exact ⟨e1.trans h1, e2.trans h2, e3.trans h3, by rw [e4, e5]; exact h4⟩
theorem run_parts {D c : Int} {T : zTr} (h : GI D c T) (x : zDd) (hD1 : D + 1 ≤ 100000) :
    f_X0_run x T = (gTr_day (runR x T), runX x T, runR x T) ∧ dI (runR x T) = dI T + 1 ∧ GI (D + 1) c (runR x T) ∧ gLd_ended (gTr_la (runR x T)) = true ∧ (gDd_price (runX x T)).toInt = pI T ∧ (gDd_ui (runX x T)).toInt = iI T ∧ gDd_sh (runX x T) = gDd_sh (f_X0_shareOut (f_X0_takePrice x T) (gTr_le T) (runD T)) ∧
    (∃ (S0 : zMs) (sm : Nat → Int64), ctx T (runX x T) sm (runD T) ∧ (∀ k, k ≤ runD T → PI S0 T (runX x T) sm (20000 + 4 * qI T) (runP x T k).1 k) ∧ (∀ k, k ≤ runE T → (∃ X, BS S0 T (runF x T) (runX x T) sm (runB x T k) k X) ∧ XB T (runF x T) (runB x T k) k)) ∧ (0 ≤ uAll (runF x T)) ∧ iO 1000000 (gTr_bu T) ∧ iB T ∧ gTr_bu (runF x T) = gTr_bu T ∧ (∀ k, k ≤ runE T → cI (runB x T k) ≤ 10000000000) := by
  have hI := h.1
  have hgi := h
  obtain ⟨⟨c1, c2⟩, ⟨l1, l2⟩, ⟨q1, q2⟩, -, ⟨u1, u2⟩, -, ⟨p1, p2⟩, ⟨e1, e2⟩, ⟨d1, d2⟩, -⟩ := GI_r h
  obtain ⟨hB, hOb, hOl, hE, hdy, hYb, hYl⟩ := hI
  have hR : RTr T (gMs_at (sA (aOf T))) := GI_RTr h
  have hg := GI_hg h
  obtain ⟨hRC, hRb, hRl, hRd⟩ := hR
  have hH := hB.2.2.2.2
  have hpb := pS_nn hOb 0
  have htot := tot_le hOl hE
  have hall := hH.2
  have h10 : gMs_at (sA (aOf T)) 10 = (gTr_day T).toInt64 := hRC.2.2.2.2.2.2.1
  have hml := mayLeave_eq x hRC hRl hOl
  obtain ⟨hpI, -⟩ := price_int x hB hOb hOl
  obtain ⟨haI, hwI, ha0, ha1, ha2⟩ := allowed_int x hB hOl
  have hui2 : gDd_ui (f_X0_takePrice x T) = f_X6_unitIncome T := rfl
  obtain ⟨x', T', sm0, f1, f2, f3, f4, f5, f6, -, -⟩ := run_ok x h.1 (by omega) (by omega) (GI_RTr h)
  have form : f_X0_run x T = (gTr_day (f_X0_doBuyers (runX x T) (f_X0_payLeavers (runX x T) (runL x T) (runD T)) (f_X4_dueOn (gTr_bu (f_X0_payLeavers (runX x T) (runL x T) (runD T))) (gTr_day (f_X0_payLeavers (runX x T) (runL x T) (runD T))))) + nI 1, runX x T, sTr_day (f_X0_doBuyers (runX x T) (f_X0_payLeavers (runX x T) (runL x T) (runD T)) (f_X4_dueOn (gTr_bu (f_X0_payLeavers (runX x T) (runL x T) (runD T))) (gTr_day (f_X0_payLeavers (runX x T) (runL x T) (runD T))))) (gTr_day (f_X0_doBuyers (runX x T) (f_X0_payLeavers (runX x T) (runL x T) (runD T)) (f_X4_dueOn (gTr_bu (f_X0_payLeavers (runX x T) (runL x T) (runD T))) (gTr_day (f_X0_payLeavers (runX x T) (runL x T) (runD T))))) + nI 1)) := by
    unfold f_X0_run
    rw [zsl_e]
    rfl
  have hpay : f_X0_payLeavers (runX x T) (runL x T) (runD T) = runF x T := by
    have e := pay_it (runX x T) (runL x T) (runD T) (runD T) 0 (by omega)
    show sTr_le (L_X0_pay (runX x T) (runD T) (runD T - 0 + 1) (runL x T) true 0).1 (f_X4_dropEmpty (gTr_le (L_X0_pay (runX x T) (runD T) (runD T - 0 + 1) (runL x T) true 0).1)) = _
    rw [show runD T - 0 + 1 = runD T + 1 by omega]
    have e' : (L_X0_pay (runX x T) (runD T) (runD T + 1) (runL x T) true 0).1 = (runP x T (runD T)).1 := e
    rw [e']
    rfl
  rw [hpay] at form
  -- what is taken of the day
  have hsm := share_eq (x := f_X0_takePrice x T) (day := gTr_day T) hRl h10 hOl (by omega) (by rw [haI]; exact ha0)
  obtain ⟨sm, sc, s1, s2, s3, s4⟩ := hsm
  have hrX : runX x T = sDd_sh (f_X0_takePrice x T) sc := s2
  have p3 : gDd_price (runX x T) = gDd_price (f_X0_takePrice x T) := by rw [hrX]
  have u3 : gDd_ui (runX x T) = gDd_ui (f_X0_takePrice x T) := by rw [hrX]
  have w3 : gDd_wanted (runX x T) = gDd_wanted (f_X0_takePrice x T) := by rw [hrX]
  have g3 : gDd_swung (runX x T) = gDd_swung (f_X0_takePrice x T) := by rw [hrX]
  have h3 : gDd_sh (runX x T) = sc := by rw [hrX]
  have hctx : ctx T (runX x T) sm (runD T) := by
    refine ⟨hB, hOl, by rw [p3]; exact hpI, xdue_le, ?_, by rw [h3]; exact s3, s4, hOb⟩
    unfold gP at hg
    omega
  have hPS : PS (f_X8_clear (f_X8_shareOut (sA (aOf T)) (f_X8_mayLeave (sA (aOf T))))) T (runX x T) sm (runL x T) (f_X8_clear (f_X8_shareOut (sA (aOf T)) (f_X8_mayLeave (sA (aOf T))))) 0 := by
    have hclr : f_X8_clear (f_X8_shareOut (sA (aOf T)) (f_X8_mayLeave (sA (aOf T)))) = sMs_sh (sMs_at (f_X8_clear (f_X8_shareOut (sA (aOf T)) (f_X8_mayLeave (sA (aOf T))))) (gMs_at (f_X8_clear (f_X8_shareOut (sA (aOf T)) (f_X8_mayLeave (sA (aOf T))))))) sm := by
      rw [hml, s1]; rfl
    have hclrA : ∀ i, (i < 12 ∨ 18 ≤ i) → gMs_at (f_X8_clear (f_X8_shareOut (sA (aOf T)) (f_X8_mayLeave (sA (aOf T))))) i = gMs_at (sA (aOf T)) i := fun i hi => by
      rw [hml, s1]
      show vp_updL (vp_updL (vp_updL (vp_updL (vp_updL (vp_updL (gMs_at (sA (aOf T))) 12 0) 13 0) 14 0) 15 0) 16 0) 17 0 i = _
      rw [vp_updL_n _ _ (by omega), vp_updL_n _ _ (by omega), vp_updL_n _ _ (by omega), vp_updL_n _ _ (by omega), vp_updL_n _ _ (by omega), vp_updL_n _ _ (by omega)]
    have hclr0 : gMs_at (f_X8_clear (f_X8_shareOut (sA (aOf T)) (f_X8_mayLeave (sA (aOf T))))) 12 = 0 ∧ gMs_at (f_X8_clear (f_X8_shareOut (sA (aOf T)) (f_X8_mayLeave (sA (aOf T))))) 13 = 0 ∧ gMs_at (f_X8_clear (f_X8_shareOut (sA (aOf T)) (f_X8_mayLeave (sA (aOf T))))) 14 = 0 ∧ gMs_at (f_X8_clear (f_X8_shareOut (sA (aOf T)) (f_X8_mayLeave (sA (aOf T))))) 17 = 0 := by
      rw [hml, s1]
      exact ⟨rfl, rfl, rfl, rfl⟩
    generalize f_X8_clear (f_X8_shareOut (sA (aOf T)) (f_X8_mayLeave (sA (aOf T)))) = S1 at hclr hclrA hclr0 ⊢
    refine ⟨⟨hclr, RC_ext hRC (fun i hi => hclrA i (by omega)), RO_ext hOb.1 hRb (fun i h1 h2 => hclrA i (by omega)), RO_ext hOl.1 hRl (fun i h1 h2 => hclrA i (by omega)), hclr0⟩, ?_, ?_, ?_⟩
    · refine ⟨⟨rfl, rfl, rfl, rfl, rfl, rfl, rfl⟩, hB.2.1, ⟨hB.2.2.2.1.1, hB.2.2.2.1.2.1⟩, fun W hW => Int.le_refl _, hH, Int.le_refl _, hE, fun i hi => ⟨fun _ => rfl, ?_, Int.le_refl _⟩⟩
      have := (hOl.2.1 i hi).2.1
      show 0 ≤ (gOd_sz (gTr_le T) i).toInt
      omega
    · refine ⟨rfl, p3.symm, g3.symm, ?_⟩
      show gDd_wanted (f_X0_takePrice x T) = gDd_wanted (runX x T) - 0
      rw [w3, Int64.sub_zero]
    · show (0 : Int) = (gTr_lots T).toInt - (gTr_lots T).toInt
      omega
  generalize f_X8_clear (f_X8_shareOut (sA (aOf T)) (f_X8_mayLeave (sA (aOf T)))) = S0 at hPS
  obtain ⟨-, ⟨x1, x2, x3, x4, x5⟩, hDb, hc0, hc⟩ := h
  have hpa0 : 0 ≤ isum (paI T) 6 := isum_nn 6 (fun j hj => (x1 j hj).2.1)
  have hin0 : 0 ≤ isum (inI T) 6 := isum_nn 6 (fun j hj => (x1 j hj).2.2.1)
  have hbo0 : 0 ≤ isum (boI T) 6 := isum_nn 6 (fun j hj => (x1 j hj).1)
  have hPhi : pPhi T = 5 * cI T + 5 * pS (gTr_bu T) 0 + (20000 + 4 * qI T) * lI T + 2000 * (10000 - qI T) := rfl
  have hw0 : wP (20000 + 4 * qI T) T ≤ 400000000000 := by
    unfold wP
    omega
  have hXP : XP T (runL x T) := by
    refine ⟨fun j hj => ?_, ⟨e1, Int.le_refl _, by omega⟩, rfl, rfl, Int.le_refl _, ?_, ?_⟩
    · obtain ⟨y1, y2, y3, y4, y5, y6, y7⟩ := x1 j hj
      have := isum_ge (f := paI T) 6 j hj (fun i hi => (x1 i hi).2.1)
      have hWl : 0 ≤ (20000 + 4 * qI T) * lI T := Int.mul_nonneg (by omega) l1
      exact ⟨rfl, rfl, rfl, rfl, y2, by show paI T j ≤ _; omega⟩
    · show 0 + uAll T = uAll T
      omega
    · show (0 : Int) = lI T - lI T
      omega
  have hPI := payS_inv (W := 20000 + 4 * qI T) hctx ⟨l1, l2⟩ (by omega) hw0 ⟨⟨_, hPS⟩, hXP, Int.le_refl _⟩
  -- behind the paying
  obtain ⟨hR1, hM1, hL1, hD1'⟩ := pay_all hctx hPS
  rw [hpay] at hR1 hM1 hL1 hD1'
  obtain ⟨hX2f, hRC2, hRb2, hRl2, hRm2⟩ := hR1
  obtain ⟨⟨m1, m2, m3, m4⟩, mlots, mpc, mW, mH, mE, mO, mY⟩ := hM1
  rw [m3, m4] at form
  rw [m4] at hRb2
  have hW5 := mW 50000 (by show 5 * qI T ≤ _; omega)
  have hgx := hg
  unfold gP at hgx
  have hctxB : ctxB T (runF x T) (runX x T) (gTr_day T) := ⟨hB, by rw [p3]; exact hpI, by rw [u3, hui2]; exact ui_int hB, hOb, by have := mlots.1; omega, rfl⟩
  generalize f_X8_payThem _ (gDd_price (runX x T)) (gDd_ui (runX x T)) = X2 at hX2f hRC2 hRb2 hRl2 hRm2
  have hBS : BS S0 T (runF x T) (runX x T) sm (runF x T) 0 X2 := by
    refine ⟨⟨hX2f, hRC2, hRl2, hRm2, hRb2.1, ?_⟩, ⟨⟨m1, m2, m3, rfl, rfl, by rw [m4], by rw [m4], by rw [m4]⟩, mpc, Int.le_refl _, mH, mE, fun i hi => ⟨fun _ => by rw [m4], fun z => by omega⟩⟩, hL1, rfl⟩
    rw [List.drop_zero]
    exact (RO_iff.mp hRb2).2
  -- the numbers behind the paying
  obtain ⟨-, hXf, hwf⟩ := hPI (runD T) (Nat.le_refl _)
  have hFh : gTr_hd (runF x T) = gTr_hd (runP x T (runD T)).1 := rfl
  have hFsame : ∀ j, j < 6 → boI (runF x T) j = boI T j ∧ inI (runF x T) j = inI T j ∧ eeI (runF x T) j = eeI T j ∧ loI (runF x T) j = loI T j ∧ 0 ≤ paI (runF x T) j := fun j hj => by
    obtain ⟨y1, y2, y3, y4, y5, y6⟩ := hXf.1 j hj
    exact ⟨y1, y2, y3, y4, y5⟩
  have hFbo : isum (boI (runF x T)) 6 = isum (boI T) 6 := isum_congr 6 (fun j hj => (hFsame j hj).1)
  have hFev : 0 ≤ evI (runF x T) ∧ evI (runF x T) ≤ evI T := ⟨hXf.2.1.1, hXf.2.1.2.1⟩
  have hFu : 0 ≤ uAll (runF x T) := uAll_nn mH
  have hXB0 : XB T (runF x T) (runF x T) 0 := by
    refine ⟨fun j hj => ?_, Int.le_refl _, ⟨hFev.1, by omega, Int.le_refl _⟩, rfl, rfl, ?_, ?_, ?_, ?_⟩
    · obtain ⟨y1, y2, y3, y4, y5⟩ := hFsame j hj
      have := isum_ge (f := boI T) 6 j hj (fun i hi => (x1 i hi).1)
      exact ⟨rfl, rfl, rfl, rfl, by rw [y1]; exact (x1 j hj).1, by rw [y1]; omega⟩
    · have : mdI (runF x T) = 0 := hXf.2.2.1
      omega
    · have : mdI (runF x T) = 0 := hXf.2.2.1
      omega
    · have : bkI (runF x T) = 0 := hXf.2.2.2.1
      omega
    · have : bkI (runF x T) = 0 := hXf.2.2.2.1
      omega
  have hdE : runE T ≤ gOd_n (gTr_bu T) := xdue_le
  have hcb : ∀ k, k ≤ runE T → iW T (runF x T) (runB x T k) k → cI (runB x T k) ≤ 10000000000 := fun k hk hw => by
    have q1 := hw.2.2.1
    have q2 := pS_nn hOb k
    have q3 := hctxB.2.2.2.2.1
    show (gTr_cash (runB x T k)).toInt ≤ _
    omega
  have hXB : ∀ k, k ≤ runE T → (∃ X, BS S0 T (runF x T) (runX x T) sm (runB x T k) k X) ∧ XB T (runF x T) (runB x T k) k := by
    intro k
    induction k with
    | zero => intro _; exact ⟨⟨X2, hBS⟩, hXB0⟩
    | succ k ih =>
      intro hk
      obtain ⟨⟨X, hb⟩, hx⟩ := ih (by omega)
      refine ⟨?_, XB_next hB (by rw [p3]; exact hpI) (by rw [u3, hui2]; exact ui_int hB) hOb (by omega) hb.2.1 hx (hcb k (by omega) hb.2.1) hFu (by rw [hFbo]; omega) (by rw [hFbo]; omega) rfl⟩
      exact ⟨_, (BS_step hctxB hb (by omega)).1⟩
  have hbuy : f_X0_doBuyers (runX x T) (runF x T) (f_X4_dueOn (gTr_bu T) (gTr_day T)) = sTr_bu (runB x T (runE T)) (f_X4_dropEmpty (gTr_bu (runB x T (runE T)))) := by
    have e := buy_it (runX x T) (runF x T) (runE T) (runE T) 0 (by omega)
    show sTr_bu (L_X0_buy (runX x T) (runE T) (runE T - 0 + 1) (runF x T) 0).1 (f_X4_dropEmpty (gTr_bu (L_X0_buy (runX x T) (runE T) (runE T - 0 + 1) (runF x T) 0).1)) = _
    rw [show runE T - 0 + 1 = runE T + 1 by omega]
    have e' : (L_X0_buy (runX x T) (runE T) (runE T + 1) (runF x T) 0).1 = runB x T (runE T) := e
    rw [e']
  rw [hbuy] at form
  have hform : f_X0_run x T = (gTr_day (runR x T), runX x T, runR x T) := form
  have eT' : T' = runR x T := by
    have := f1.symm.trans hform
    exact (Prod.mk.inj (Prod.mk.inj this).2).2
  rw [eT'] at f2 f4 f5 f6
  obtain ⟨⟨X3, hb3⟩, hx3⟩ := hXB (runE T) (Nat.le_refl _)
  have hended : gLd_ended (gTr_la (runR x T)) = true := hb3.2.2.1.1
  have hdrop := drop_buys hOb hb3.2.1 hdE
  obtain ⟨y1, y2, ⟨y3, y4, y5⟩, y6, y7, y8, y9, y10, y11⟩ := hx3
  have hbR : gTr_bu (runR x T) = f_X4_dropEmpty (gTr_bu (runB x T (runE T))) := rfl
  have hpsR : pS (gTr_bu (runR x T)) 0 = pS (gTr_bu T) (runE T) := by rw [hbR, pS_oL, hdrop, lT_drop _ hdE]
  have hpsE := pS_nn hOb (runE T)
  refine ⟨hform, f2, ⟨f4, ⟨fun j hj => ?_, ⟨y3, ?_⟩, ?_, ?_, fun i hi => ?_, fun i hi => ?_⟩, hD1, hc0, hc⟩, hended, by rw [p3]; exact hpI, by rw [u3, hui2]; exact ui_int hB, rfl, ⟨S0, sm, hctx, hPI, hXB⟩, hFu, hOb, hB, m4, fun k hk => hcb k hk (hXB k hk).1.choose_spec.2.1⟩
  · obtain ⟨z1, z2, z3, z4, z5, z6⟩ := y1 j hj
    obtain ⟨w1, w2, w3', w4, w5⟩ := hFsame j hj
    obtain ⟨v1, v2, v3, v4, v5, v6, v7⟩ := x1 j hj
    show 0 ≤ boI (runB x T (runE T)) j ∧ 0 ≤ paI (runB x T (runE T)) j ∧ 0 ≤ inI (runB x T (runE T)) j ∧ 0 ≤ eeI (runB x T (runE T)) j ∧ eeI (runB x T (runE T)) j ≤ inI (runB x T (runE T)) j ∧ 0 ≤ loI (runB x T (runE T)) j ∧ loI (runB x T (runE T)) j ≤ 1000 * c
    rw [z1, z2, z3, z4, w2, w3', w4]
    exact ⟨z5, w5, v3, v4, v5, v6, v7⟩
  · show evI (runB x T (runE T)) ≤ 4 * isum (boI (runB x T (runE T))) 6
    omega
  · show isum (boI (runB x T (runE T))) 6 + pS (gTr_bu (runR x T)) 0 ≤ _
    rw [hpsR]
    omega
  · have hpaS : isum (paI (runR x T)) 6 = isum (paI (runF x T)) 6 := isum_congr 6 (fun j hj => (y1 j hj).1)
    have hinS : isum (inI (runR x T)) 6 = isum (inI T) 6 := isum_congr 6 (fun j hj => ((y1 j hj).2.1).trans (hFsame j hj).2.1)
    have hphR : pPhi (runR x T) = 5 * cI (runB x T (runE T)) + 5 * pS (gTr_bu (runR x T)) 0 + (20000 + 4 * (gTr_quote (runR x T)).toInt) * lI (runB x T (runE T)) + 2000 * (10000 - (gTr_quote (runR x T)).toInt) := rfl
    have hqq : (gTr_quote (runR x T)).toInt = qI T := by rw [f6]; rfl
    have hlB : lI (runB x T (runE T)) = lI (runF x T) := by
      unfold lI
      rw [hb3.2.1.1.2.2.2.2.1]
    have hcW := hb3.2.1.2.2.1
    have hcW' : cI (runB x T (runE T)) + pS (gTr_bu T) (runE T) ≤ cI (runF x T) + pS (gTr_bu T) 0 := hcW
    have hwF : 5 * cI (runF x T) + (20000 + 4 * qI T) * lI (runF x T) + 5 * isum (paI (runF x T)) 6 ≤ 5 * cI T + (20000 + 4 * qI T) * lI T + 5 * isum (paI T) 6 := hwf
    rw [hphR, hpaS, hinS, hqq, hlB, hpsR]
    omega
  · -- days of those that wait
    have hm : trO (gTr_bu (runR x T)) i ∈ oL (gTr_bu (runR x T)) := oL_mem.mpr ⟨i, hi, rfl⟩
    rw [hbR, hdrop] at hm
    obtain ⟨n, hn, en⟩ := List.mem_iff_getElem.mp hm
    rw [List.length_drop, oL_len] at hn
    rw [List.getElem_drop, oL_get] at en
    have e2 : gOd_dy (gTr_bu T) (runE T + n) = gOd_dy (gTr_bu (runR x T)) i := congrArg (fun t => t.2.2) en
    have hlt := due_later hOb.2.2 (show f_X4_dueOn (gTr_bu T) (gTr_day T) ≤ runE T + n from Nat.le_add_right _ _) (by omega)
    rw [i32_lt_iff] at hlt
    show dI (runR x T) ≤ (gOd_dy (gTr_bu (runR x T)) i).toInt
    rw [← e2]
    have f2' : dI (runR x T) = dI T + 1 := f2
    have : dI T = (gTr_day T).toInt := rfl
    omega
  · have hle : gTr_le (runR x T) = gTr_le (runF x T) := hb3.2.1.1.2.2.2.1
    rw [hle] at hi ⊢
    have hle2 : gTr_le (runF x T) = f_X4_dropEmpty (gTr_le (runP x T (runD T)).1) := rfl
    have hm : trO (gTr_le (runF x T)) i ∈ oL (gTr_le (runF x T)) := oL_mem.mpr ⟨i, hi, rfl⟩
    rw [hle2, drop_oL] at hm
    obtain ⟨n, hn, en⟩ := oL_mem.mp (List.mem_filter.mp hm).1
    obtain ⟨⟨X, hps⟩, -, -⟩ := hPI (runD T) (Nat.le_refl _)
    have hq := hps.2.1.1
    have e2 : gOd_dy (gTr_le (runP x T (runD T)).1) n = gOd_dy (gTr_le (runF x T)) i := congrArg (fun t => t.2.2) en
    have e3 : gOd_dy (gTr_le (runP x T (runD T)).1) = gOd_dy (gTr_le T) := hq.2.2.2.2.2.2
    have e4 : gOd_n (gTr_le (runP x T (runD T)).1) = gOd_n (gTr_le T) := hq.2.2.2.2.1
    show 0 ≤ (gOd_dy (gTr_le (runF x T)) i).toInt
    rw [← e2, e3]
    exact x5.2 n (by omega)
