/-! what is alike prints alike. Written by wip/p26/law11.py -/
theorem TE_ord {o q : zOd} (h : gOd_n o = gOd_n q ∧ oL o = oL q) {i : Nat} (hi : i < gOd_n q) : oH o i = oH q i ∧ oS o i = oS q i ∧ oD o i = oD q i := by
  have h2 := h.2
  unfold oL at h2
  rw [h.1] at h2
  have e : trO o i = trO q i := map_range_inj h2 i hi
  have e1 : gOd_ho o i = gOd_ho q i := congrArg (fun t => t.1) e
  have e2 : gOd_sz o i = gOd_sz q i := congrArg (fun t => t.2.1) e
  have e3 : gOd_dy o i = gOd_dy q i := congrArg (fun t => t.2.2) e
  unfold oH oS oD
  rw [e1, e2, e3]
  exact ⟨rfl, rfl, rfl⟩
theorem TE_pI {D c D' c' : Int} {T U : zTr} (h : TE T U) (hT : GI D c T) (hU : GI D' c' U) : pI T = pI U := by
  have x : zDd := (0, 0, 0, 0, 0, 0, fun _ => 0)
  have hR : RTr U (gMs_at (sA (aOf U))) := GI_RTr hU
  have hR2 : RTr T (gMs_at (sA (aOf U))) := TE_RTr h hR
  have p1 := price_int (T := U) x hU.1.1 hU.1.2.1 hU.1.2.2.1
  have p2 := price_int (T := T) x hT.1.1 hT.1.2.1 hT.1.2.2.1
  have q1 := priceNow_eq x hR.1 hR.2.1 hR.2.2.1 hU.1.1 hU.1.2.1 hU.1.2.2.1
  have q2 := priceNow_eq x hR2.1 hR2.2.1 hR2.2.2.1 hT.1.1 hT.1.2.1 hT.1.2.2.1
  rw [← p1.1, ← p2.1, ← q1, ← q2]
theorem TE_v {T U : zTr} (h : TE T U) : cI T = cI U ∧ lI T = lI U ∧ qI T = qI U ∧ vI T = vI U ∧ uAll T = uAll U ∧ uNew T = uNew U ∧ poI T = poI U ∧ evI T = evI U ∧ dI T = dI U ∧ gOd_n (gTr_bu T) = gOd_n (gTr_bu U) ∧ gOd_n (gTr_le T) = gOd_n (gTr_le U) ∧ sS (gTr_le T) 0 (gOd_n (gTr_le T)) = sS (gTr_le U) 0 (gOd_n (gTr_le U)) ∧ (∀ k, k < 5 → sI T k = sI U k) ∧ mI T = mI U ∧ iI T = iI U ∧ lpI T = lpI U ∧ ∀ i, i < 6 → uU T i = uU U i ∧ uO T i = uO U i ∧ uN T i = uN U i ∧ hS (gTr_le T) i = hS (gTr_le U) i ∧ boI T i = boI U i ∧ paI T i = paI U i ∧ inI T i = inI U i ∧ eeI T i = eeI U i ∧ loI T i = loI U i := by
  have hu := fun i hi => TE_uU h (i := i) hi
  obtain ⟨e1, e2, e3, e4, e5, e6, es, eh, eb, el, ea⟩ := h
  have ua : uAll T = uAll U := isum_congr 6 (fun i hi => (hu i hi).2.2)
  have un : uNew T = uNew U := isum_congr 6 (fun i hi => (hu i hi).2.1)
  have va : vI T = vI U := by unfold vI; rw [e1, e4, e5]
  refine ⟨by unfold cI; rw [e1], by unfold lI; rw [e4], by unfold qI; rw [e5], va, ua, un, by unfold poI; rw [e2], by unfold evI; rw [e3], by unfold dI; rw [e6], eb.1, el.1, ?_, fun k hk => by unfold sI; rw [es k hk], by unfold mI; rw [ua, va], by unfold iI; rw [ua, e2], by unfold lpI; rw [ea], fun i hi => ?_⟩
  · have : pS (gTr_le T) 0 = pS (gTr_le U) 0 := by rw [pS_oL, pS_oL, el.2]
    exact this
  · obtain ⟨u1, u2, u3⟩ := hu i hi
    refine ⟨u3, u1, u2, by rw [hS_lS, el.2, ← hS_lS], ?_⟩
    unfold boI paI inI eeI loI
    rw [eh i hi]
    exact ⟨rfl, rfl, rfl, rfl, rfl⟩
theorem TE_holder {D c D' c' : Int} {T U : zTr} (h : TE T U) (hT : GI D c T) (hU : GI D' c' U) {k w : Nat} (hk : k < 6) (hw : w < 9) : f_X7_ofHolder T (jI (k : Int)) (jI (w : Int)) = f_X7_ofHolder U (jI (k : Int)) (jI (w : Int)) := by
  obtain ⟨-, -, -, -, -, -, -, -, -, -, -, -, -, -, -, -, hh⟩ := TE_v h
  obtain ⟨g0, g1, g2, g3, g4, g5, g6, g7, g8⟩ := hh k hk
  rcases (show w = 0 ∨ w = 1 ∨ w = 2 ∨ w = 3 ∨ w = 4 ∨ w = 5 ∨ w = 6 ∨ w = 7 ∨ w = 8 by omega) with rfl | rfl | rfl | rfl | rfl | rfl | rfl | rfl | rfl
  · exact (vh_0 hT hk).trans ((congrArg jI g0).trans (vh_0 hU hk).symm)
  · exact (vh_1 hT hk).trans ((congrArg jI g1).trans (vh_1 hU hk).symm)
  · exact (vh_2 hT hk).trans ((congrArg jI g2).trans (vh_2 hU hk).symm)
  · exact (vh_3 hT hk).trans ((congrArg jI g3).trans (vh_3 hU hk).symm)
  · exact (vh_4 hT hk).trans ((congrArg jI g4).trans (vh_4 hU hk).symm)
  · exact (vh_5 hT hk).trans ((congrArg jI g5).trans (vh_5 hU hk).symm)
  · exact (vh_6 hT hk).trans ((congrArg jI g6).trans (vh_6 hU hk).symm)
  · exact (vh_7 hT hk).trans ((congrArg jI g7).trans (vh_7 hU hk).symm)
  · exact (vh_8 hT hk).trans ((congrArg jI g8).trans (vh_8 hU hk).symm)
theorem TE_order {D c D' c' : Int} {T U : zTr} (h : TE T U) (hT : GI D c T) (hU : GI D' c' U) {kd n w : Nat} (hn : kd = 0 ∧ n < gOd_n (gTr_bu U) ∨ kd = 1 ∧ n < gOd_n (gTr_le U)) (hw : w < 3) : f_X7_order T (jI (kd : Int)) (jI (n : Int)) (jI (w : Int)) = f_X7_order U (jI (kd : Int)) (jI (n : Int)) (jI (w : Int)) := by
  have hb := h.2.2.2.2.2.2.2.2.1
  have hl := h.2.2.2.2.2.2.2.2.2.1
  rcases hn with ⟨rfl, hn⟩ | ⟨rfl, hn⟩
  · obtain ⟨g0, g1, g2⟩ := TE_ord hb hn
    have hn2 : n < gOd_n (gTr_bu T) := by rw [hb.1]; exact hn
    rcases (show w = 0 ∨ w = 1 ∨ w = 2 by omega) with rfl | rfl | rfl
    · exact (vo_00 hT hn2).trans ((congrArg jI g0).trans (vo_00 hU hn).symm)
    · exact (vo_01 hT hn2).trans ((congrArg jI g1).trans (vo_01 hU hn).symm)
    · exact (vo_02 hT hn2).trans ((congrArg jI g2).trans (vo_02 hU hn).symm)
  · obtain ⟨g0, g1, g2⟩ := TE_ord hl hn
    have hn2 : n < gOd_n (gTr_le T) := by rw [hl.1]; exact hn
    rcases (show w = 0 ∨ w = 1 ∨ w = 2 by omega) with rfl | rfl | rfl
    · exact (vo_10 hT hn2).trans ((congrArg jI g0).trans (vo_10 hU hn).symm)
    · exact (vo_11 hT hn2).trans ((congrArg jI g1).trans (vo_11 hU hn).symm)
    · exact (vo_12 hT hn2).trans ((congrArg jI g2).trans (vo_12 hU hn).symm)
theorem TE_cnt {D c D' c' : Int} {T U : zTr} (h : TE T U) (hT : GI D c T) (hU : GI D' c' U) {k : Nat} (hk : k < 17) : cntV T k = cntV U k := by
  obtain ⟨v0, v1, v2, v3, v4, v5, v6, v7, v8, v9, v10, v11, vs, -⟩ := TE_v h
  unfold cntV
  rcases (show k = 0 ∨ k = 1 ∨ k = 2 ∨ k = 3 ∨ k = 4 ∨ k = 5 ∨ k = 6 ∨ k = 7 ∨ k = 8 ∨ k = 9 ∨ k = 10 ∨ k = 11 ∨ k = 12 ∨ k = 13 ∨ k = 14 ∨ k = 15 ∨ k = 16 by omega) with rfl | rfl | rfl | rfl | rfl | rfl | rfl | rfl | rfl | rfl | rfl | rfl | rfl | rfl | rfl | rfl | rfl
  · exact (vc_0 hT _ _).trans ((congrArg jI v0).trans (vc_0 hU _ _).symm)
  · exact (vc_1 hT _ _).trans ((congrArg jI v1).trans (vc_1 hU _ _).symm)
  · exact (vc_2 hT _ _).trans ((congrArg jI v2).trans (vc_2 hU _ _).symm)
  · exact (vc_3 hT _ _).trans ((congrArg jI v3).trans (vc_3 hU _ _).symm)
  · exact (vc_4 hT _ _).trans ((congrArg jI v4).trans (vc_4 hU _ _).symm)
  · exact (vc_5 hT _ _).trans ((congrArg jI v5).trans (vc_5 hU _ _).symm)
  · exact (vc_6 hT _ _).trans ((congrArg jI v6).trans (vc_6 hU _ _).symm)
  · exact (vc_7 hT _ _).trans ((congrArg jI v7).trans (vc_7 hU _ _).symm)
  · exact (vc_8 hT _ _).trans ((congrArg jI v8).trans (vc_8 hU _ _).symm)
  · exact (vc_9 hT _ _).trans ((congrArg (fun (n : Nat) => jI (n : Int)) v9).trans (vc_9 hU _ _).symm)
  · exact (vc_10 hT _ _).trans ((congrArg (fun (n : Nat) => jI (n : Int)) v10).trans (vc_10 hU _ _).symm)
  · exact (vc_11 hT _ _).trans ((congrArg jI v11).trans (vc_11 hU _ _).symm)
  · exact (vc_12 hT _ _).trans ((congrArg jI (vs 0 (by decide))).trans (vc_12 hU _ _).symm)
  · exact (vc_13 hT _ _).trans ((congrArg jI (vs 1 (by decide))).trans (vc_13 hU _ _).symm)
  · exact (vc_14 hT _ _).trans ((congrArg jI (vs 2 (by decide))).trans (vc_14 hU _ _).symm)
  · exact (vc_15 hT _ _).trans ((congrArg jI (vs 3 (by decide))).trans (vc_15 hU _ _).symm)
  · exact (vc_16 hT _ _).trans ((congrArg jI (vs 4 (by decide))).trans (vc_16 hU _ _).symm)
theorem TE_last {T U : zTr} (h : TE T U) (w : Int32) : f_X7_lastDay T w = f_X7_lastDay U w := by
  have e : gTr_la T = gTr_la U := h.2.2.2.2.2.2.2.2.2.2
  unfold f_X7_lastDay
  rw [e]
theorem TE_pri {D c D' c' : Int} {T U : zTr} (h : TE T U) (hT : GI D c T) (hU : GI D' c' U) {k : Nat} (hk : k < 4) : priV T k = priV U k := by
  obtain ⟨-, -, -, -, -, -, -, -, -, -, -, -, -, vm, vi, vl, -⟩ := TE_v h
  have vp := TE_pI h hT hU
  unfold priV
  rcases (show k = 0 ∨ k = 1 ∨ k = 2 ∨ k = 3 by omega) with rfl | rfl | rfl | rfl
  · exact Eq.trans (vp_0 hT (x := (0, 0, 0, 0, 0, 0, fun _ => 0)) (x' := (f_X7_price T (0, 0, 0, 0, 0, 0, fun _ => 0) (jI 0)).2) rfl) ((congrArg jL vm).trans (Eq.symm (vp_0 hU (x := (0, 0, 0, 0, 0, 0, fun _ => 0)) (x' := (f_X7_price U (0, 0, 0, 0, 0, 0, fun _ => 0) (jI 0)).2) rfl)))
  · exact Eq.trans (vp_1 hT (x := (0, 0, 0, 0, 0, 0, fun _ => 0)) (x' := (f_X7_price T (0, 0, 0, 0, 0, 0, fun _ => 0) (jI 1)).2) rfl) ((congrArg jL vp).trans (Eq.symm (vp_1 hU (x := (0, 0, 0, 0, 0, 0, fun _ => 0)) (x' := (f_X7_price U (0, 0, 0, 0, 0, 0, fun _ => 0) (jI 1)).2) rfl)))
  · exact Eq.trans (vp_2 hT (x := (0, 0, 0, 0, 0, 0, fun _ => 0)) (x' := (f_X7_price T (0, 0, 0, 0, 0, 0, fun _ => 0) (jI 2)).2) rfl) ((congrArg jL vl).trans (Eq.symm (vp_2 hU (x := (0, 0, 0, 0, 0, 0, fun _ => 0)) (x' := (f_X7_price U (0, 0, 0, 0, 0, 0, fun _ => 0) (jI 2)).2) rfl)))
  · exact Eq.trans (vp_3 hT (x := (0, 0, 0, 0, 0, 0, fun _ => 0)) (x' := (f_X7_price T (0, 0, 0, 0, 0, 0, fun _ => 0) (jI 3)).2) rfl) ((congrArg jL vi).trans (Eq.symm (vp_3 hU (x := (0, 0, 0, 0, 0, 0, fun _ => 0)) (x' := (f_X7_price U (0, 0, 0, 0, 0, 0, fun _ => 0) (jI 3)).2) rfl)))
theorem TE_prt {D c D' c' : Int} {T U : zTr} (h : TE T U) (hT : GI D c T) (hU : GI D' c' U) : prt T = prt U := by
  have hb := h.2.2.2.2.2.2.2.2.1.1
  have hl := h.2.2.2.2.2.2.2.2.2.1.1
  have e2 : pr2 T = pr2 U := zfold_congr 6 7 (fun i hi q => zfold_congr 9 q (fun w hw v => by unfold prA; rw [TE_holder h hT hU hi hw]))
  have e3 : pr3 T = pr3 U := by
    unfold pr3
    rw [e2, hb, hl, zfold_congr (gOd_n (gTr_bu U)) (f := prD T 0) (g := prD U 0) _ (fun i hi q => zfold_congr 3 q (fun w hw v => by unfold prC; rw [TE_order h hT hU (Or.inl ⟨rfl, hi⟩) hw])), zfold_congr (gOd_n (gTr_le U)) (f := prD T 1) (g := prD U 1) _ (fun i hi q => zfold_congr 3 q (fun w hw v => by unfold prC; rw [TE_order h hT hU (Or.inr ⟨rfl, hi⟩) hw]))]
  have e4 : pr4 T = pr4 U := by
    unfold pr4
    rw [e3]
    exact zfold_congr 17 _ (fun k hk q => by unfold prE; rw [TE_cnt h hT hU hk])
  have e5 : pr5 T = pr5 U := by
    unfold pr5
    rw [e4]
    exact zfold_congr 6 _ (fun k hk q => by unfold prF; rw [TE_last h])
  unfold prt
  rw [e5]
  exact zfold_congr 4 _ (fun k hk q => by unfold prG; rw [TE_pri h hT hU hk])
/-- print's answer as an integer -/
noncomputable def prI (T : zTr) : Int := (prt T).toInt
theorem prI_r (T : zTr) : -9223372036854775808 ≤ prI T ∧ prI T < 9223372036854775808 := ⟨Int64.le_toInt (prt T), Int64.toInt_lt (prt T)⟩
theorem prI_e (T : zTr) : prt T = jL (prI T) := jL_of _
theorem TE_prI {D c D' c' : Int} {T U : zTr} (h : TE T U) (hT : GI D c T) (hU : GI D' c' U) : prI T = prI U := by unfold prI; rw [TE_prt h hT hU]
section CMG
variable {E : zE} {cc : ByteArray} {nL : Nat} {R : Room} {cy : Nat → ClassId} {l : Launch} {D : va_G} {k n : Nat} {pc : Nat} {L : List (Nat × Value)} {st : List Value} {x0 x1 x2 d0 d1 p0 p1 h0 h1 : Nat} {a b : Nat → Nat} {hs sl : Nat → Nat → Nat} {T U : zTr} {x : zDd} {z : zPd} {y : zHs} {s : zSl} {Dd c : Int}
set_option maxHeartbeats 4000000 in
set_option maxRecDepth 100000 in
theorem ls_print (C : zO E cc nL "SwingUnitsLaw" R cy l D) (hkn : k + 0 ≤ R.cells ∧ n + 0 ≤ R.slots) (hR : 9 ≤ R.frames ∧ 230 ≤ R.locals) (hG : GI Dd c T) (hO : LO T z y s) (X : List va_W) (hroom : (st.map fun v => v.category).sum ≤ 8) (d : decode cc pc = .ok (.invokestatic 134, 3)) (kk : ∀ (x' : zDd), zJ E nL (k + 0) (n + 0) (X ++ LB cy x0 x1 x2 d0 d1 p0 p1 h0 h1 a b hs sl T U x' z y s).flatten (pc + 3) L (.long (jL (prI T)) :: st)) : zJ E nL k n (X ++ LB cy x0 x1 x2 d0 d1 p0 p1 h0 h1 a b hs sl T U x z y s).flatten pc L (.ref x0 :: st) := by
  refine zj_callMX C X _ (mc := 0) (ms := 0) (st := st) (c_L_print l D cy x0 x1 x2 d0 d1 p0 p1 h0 h1 a b hs sl T U x z y s hG hO) tgv_662 tgv_660 tgv_661 tg_0 hdZ_L_print ⟨rfl, rfl⟩ ⟨Nat.le_trans (Nat.le_of_ble_eq_true rfl) hR.1, Nat.le_trans (Nat.le_of_ble_eq_true rfl) hR.2⟩ hkn rfl rfl hroom d (fun r w h => ?_)
  obtain ⟨rfl, x', rfl⟩ := h
  rw [← List.flatten_append]
  rw [prI_e]
  exact kk x'
set_option maxHeartbeats 4000000 in
set_option maxRecDepth 100000 in
theorem ls_sound (C : zO E cc nL "SwingUnitsLaw" R cy l D) (hkn : k + 1 ≤ R.cells ∧ n + 6 ≤ R.slots) (hR : 9 ≤ R.frames ∧ 230 ≤ R.locals) (hG : GI Dd c T) (hO : LO T z y s) (X : List va_W) (hroom : (st.map fun v => v.category).sum ≤ 8) (d : decode cc pc = .ok (.invokestatic 33, 3)) (kk : ∀ (x' : zDd), zJ E nL (k + 1) (n + 6) (X ++ LB cy x0 x1 x2 d0 d1 p0 p1 h0 h1 a b hs sl T U x' z y s).flatten (pc + 3) L (.int (jI 1) :: st)) : zJ E nL k n (X ++ LB cy x0 x1 x2 d0 d1 p0 p1 h0 h1 a b hs sl T U x z y s).flatten pc L (.ref x0 :: st) := by
  refine zj_callMX C X _ (mc := 1) (ms := 6) (st := st) (c_L_sound l D cy x0 x1 x2 d0 d1 p0 p1 h0 h1 a b hs sl T U x z y s hG hO) tgv_690 tgv_688 tgv_689 tg_0 hdZ_L_sound ⟨rfl, rfl⟩ ⟨Nat.le_trans (Nat.le_of_ble_eq_true rfl) hR.1, Nat.le_trans (Nat.le_of_ble_eq_true rfl) hR.2⟩ hkn rfl rfl hroom d (fun r w h => ?_)
  obtain ⟨rfl, x', rfl⟩ := h
  rw [← List.flatten_append]
  skip
  exact kk x'
set_option maxHeartbeats 4000000 in
set_option maxRecDepth 100000 in
theorem ls_pay (C : zO E cc nL "SwingUnitsLaw" R cy l D) (hkn : k + 2 ≤ R.cells ∧ n + 12 ≤ R.slots) (hR : 9 ≤ R.frames ∧ 230 ≤ R.locals) (hG : GI Dd c T) (hO : LO T z y s) (X : List va_W) (hroom : (st.map fun v => v.category).sum ≤ 8) (d : decode cc pc = .ok (.invokestatic 103, 3)) (kk : ∀ (T' : zTr) (x' : zDd) (y' : zHs), GI Dd c T' → LO T' z y' s → zJ E nL (k + 2) (n + 12) (X ++ LB cy x0 x1 x2 d0 d1 p0 p1 h0 h1 a b hs sl T' U x' z y' s).flatten (pc + 3) L (.int (jI 1) :: st)) : zJ E nL k n (X ++ LB cy x0 x1 x2 d0 d1 p0 p1 h0 h1 a b hs sl T U x z y s).flatten pc L (.ref x0 :: st) := by
  refine zj_callMX C X _ (mc := 2) (ms := 12) (st := st) (c_L_pay l D cy x0 x1 x2 d0 d1 p0 p1 h0 h1 a b hs sl T U x z y s hG hO) tgv_585 tgv_583 tgv_584 tg_0 hdZ_L_pay ⟨rfl, rfl⟩ ⟨Nat.le_trans (Nat.le_of_ble_eq_true rfl) hR.1, Nat.le_trans (Nat.le_of_ble_eq_true rfl) hR.2⟩ hkn rfl rfl hroom d (fun r w h => ?_)
  obtain ⟨rfl, T', x', y', g1, g2, rfl⟩ := h
  rw [← List.flatten_append]
  skip
  exact kk T' x' y' g1 g2
set_option maxHeartbeats 4000000 in
set_option maxRecDepth 100000 in
theorem ls_day (C : zO E cc nL "SwingUnitsLaw" R cy l D) (hkn : k + 7 ≤ R.cells ∧ n + 86 ≤ R.slots) (hR : 10 ≤ R.frames ∧ 290 ≤ R.locals) (hG : GI Dd c T) (hO : LO T z y s) (hDd : Dd + 1 ≤ 100000) (X : List va_W) (hroom : (st.map fun v => v.category).sum ≤ 8) (d : decode cc pc = .ok (.invokestatic 97, 3)) (kk : ∀ (T' : zTr) (x' : zDd) (y' : zHs), GI (Dd + 1) c T' → LO T' z y' s → zJ E nL (k + 7) (n + 86) (X ++ LB cy x0 x1 x2 d0 d1 p0 p1 h0 h1 a b hs sl T' U x' z y' s).flatten (pc + 3) L (.int (jI 1) :: st)) : zJ E nL k n (X ++ LB cy x0 x1 x2 d0 d1 p0 p1 h0 h1 a b hs sl T U x z y s).flatten pc L (.ref x0 :: st) := by
  refine zj_callMX C X _ (mc := 7) (ms := 86) (st := st) (c_L_day l D cy x0 x1 x2 d0 d1 p0 p1 h0 h1 a b hs sl T U x z y s hG hO hDd) tgv_487 tgv_485 tgv_486 tg_0 hdZ_L_day ⟨rfl, rfl⟩ ⟨Nat.le_trans (Nat.le_of_ble_eq_true rfl) hR.1, Nat.le_trans (Nat.le_of_ble_eq_true rfl) hR.2⟩ hkn rfl rfl hroom d (fun r w h => ?_)
  obtain ⟨rfl, T', x', y', g1, g2, rfl⟩ := h
  rw [← List.flatten_append]
  skip
  exact kk T' x' y' g1 g2
end CMG
