/-! day: behind the end of the day. Written by wip/p26/law9.py -/
/-- how many of the first k orders are not empty -/
def cN (o : zOd) : Nat → Nat
  | 0 => 0
  | k + 1 => if 0 < oS o k then cN o k + 1 else cN o k
theorem pOk_iff (o : zOd) (k : Nat) : pO (trO o k) = true ↔ 0 < oS o k := by
  unfold pO
  rw [decide_eq_true_eq]
  show ¬ gOd_sz o k ≤ 0 ↔ _
  rw [i32_le_iff]
  have : (0 : Int32).toInt = 0 := rfl
  have e : oS o k = (gOd_sz o k).toInt := rfl
  omega
theorem filt_len (o : zOd) : ∀ k, (((List.range k).map (trO o)).filter pO).length = cN o k
  | 0 => rfl
  | k + 1 => by
    rw [range_map_succ, List.filter_append, List.length_append, filt_len o k]
    by_cases e : 0 < oS o k
    · rw [show cN o (k + 1) = cN o k + 1 from if_pos e, List.filter_cons_of_pos ((pOk_iff o k).mpr e)]; rfl
    · rw [show cN o (k + 1) = cN o k from if_neg e, List.filter_cons_of_neg (fun q => e ((pOk_iff o k).mp q))]; rfl
theorem filt_get {o e : zOd} (h : oL e = (oL o).filter pO) {k : Nat} (hk : k < gOd_n o) (hp : 0 < oS o k) : cN o k < gOd_n e ∧ trO e (cN o k) = trO o k := by
  have hlen : k < (oL o).length := by rw [oL_len]; exact hk
  have e1 : oL o = (oL o).take k ++ trO o k :: (oL o).drop (k + 1) := (List.take_append_drop k (oL o)).symm.trans (by rw [List.drop_eq_getElem_cons hlen, oL_get hlen])
  have e2 : oL e = ((oL o).take k).filter pO ++ trO o k :: ((oL o).drop (k + 1)).filter pO := by
    rw [h]
    conv => lhs; rw [e1]
    rw [List.filter_append, List.filter_cons_of_pos ((pOk_iff o k).mpr hp)]
  have e3 : (((oL o).take k).filter pO).length = cN o k := by
    rw [← filt_len o k]
    unfold oL
    rw [← List.map_take, List.take_range, Nat.min_eq_left (by omega)]
  have e4 : (oL e)[cN o k]? = some (trO o k) := by
    rw [e2, List.getElem?_append_right (by omega), e3, Nat.sub_self]; rfl
  obtain ⟨g1, g2⟩ := List.getElem?_eq_some_iff.mp e4
  rw [oL_get] at g2
  rw [oL_len] at g1
  exact ⟨g1, g2⟩
theorem filt_n {o e : zOd} (h : oL e = (oL o).filter pO) : gOd_n e = cN o (gOd_n o) := by
  rw [← oL_len e, h, ← filt_len o (gOd_n o)]; rfl
/-- the numbers behind the end of a day -/
theorem end_vals {D c : Int} {T : zTr} (h : GI D c T) (x : zDd) {S0 : zMs} {sm : Nat → Int64} (hc : ctx T (runX x T) sm (runD T)) (hPI : PI S0 T (runX x T) sm (20000 + 4 * qI T) (runP x T (runD T)).1 (runD T)) (hBS : ∃ X, BS S0 T (runF x T) (runX x T) sm (runB x T (runE T)) (runE T) X) (hX : XB T (runF x T) (runB x T (runE T)) (runE T)) :
    (gOd_n (gTr_bu (runR x T)) : Int) = (gOd_n (gTr_bu T) : Int) - (runE T : Int) ∧ lpI (runR x T) = pI T ∧
    (f_X7_lastDay (runR x T) (jI 0) = jI (mdI (runB x T (runE T))) ∧ 0 ≤ mdI (runB x T (runE T)) ∧ mdI (runB x T (runE T)) ≤ 1000000000) ∧ (f_X7_lastDay (runR x T) (jI 1) = jI (lfI (runB x T (runE T))) ∧ 0 ≤ lfI (runB x T (runE T)) ∧ lfI (runB x T (runE T)) ≤ 1000000000) ∧ (f_X7_lastDay (runR x T) (jI 2) = jI (soI (runB x T (runE T))) ∧ -1000 ≤ soI (runB x T (runE T)) ∧ soI (runB x T (runE T)) ≤ 1000) ∧ f_X7_lastDay (runR x T) (jI 3) = jI (2 + dirI T) ∧ f_X7_lastDay (runR x T) (jI 4) = jI (wI T - lfI (runB x T (runE T))) ∧ (f_X7_lastDay (runR x T) (jI 5) = jI (bkI (runB x T (runE T))) ∧ 0 ≤ bkI (runB x T (runE T)) ∧ bkI (runB x T (runE T)) ≤ 1000000000) ∧
    oL (gTr_le (runR x T)) = (oL (gTr_le (runP x T (runD T)).1)).filter pO ∧ gOd_n (gTr_le (runP x T (runD T)).1) = gOd_n (gTr_le T) ∧ (∀ i, oH (gTr_le (runP x T (runD T)).1) i = oH (gTr_le T) i) ∧ (∀ i, i < gOd_n (gTr_le T) → 0 ≤ oS (gTr_le (runP x T (runD T)).1) i ∧ oS (gTr_le (runP x T (runD T)).1) i ≤ 1000000000) ∧ (∀ j, j < 6 → paI (runR x T) j = paI (runP x T (runD T)).1 j) := by
  have hOb := h.1.2.1
  have hOl := h.1.2.2.1
  have hgr := GI_r h
  have hdn := day_nums h
  have hdE : runE T ≤ gOd_n (gTr_bu T) := xdue_le
  obtain ⟨Xb, hb⟩ := hBS
  obtain ⟨⟨Xp, hp⟩, hXP, -⟩ := hPI
  obtain ⟨y1, y2, ⟨y3, y4, y5⟩, y6, y7, y8, y9, y10, y11⟩ := hX
  obtain ⟨xp1, xp2, xp3, xp4, xp5, xp6, xp7⟩ := hXP
  have hdrop := drop_buys hOb hb.2.1 hdE
  have hbR : gTr_bu (runR x T) = f_X4_dropEmpty (gTr_bu (runB x T (runE T))) := rfl
  have hlaR : gTr_la (runR x T) = gTr_la (runB x T (runE T)) := rfl
  obtain ⟨l1, l2, l3, l4⟩ := hb.2.2.1
  have hle : gTr_le (runR x T) = f_X4_dropEmpty (gTr_le (runP x T (runD T)).1) := hb.2.1.1.2.2.2.1
  have hq := hp.2.1.1
  have hz := hp.2.1.2.2.2.2.2.2.2
  have ex1 : (gDd_price (runX x T)).toInt = pI T := hc.2.2.1
  have ex2 : gDd_swung (runX x T) = gDd_swung (f_X0_takePrice x T) := rfl
  have ex3 : gDd_wanted (runX x T) = gDd_wanted (f_X0_takePrice x T) := rfl
  have exs := swung_int x h.1.1 hOb hOl
  have exw := (allowed_int x h.1.1 hOl).2.1
  have hll : lfI (runB x T (runE T)) = lfI (runP x T (runD T)).1 := y7
  have hso : soI (runB x T (runE T)) = soI (runP x T (runD T)).1 := y6
  have hlotsP : 0 ≤ lI (runP x T (runD T)).1 ∧ lI (runP x T (runD T)).1 ≤ 1000 := hp.2.1.2.1
  have huP := uAll_nn hp.2.1.2.2.2.2.1
  have huF : uAll (runF x T) = uAll (runP x T (runD T)).1 := rfl
  have huB := hb.2.1.2.2.2.1.2
  have hdir := hdn.2.2.2.2.2.2.2.2.1
  have hpS : pS (gTr_bu T) 0 ≤ 400000000 := by
    obtain ⟨-, ⟨x1, x2, x3, x4, x5⟩, hDb, hc0, hcc⟩ := h
    have hbo0 : 0 ≤ isum (boI T) 6 := isum_nn 6 (fun j hj => (x1 j hj).1)
    omega
  have hpE := pS_nn hOb (runE T)
  have ended : gLd_ended (gTr_la (runR x T)) = true := l1
  refine ⟨?_, ?_, ⟨?_, y8, by omega⟩, ⟨?_, by omega, by omega⟩, ⟨?_, by omega, by omega⟩, ?_, ?_, ⟨?_, y10, by omega⟩, ?_, hq.2.2.2.2.1, fun i => ?_, fun i hi => ?_, fun j hj => ?_⟩
  · have e := congrArg List.length hdrop
    rw [← hbR, oL_len, List.length_drop, oL_len] at e
    omega
  · unfold lpI
    rw [if_neg (by rw [ended]; decide), hlaR, l2, ex1]
  · have e : f_X7_lastDay (runR x T) (jI 0) = if gLd_ended (gTr_la (runR x T)) = false then (-6) else (gLd_made (gTr_la (runR x T))).toInt32 := rfl
    rw [e, if_neg (by rw [ended]; decide)]; exact jL_il rfl
  · have e : f_X7_lastDay (runR x T) (jI 1) = if gLd_ended (gTr_la (runR x T)) = false then (-6) else (gLd_left (gTr_la (runR x T))).toInt32 := rfl
    rw [e, if_neg (by rw [ended]; decide)]; exact jL_il rfl
  · have e : f_X7_lastDay (runR x T) (jI 2) = if gLd_ended (gTr_la (runR x T)) = false then (-6) else gLd_sold (gTr_la (runR x T)) := rfl
    rw [e, if_neg (by rw [ended]; decide)]; exact jI_of _
  · have e : f_X7_lastDay (runR x T) (jI 3) = if gLd_ended (gTr_la (runR x T)) = false then (-6) else gLd_swung (gTr_la (runR x T)) + nI 2 := rfl
    rw [e, if_neg (by rw [ended]; decide), hlaR, l3, ex2]
    exact jI_is ((i32_add (x := dirI T) (y := 2) exs rfl (by omega) (by omega)).trans (by omega))
  · have e : f_X7_lastDay (runR x T) (jI 4) = if gLd_ended (gTr_la (runR x T)) = false then (-6) else (gLd_still (gTr_la (runR x T))).toInt32 := rfl
    rw [e, if_neg (by rw [ended]; decide), hlaR, l4, ex3]
    exact jL_il (i64_sub (x := wI T) (y := lfI (runB x T (runE T))) exw rfl (by omega) (by omega))
  · have e : f_X7_lastDay (runR x T) (jI 5) = if gLd_ended (gTr_la (runR x T)) = false then (-6) else (gLd_back (gTr_la (runR x T))).toInt32 := rfl
    rw [e, if_neg (by rw [ended]; decide)]; exact jL_il rfl
  · rw [hle, drop_oL]
  · unfold oH
    rw [hq.2.2.2.2.2.1]
  · obtain ⟨-, z1, z2⟩ := hz i hi
    have := (hOl.2.1 i hi).2.2
    exact ⟨z1, by show (gOd_sz _ i).toInt ≤ _; omega⟩
  · exact (y1 j hj).1
section DAYE
variable {E : zE} {cy : Nat → ClassId} {l : Launch} {D : va_G} {x0 x1 x2 d0 d1 p0 p1 h0 h1 : Nat} {a b : Nat → Nat} {hs sl : Nat → Nat → Nat} {T U : zTr} {x : zDd} {z : zPd} {y : zHs} {s : zSl} {Dd c : Int}
variable {T1 : zTr} {x1_ : zDd} {y1 : zHs} {D1 : Int}
set_option maxHeartbeats 4000000 in
set_option maxRecDepth 100000 in
theorem day_e2 (C : zO E cL_day 37 "SwingUnitsLaw" rm_day cy l D) (hG1 : GI D1 c T1) (hO1 : LO T1 z y1 s) {qa qu qp qb qs qn qw : Nat} {fa fu fp fb fs fn fw : Nat → Int} (hf : ∀ j, j < 6 → fu j = uU T1 j ∧ fp j = paI T1 j ∧ fb j = boI T1 j) (kk : zJ E 37 7 86 (([IA cy qw 20 fw, LA cy qn 20 fn, LA cy qs 20 fs, LA cy qb 6 fb, LA cy qp 6 fp, LA cy qu 6 fu, LA cy qa 8 fa] : List va_W) ++ LB cy x0 x1 x2 d0 d1 p0 p1 h0 h1 a b hs sl T1 U x1_ z y1 s).flatten 1231 [(32, .int (jI ((6 : Nat) : Int))), (25, .int (jI (2 + dirI T))), (13, .long (jL (wI T))), (10, .ref qw), (9, .ref qn), (8, .ref qs), (7, .ref qb), (6, .ref qp), (5, .ref qu), (4, .ref qa), (3, .int (jI (gOd_n (gTr_bu T) : Int))), (2, .int (jI (gOd_n (gTr_le T) : Int))), (1, .int (jI (dI T))), (0, .ref x0)] []) : ∀ (m i : Nat), i + m = 6 → zJ E 37 7 86 (([IA cy qw 20 fw, LA cy qn 20 fn, LA cy qs 20 fs, LA cy qb 6 fb, LA cy qp 6 fp, LA cy qu 6 fu, LA cy qa 8 fa] : List va_W) ++ LB cy x0 x1 x2 d0 d1 p0 p1 h0 h1 a b hs sl T1 U x1_ z y1 s).flatten 1165 [(32, .int (jI (i : Int))), (25, .int (jI (2 + dirI T))), (13, .long (jL (wI T))), (10, .ref qw), (9, .ref qn), (8, .ref qs), (7, .ref qb), (6, .ref qp), (5, .ref qu), (4, .ref qa), (3, .int (jI (gOd_n (gTr_bu T) : Int))), (2, .int (jI (gOd_n (gTr_le T) : Int))), (1, .int (jI (dI T))), (0, .ref x0)] [] := by
  intro m
  induction m with
  | zero =>
    intro i hi
    have ei : i = 6 := by omega
    subst ei
    refine zj_iload C dL_day_1165 0 rfl ?_
    refine ij_bipush C dL_day_1167 (by decide) ?_
    refine ij_icmp_ge C 1231 dL_day_1169 (by decide) ⟨by omega, by omega⟩ ⟨by decide, by decide⟩ (fun _ => ?_) (fun h => False.elim (by omega))
    exact kk
  | succ m ih =>
    intro i hi
    have h6 : i < 6 := by omega
    obtain ⟨a1, a2, a3⟩ := hf i h6
    obtain ⟨⟨u1, u2, u3, u4, u5⟩, -, ⟨v1, v2⟩, ⟨v3, v4⟩, -⟩ := GI_h hG1 h6
    have ru := (GI_r hG1).2.2.2.2.1
    refine zj_iload C dL_day_1165 0 rfl ?_
    refine ij_bipush C dL_day_1167 (by decide) ?_
    refine ij_icmp_ge C 1231 dL_day_1169 (by decide) ⟨by omega, by omega⟩ ⟨by decide, by decide⟩ (fun h => False.elim (by omega)) (fun _ => ?_)
    refine zj_aload_n C dL_day_1172 13 rfl ?_
    refine zj_iload C dL_day_1173 0 rfl ?_
    refine ij_iconst C dL_day_1175 ?_
    refine lc_ofHolder C ⟨Nat.le_of_ble_eq_true rfl, Nat.le_of_ble_eq_true rfl⟩ ⟨Nat.le_of_ble_eq_true rfl, Nat.le_of_ble_eq_true rfl⟩ hO1 ([IA cy qw 20 fw, LA cy qn 20 fn, LA cy qs 20 fs, LA cy qb 6 fb, LA cy qp 6 fp, LA cy qu 6 fu, LA cy qa 8 fa] : List va_W) (jI (i : Int)) (jI 0) (Nat.le_of_ble_eq_true rfl) dL_day_1176 (vh_0 hG1 h6) ?_
    refine ij_i2l C ⟨by omega, by omega⟩ dL_day_1179 ?_
    refine zj_aload C dL_day_1180 8 rfl ?_
    refine zj_iload C dL_day_1182 0 rfl ?_
    refine ij_laload C 5 (f := fu) i rfl (by omega) (by decide) rfl dL_day_1184 ?_
    refine ij_lcmp_ne C 1223 dL_day_1185 dL_day_1186 (by decide) ⟨by omega, by omega⟩ ⟨by omega, by omega⟩ (fun h => False.elim (by omega)) (fun _ => ?_)
    refine zj_aload_n C dL_day_1189 13 rfl ?_
    refine zj_iload C dL_day_1190 0 rfl ?_
    refine ij_iconst C dL_day_1192 ?_
    refine lc_ofHolder C ⟨Nat.le_of_ble_eq_true rfl, Nat.le_of_ble_eq_true rfl⟩ ⟨Nat.le_of_ble_eq_true rfl, Nat.le_of_ble_eq_true rfl⟩ hO1 ([IA cy qw 20 fw, LA cy qn 20 fn, LA cy qs 20 fs, LA cy qb 6 fb, LA cy qp 6 fp, LA cy qu 6 fu, LA cy qa 8 fa] : List va_W) (jI (i : Int)) (jI 5) (Nat.le_of_ble_eq_true rfl) dL_day_1193 (vh_5 hG1 h6) ?_
    refine ij_i2l C ⟨by omega, by omega⟩ dL_day_1196 ?_
    refine zj_aload C dL_day_1197 7 rfl ?_
    refine zj_iload C dL_day_1199 0 rfl ?_
    refine ij_laload C 4 (f := fp) i rfl (by omega) (by decide) rfl dL_day_1201 ?_
    refine ij_lcmp_ne C 1223 dL_day_1202 dL_day_1203 (by decide) ⟨by omega, by omega⟩ ⟨by omega, by omega⟩ (fun h => False.elim (by omega)) (fun _ => ?_)
    refine zj_aload_n C dL_day_1206 13 rfl ?_
    refine zj_iload C dL_day_1207 0 rfl ?_
    refine ij_iconst C dL_day_1209 ?_
    refine lc_ofHolder C ⟨Nat.le_of_ble_eq_true rfl, Nat.le_of_ble_eq_true rfl⟩ ⟨Nat.le_of_ble_eq_true rfl, Nat.le_of_ble_eq_true rfl⟩ hO1 ([IA cy qw 20 fw, LA cy qn 20 fn, LA cy qs 20 fs, LA cy qb 6 fb, LA cy qp 6 fp, LA cy qu 6 fu, LA cy qa 8 fa] : List va_W) (jI (i : Int)) (jI 4) (Nat.le_of_ble_eq_true rfl) dL_day_1210 (vh_4 hG1 h6) ?_
    refine ij_i2l C ⟨by omega, by omega⟩ dL_day_1213 ?_
    refine zj_aload C dL_day_1214 6 rfl ?_
    refine zj_iload C dL_day_1216 0 rfl ?_
    refine ij_laload C 3 (f := fb) i rfl (by omega) (by decide) rfl dL_day_1218 ?_
    refine ij_lcmp_eq C 1225 dL_day_1219 dL_day_1220 (by decide) ⟨by omega, by omega⟩ ⟨by omega, by omega⟩ (fun _ => ?_) (fun h => False.elim (by omega))
    refine ij_iinc C (j := 0) (L2 := [(32, .int (jI ((i + 1 : Nat) : Int))), (25, .int (jI (2 + dirI T))), (13, .long (jL (wI T))), (10, .ref qw), (9, .ref qn), (8, .ref qs), (7, .ref qb), (6, .ref qp), (5, .ref qu), (4, .ref qa), (3, .int (jI (gOd_n (gTr_bu T) : Int))), (2, .int (jI (gOd_n (gTr_le T) : Int))), (1, .int (jI (dI T))), (0, .ref x0)]) ((i + 1 : Nat) : Int) (by omega) dL_day_1225 rfl (by decide) rfl ?_
    refine zj_goto C 1165 dL_day_1228 (by decide) ?_
    refine zj_sub (L' := [(32, .int (jI ((i + 1 : Nat) : Int))), (25, .int (jI (2 + dirI T))), (13, .long (jL (wI T))), (10, .ref qw), (9, .ref qn), (8, .ref qs), (7, .ref qb), (6, .ref qp), (5, .ref qu), (4, .ref qa), (3, .int (jI (gOd_n (gTr_bu T) : Int))), (2, .int (jI (gOd_n (gTr_le T) : Int))), (1, .int (jI (dI T))), (0, .ref x0)]) [0, 1, 2, 3, 4, 5, 6, 7, 8, 9, 10, 11, 12, 13] rfl ?_
    exact ih (i + 1) (by omega)
set_option maxHeartbeats 4000000 in
set_option maxRecDepth 100000 in
theorem day_e3 (C : zO E cL_day 37 "SwingUnitsLaw" rm_day cy l D) (hG1 : GI D1 c T1) (hO1 : LO T1 z y1 s) {qa qu qp qb qs qn qw : Nat} {fa fu fp fb fs fn fw : Nat → Int} (hnl : gOd_n (gTr_le T) ≤ 20) (N : Nat → Nat) (hf : ∀ k, k < gOd_n (gTr_le T) → (0 ≤ fn k ∧ fn k ≤ 1000000000) ∧ (0 < fn k → N k < gOd_n (gTr_le T1) ∧ oH (gTr_le T1) (N k) = fw k ∧ oS (gTr_le T1) (N k) = fn k ∧ N (k + 1) = N k + 1) ∧ (¬ 0 < fn k → N (k + 1) = N k)) (kk : zJ E 37 7 86 (([IA cy qw 20 fw, LA cy qn 20 fn, LA cy qs 20 fs, LA cy qb 6 fb, LA cy qp 6 fp, LA cy qu 6 fu, LA cy qa 8 fa] : List va_W) ++ LB cy x0 x1 x2 d0 d1 p0 p1 h0 h1 a b hs sl T1 U x1_ z y1 s).flatten 1298 [(32, .int (jI ((N (gOd_n (gTr_le T)) : Nat) : Int))), (25, .int (jI (2 + dirI T))), (13, .long (jL (wI T))), (10, .ref qw), (9, .ref qn), (8, .ref qs), (7, .ref qb), (6, .ref qp), (5, .ref qu), (4, .ref qa), (3, .int (jI (gOd_n (gTr_bu T) : Int))), (2, .int (jI (gOd_n (gTr_le T) : Int))), (1, .int (jI (dI T))), (0, .ref x0)] []) : ∀ (m k : Nat), k + m = gOd_n (gTr_le T) → zJ E 37 7 86 (([IA cy qw 20 fw, LA cy qn 20 fn, LA cy qs 20 fs, LA cy qb 6 fb, LA cy qp 6 fp, LA cy qu 6 fu, LA cy qa 8 fa] : List va_W) ++ LB cy x0 x1 x2 d0 d1 p0 p1 h0 h1 a b hs sl T1 U x1_ z y1 s).flatten 1237 [(33, .int (jI (k : Int))), (32, .int (jI ((N k : Nat) : Int))), (25, .int (jI (2 + dirI T))), (13, .long (jL (wI T))), (10, .ref qw), (9, .ref qn), (8, .ref qs), (7, .ref qb), (6, .ref qp), (5, .ref qu), (4, .ref qa), (3, .int (jI (gOd_n (gTr_bu T) : Int))), (2, .int (jI (gOd_n (gTr_le T) : Int))), (1, .int (jI (dI T))), (0, .ref x0)] [] := by
  intro m
  induction m with
  | zero =>
    intro k hk
    have ek : k = gOd_n (gTr_le T) := by omega
    subst ek
    refine zj_iload C dL_day_1237 0 rfl ?_
    refine zj_iload_n C dL_day_1239 12 rfl ?_
    refine ij_icmp_ge C 1298 dL_day_1240 (by decide) ⟨by omega, by omega⟩ ⟨by omega, by omega⟩ (fun _ => ?_) (fun h => False.elim (by omega))
    refine zj_sub (L' := [(32, .int (jI ((N (gOd_n (gTr_le T)) : Nat) : Int))), (25, .int (jI (2 + dirI T))), (13, .long (jL (wI T))), (10, .ref qw), (9, .ref qn), (8, .ref qs), (7, .ref qb), (6, .ref qp), (5, .ref qu), (4, .ref qa), (3, .int (jI (gOd_n (gTr_bu T) : Int))), (2, .int (jI (gOd_n (gTr_le T) : Int))), (1, .int (jI (dI T))), (0, .ref x0)]) [1, 2, 3, 4, 5, 6, 7, 8, 9, 10, 11, 12, 13, 14] rfl ?_
    exact kk
  | succ m ih =>
    intro k hk
    have hkn : k < gOd_n (gTr_le T) := by omega
    obtain ⟨⟨f0, f1⟩, f2, f3⟩ := hf k hkn
    refine zj_iload C dL_day_1237 0 rfl ?_
    refine zj_iload_n C dL_day_1239 12 rfl ?_
    refine ij_icmp_ge C 1298 dL_day_1240 (by decide) ⟨by omega, by omega⟩ ⟨by omega, by omega⟩ (fun h => False.elim (by omega)) (fun _ => ?_)
    refine zj_aload C dL_day_1243 5 rfl ?_
    refine zj_iload C dL_day_1245 0 rfl ?_
    refine ij_laload C 1 (f := fn) k rfl (by omega) (by decide) rfl dL_day_1247 ?_
    refine zj_lconst C (v := jL 0) dL_day_1248 (by decide) ?_
    refine ij_lcmp_le C 1292 dL_day_1249 dL_day_1250 (by decide) ⟨by omega, by omega⟩ ⟨by decide, by decide⟩ (fun hz => ?_) (fun hz => ?_)
    · skip
      have e := f3 (by omega)
      refine ij_iinc C (j := 0) (L2 := [(33, .int (jI ((k + 1 : Nat) : Int))), (32, .int (jI ((N k : Nat) : Int))), (25, .int (jI (2 + dirI T))), (13, .long (jL (wI T))), (10, .ref qw), (9, .ref qn), (8, .ref qs), (7, .ref qb), (6, .ref qp), (5, .ref qu), (4, .ref qa), (3, .int (jI (gOd_n (gTr_bu T) : Int))), (2, .int (jI (gOd_n (gTr_le T) : Int))), (1, .int (jI (dI T))), (0, .ref x0)]) ((k + 1 : Nat) : Int) (by omega) dL_day_1292 rfl (by decide) rfl ?_
      refine zj_goto C 1237 dL_day_1295 (by decide) ?_
      refine zj_sub (L' := [(33, .int (jI ((k + 1 : Nat) : Int))), (32, .int (jI ((N k : Nat) : Int))), (25, .int (jI (2 + dirI T))), (13, .long (jL (wI T))), (10, .ref qw), (9, .ref qn), (8, .ref qs), (7, .ref qb), (6, .ref qp), (5, .ref qu), (4, .ref qa), (3, .int (jI (gOd_n (gTr_bu T) : Int))), (2, .int (jI (gOd_n (gTr_le T) : Int))), (1, .int (jI (dI T))), (0, .ref x0)]) [0, 1, 2, 3, 4, 5, 6, 7, 8, 9, 10, 11, 12, 13, 14] rfl ?_
      rw [← e]
      exact ih (k + 1) (by omega)
    · skip
      obtain ⟨g1, g2, g3, g4⟩ := f2 (by omega)
      obtain ⟨⟨ra, rb⟩, ⟨rc, rd⟩, re, rf⟩ := GI_ol hG1 g1
      have rnl1 := (GI_r hG1).2.2.2.2.2.2.2.2.2.2.1
      refine zj_aload_n C dL_day_1253 14 rfl ?_
      refine ij_iconst C dL_day_1254 ?_
      refine zj_iload C dL_day_1255 1 rfl ?_
      refine ij_iconst C dL_day_1257 ?_
      refine lc_order C ⟨Nat.le_of_ble_eq_true rfl, Nat.le_of_ble_eq_true rfl⟩ ⟨Nat.le_of_ble_eq_true rfl, Nat.le_of_ble_eq_true rfl⟩ hO1 ([IA cy qw 20 fw, LA cy qn 20 fn, LA cy qs 20 fs, LA cy qb 6 fb, LA cy qp 6 fp, LA cy qu 6 fu, LA cy qa 8 fa] : List va_W) (jI 1) (jI ((N k : Nat) : Int)) (jI 0) (Nat.le_of_ble_eq_true rfl) dL_day_1258 (vo_10 hG1 g1) ?_
      refine zj_aload C dL_day_1261 4 rfl ?_
      refine zj_iload C dL_day_1263 0 rfl ?_
      refine ij_iaload C 0 (f := fw) k rfl (by omega) (by decide) rfl dL_day_1265 ?_
      refine ij_icmp_ne C 1287 dL_day_1266 (by decide) ⟨by omega, by omega⟩ ⟨by omega, by omega⟩ (fun h => False.elim (by omega)) (fun _ => ?_)
      refine zj_aload_n C dL_day_1269 14 rfl ?_
      refine ij_iconst C dL_day_1270 ?_
      refine zj_iload C dL_day_1271 1 rfl ?_
      refine ij_iconst C dL_day_1273 ?_
      refine lc_order C ⟨Nat.le_of_ble_eq_true rfl, Nat.le_of_ble_eq_true rfl⟩ ⟨Nat.le_of_ble_eq_true rfl, Nat.le_of_ble_eq_true rfl⟩ hO1 ([IA cy qw 20 fw, LA cy qn 20 fn, LA cy qs 20 fs, LA cy qb 6 fb, LA cy qp 6 fp, LA cy qu 6 fu, LA cy qa 8 fa] : List va_W) (jI 1) (jI ((N k : Nat) : Int)) (jI 1) (Nat.le_of_ble_eq_true rfl) dL_day_1274 (vo_11 hG1 g1) ?_
      refine ij_i2l C ⟨by omega, by omega⟩ dL_day_1277 ?_
      refine zj_aload C dL_day_1278 5 rfl ?_
      refine zj_iload C dL_day_1280 0 rfl ?_
      refine ij_laload C 1 (f := fn) k rfl (by omega) (by decide) rfl dL_day_1282 ?_
      refine ij_lcmp_eq C 1289 dL_day_1283 dL_day_1284 (by decide) ⟨by omega, by omega⟩ ⟨by omega, by omega⟩ (fun _ => ?_) (fun h => False.elim (by omega))
      refine ij_iinc C (j := 1) (L2 := [(32, .int (jI ((N (k + 1) : Nat) : Int))), (33, .int (jI (k : Int))), (25, .int (jI (2 + dirI T))), (13, .long (jL (wI T))), (10, .ref qw), (9, .ref qn), (8, .ref qs), (7, .ref qb), (6, .ref qp), (5, .ref qu), (4, .ref qa), (3, .int (jI (gOd_n (gTr_bu T) : Int))), (2, .int (jI (gOd_n (gTr_le T) : Int))), (1, .int (jI (dI T))), (0, .ref x0)]) ((N (k + 1) : Nat) : Int) (by omega) dL_day_1289 rfl (by decide) rfl ?_
      refine ij_iinc C (j := 1) (L2 := [(33, .int (jI ((k + 1 : Nat) : Int))), (32, .int (jI ((N (k + 1) : Nat) : Int))), (25, .int (jI (2 + dirI T))), (13, .long (jL (wI T))), (10, .ref qw), (9, .ref qn), (8, .ref qs), (7, .ref qb), (6, .ref qp), (5, .ref qu), (4, .ref qa), (3, .int (jI (gOd_n (gTr_bu T) : Int))), (2, .int (jI (gOd_n (gTr_le T) : Int))), (1, .int (jI (dI T))), (0, .ref x0)]) ((k + 1 : Nat) : Int) (by omega) dL_day_1292 rfl (by decide) rfl ?_
      refine zj_goto C 1237 dL_day_1295 (by decide) ?_
      refine zj_sub (L' := [(33, .int (jI ((k + 1 : Nat) : Int))), (32, .int (jI ((N (k + 1) : Nat) : Int))), (25, .int (jI (2 + dirI T))), (13, .long (jL (wI T))), (10, .ref qw), (9, .ref qn), (8, .ref qs), (7, .ref qb), (6, .ref qp), (5, .ref qu), (4, .ref qa), (3, .int (jI (gOd_n (gTr_bu T) : Int))), (2, .int (jI (gOd_n (gTr_le T) : Int))), (1, .int (jI (dI T))), (0, .ref x0)]) [0, 1, 2, 3, 4, 5, 6, 7, 8, 9, 10, 11, 12, 13, 14] rfl ?_
      exact ih (k + 1) (by omega)
end DAYE
