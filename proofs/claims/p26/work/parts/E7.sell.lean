/-! selling lots, paying one order: over integers -/
theorem sell_sp {T : zTr} {am : Int64} {a : Int} (hq : 1 ≤ qI T ∧ qI T ≤ 10000) (hs : 0 ≤ sI T 4 ∧ sI T 4 ≤ 50) (hl : 0 ≤ lI T ∧ lI T ≤ 1000) (hc : 0 ≤ cI T ∧ cI T ≤ 100000000000) (ea : am.toInt = a) (ha : 0 ≤ a ∧ a ≤ 1000000000000000) :
    ∃ (c' : Int64) (l' : Int32), f_X6_sellFor T am = (nI (sellN a (brB (qI T) (sI T 4)) (cI T) (lI T).toNat), sTr_lots (sTr_cash T c') l') ∧ c'.toInt = cI T + (sellN a (brB (qI T) (sI T 4)) (cI T) (lI T).toNat : Int) * brB (qI T) (sI T 4) ∧ l'.toInt = lI T - (sellN a (brB (qI T) (sI T 4)) (cI T) (lI T).toNat : Int) ∧ (sellN a (brB (qI T) (sI T 4)) (cI T) (lI T).toNat : Int) ≤ lI T := by
  obtain ⟨b1, b2, b3⟩ := br_int (T := T) hq hs
  have b1' : ((gTr_quote T).toInt64 - f_X6_fee T).toInt = brB (qI T) (sI T 4) := b1
  have b2' : 0 ≤ brB (qI T) (sI T 4) := b2
  have b3' : brB (qI T) (sI T 4) ≤ qI T := b3
  generalize brB (qI T) (sI T 4) = br at b1' b2' b3' ⊢
  have hle := sellN_le a br (lI T).toNat (cI T)
  have heq := sellN_eq a br b2' (lI T).toNat (cI T)
  generalize sellN a br (cI T) (lI T).toNat = N at hle heq ⊢
  have hN : (N : Int) ≤ lI T := by omega
  unfold f_X6_sellFor
  dsimp only
  by_cases c : gTr_cash T < am
  · rw [if_pos c]
    rw [i64_lt_iff, ea] at c
    have c' : cI T < a := c
    rw [if_neg (by omega)] at heq
    have hx : (if (gTr_quote T).toInt64 - f_X6_fee T ≤ 0 then (gTr_lots T).toInt64 else if (gTr_lots T).toInt64 < (am - gTr_cash T + ((gTr_quote T).toInt64 - f_X6_fee T) - 1) / ((gTr_quote T).toInt64 - f_X6_fee T) then (gTr_lots T).toInt64 else (am - gTr_cash T + ((gTr_quote T).toInt64 - f_X6_fee T) - 1) / ((gTr_quote T).toInt64 - f_X6_fee T)).toInt = (N : Int) := by
      have z0 : (0 : Int64).toInt = 0 := rfl
      have hlots : (gTr_lots T).toInt64.toInt = lI T := i32_l _
      by_cases g : br ≤ 0
      · rw [if_pos g] at heq
        rw [if_pos (by rw [i64_le_iff, b1', z0]; exact g), hlots, heq]; omega
      · rw [if_neg g] at heq
        rw [if_neg (by rw [i64_le_iff, b1', z0]; exact g)]
        have e1 : (am - gTr_cash T).toInt = a - cI T := i64_sub ea rfl (by omega) (by omega)
        have e2 : (am - gTr_cash T + ((gTr_quote T).toInt64 - f_X6_fee T)).toInt = a - cI T + br := i64_add e1 b1' (by omega) (by omega)
        have e3 : (am - gTr_cash T + ((gTr_quote T).toInt64 - f_X6_fee T) - 1).toInt = a - cI T + br - 1 := i64_sub (y := 1) e2 rfl (by omega) (by omega)
        have e4 : ((am - gTr_cash T + ((gTr_quote T).toInt64 - f_X6_fee T) - 1) / ((gTr_quote T).toInt64 - f_X6_fee T)).toInt = (a - cI T + br - 1) / br := i64_div e3 b1' (by omega) (by omega)
        have en : ((lI T).toNat : Int) = lI T := by omega
        rw [en] at heq
        by_cases q : lI T < (a - cI T + br - 1) / br
        · rw [if_pos (by rw [i64_lt_iff, hlots, e4]; exact q), hlots, heq, if_pos q]
        · rw [if_neg (by rw [i64_lt_iff, hlots, e4]; exact q), e4, heq, if_neg q]
    generalize (if (gTr_quote T).toInt64 - f_X6_fee T ≤ 0 then (gTr_lots T).toInt64 else if (gTr_lots T).toInt64 < (am - gTr_cash T + ((gTr_quote T).toInt64 - f_X6_fee T) - 1) / ((gTr_quote T).toInt64 - f_X6_fee T) then (gTr_lots T).toInt64 else (am - gTr_cash T + ((gTr_quote T).toInt64 - f_X6_fee T) - 1) / ((gTr_quote T).toInt64 - f_X6_fee T)) = K at hx ⊢
    have h32 : K.toInt32.toInt = (N : Int) := (l_i32 (by omega) (by omega)).trans hx
    have m1 : 0 ≤ (N : Int) * br := Int.mul_nonneg (by omega) b2'
    have m2 : (N : Int) * br ≤ 1000 * 10000 := Int.mul_le_mul (by omega) (by omega) b2' (by decide)
    have hm : (K * ((gTr_quote T).toInt64 - f_X6_fee T)).toInt = (N : Int) * br := i64_mul hx b1' (by omega) (by omega)
    refine ⟨_, _, by rw [show K.toInt32 = nI N from (jI_is h32).trans (jI_n N).symm], i64_add (x := cI T) rfl hm (by omega) (by omega), ?_, hN⟩
    exact i32_sub (x := lI T) rfl (nI_int (by omega)) (by omega) (by omega)
  · rw [if_neg c]
    rw [i64_lt_iff, ea] at c
    have c' : ¬ cI T < a := c
    rw [if_pos (by omega)] at heq
    have hN0 : N = 0 := by omega
    subst hN0
    exact ⟨gTr_cash T, gTr_lots T, rfl, by show cI T = _; omega, by show lI T = _; omega, hN⟩
def soI (T : zTr) : Int := (gLd_sold (gTr_la T)).toInt
def lfI (T : zTr) : Int := (gLd_left (gTr_la T)).toInt
def mdI (T : zTr) : Int := (gLd_made (gTr_la T)).toInt
def bkI (T : zTr) : Int := (gLd_back (gTr_la T)).toInt
/-- what is asked of the numbers while those who leave are paid -/
def XP (T0 T : zTr) : Prop := (∀ j, j < 6 → boI T j = boI T0 j ∧ inI T j = inI T0 j ∧ eeI T j = eeI T0 j ∧ loI T j = loI T0 j ∧ 0 ≤ paI T j ∧ paI T j ≤ 100000000000) ∧ (0 ≤ evI T ∧ evI T ≤ evI T0 ∧ evI T0 ≤ 4000000000) ∧ (mdI T = 0 ∧ bkI T = 0 ∧ 0 ≤ lfI T ∧ lfI T + uAll T = uAll T0 ∧ soI T = lI T0 - lI T)
theorem pay_form {T : zTr} {x : zDd} {k N : Nat} {c' : Int64} {l' : Int32} (f1 : f_X6_sellFor T (gDd_sh x k * gDd_price x / 1000) = (nI N, sTr_lots (sTr_cash T c') l')) : f_X0_payLeaver x T k = (if gDd_sh x k * gDd_price x / 1000 ≤ c' then (true, sTr_la (sTr_le (f_X6_takeUnits (sTr_la (sTr_lots (sTr_cash T c') l') (sLd_sold (gTr_la T) (gLd_sold (gTr_la T) + nI N))) ((gOd_ho (gTr_le T) k).toNatClampNeg) (gDd_sh x k) (gDd_sh x k * gDd_price x / 1000) (gDd_ui x)) (sOd_sz (gTr_le T) (upd (gOd_sz (gTr_le T)) k (gOd_sz (gTr_le T) k - (gDd_sh x k).toInt32)))) (sLd_still (sLd_left (sLd_sold (gTr_la T) (gLd_sold (gTr_la T) + nI N)) (gLd_left (gTr_la T) + gDd_sh x k)) (gLd_still (gTr_la T) - gDd_sh x k))) else (false, sTr_la (sTr_lots (sTr_cash T c') l') (sLd_sold (gTr_la T) (gLd_sold (gTr_la T) + nI N)))) := by
  unfold f_X0_payLeaver
  rw [f1]
  rfl
/-- one order paid, or not -/
theorem pay_st {T0 T : zTr} {x : zDd} {sm : Nat → Int64} {due k : Nat} (hc : ctx T0 x sm due) (hP : iP T0 T k) (hX : XP T0 T) (hlots0 : 0 ≤ lI T0 ∧ lI T0 ≤ 1000) (hk : k < due) (hs : 0 < (gDd_sh x k).toInt) (j : Nat) (hj : j = hJ T0 k) (s am br : Int) (es : s = (gDd_sh x k).toInt) (eam : am = s * pI T0 / 1000) (ebr : br = brB (qI T0) (sI T0 4)) (N : Nat) (eN : N = sellN am br (cI T) (lI T).toNat) : j < 6 ∧ (N : Int) ≤ lI T ∧ (0 ≤ am ∧ am ≤ 20020000000) ∧ s ≤ uU T j ∧ s ≤ oS (gTr_le T) k ∧ (cI T + N * br < am → ∃ T2, f_X0_payLeaver x T k = (false, T2) ∧ cI T2 = cI T + N * br ∧ lI T2 = lI T - N ∧ gTr_hd T2 = gTr_hd T ∧ gTr_le T2 = gTr_le T ∧ gTr_even T2 = gTr_even T ∧ gTr_bu T2 = gTr_bu T ∧ soI T2 = soI T + N ∧ lfI T2 = lfI T ∧ mdI T2 = mdI T ∧ bkI T2 = bkI T) ∧ (am ≤ cI T + N * br → ∃ T2, f_X0_payLeaver x T k = (true, T2) ∧ cI T2 = cI T + N * br - am ∧ lI T2 = lI T - N ∧ (∀ i, i ≠ j → sameH T T2 i ∧ uU T2 i = uU T i) ∧ uU T2 j = uU T j - s ∧ paI T2 j = paI T j + am ∧ boI T2 j = boI T j ∧ inI T2 j = inI T j ∧ eeI T2 j = eeI T j ∧ loI T2 j = loI T j ∧ (0 ≤ evI T2 ∧ evI T2 ≤ evI T) ∧ uAll T2 = uAll T - s ∧ gTr_bu T2 = gTr_bu T ∧ gOd_n (gTr_le T2) = gOd_n (gTr_le T) ∧ gOd_ho (gTr_le T2) = gOd_ho (gTr_le T) ∧ gOd_dy (gTr_le T2) = gOd_dy (gTr_le T) ∧ (∀ i, oS (gTr_le T2) i = if i = k then oS (gTr_le T) k - s else oS (gTr_le T) i) ∧ soI T2 = soI T + N ∧ lfI T2 = lfI T + s ∧ mdI T2 = mdI T ∧ bkI T2 = bkI T) := by
  obtain ⟨s1, s2, s3, s4, s5, s6, s7, s8⟩ := share_in hc hP hk
  have hcash := iP_cash hc hP
  obtain ⟨hB, hO, hp, hd, hb, hsh, -, hOb⟩ := hc
  obtain ⟨⟨e1, e2, e3, e4, e5, e6, e7⟩, hl, hpc, -, hH, hU, hE, hz⟩ := hP
  obtain ⟨x1, ⟨x2, x3, x3'⟩, x4, x5, x6, x7, x8⟩ := hX
  obtain ⟨j1, j2⟩ := hJ_of hO (k := k) (by omega)
  subst hj
  rw [← es] at s1 s2 s4 s5 s6 s7 s8
  have hq : qI T = qI T0 := by unfold qI; rw [e2]
  have hst : sI T 4 = sI T0 4 := by unfold sI; rw [e1]
  have ham : (gDd_sh x k * gDd_price x / 1000).toInt = am := by rw [eam]; exact s6
  have am0 : 0 ≤ am ∧ am ≤ 20020000000 := by
    rw [eam]
    exact ⟨Int.ediv_nonneg s7 (by decide), by omega⟩
  have hq0 : 1 ≤ qI T0 ∧ qI T0 ≤ 10000 := hB.2.2.1
  have hs0 : 0 ≤ sI T0 4 ∧ sI T0 4 ≤ 50 := hB.1 4 (by decide)
  have hll : 0 ≤ lI T ∧ lI T ≤ 1000 := hl
  have hcc : 0 ≤ cI T ∧ cI T ≤ 9000000000 := ⟨by unfold cI; omega, hcash⟩
  obtain ⟨c', l', f1, f2, f3, f4⟩ := sell_sp (T := T) (am := gDd_sh x k * gDd_price x / 1000) (a := am) (by rw [hq]; exact hq0) (by rw [hst]; exact hs0) hll ⟨hcc.1, by omega⟩ ham ⟨am0.1, by omega⟩
  rw [hq, hst, ← ebr, ← eN] at f1 f2 f3 f4
  have hbr : 0 ≤ br ∧ br ≤ 10000 := by
    have := br_int (T := T0) hq0 hs0
    rw [ebr]
    exact ⟨this.2.1, by have := this.2.2; have h2 : qI T0 = (gTr_quote T0).toInt := rfl; have h3 : brB (qI T0) (sI T0 4) = brB (gTr_quote T0).toInt (gTr_st T0 4).toInt := rfl; omega⟩
  have nb1 : 0 ≤ (N : Int) * br := Int.mul_nonneg (by omega) hbr.1
  have nb2 : (N : Int) * br ≤ 1000 * 10000 := Int.mul_le_mul (by omega) hbr.2 hbr.1 (by decide)
  have szk : oS (gTr_le T) k = (gOd_sz (gTr_le T) k).toInt := rfl
  have hso : (gLd_sold (gTr_la T) + nI N).toInt = soI T + N := i32_add (x := soI T) rfl (nI_int (by omega)) (by omega) (by omega)
  have form := pay_form (x := x) f1
  have hcmp : gDd_sh x k * gDd_price x / 1000 ≤ c' ↔ am ≤ cI T + N * br := by rw [i64_le_iff, ham, f2]
  refine ⟨j2, f4, am0, s4, by rw [szk]; exact s2, fun g => ?_, fun g => ?_⟩
  · rw [form, if_neg (fun q => by have := hcmp.mp q; omega)]
    exact ⟨_, rfl, f2, f3, rfl, rfl, rfl, rfl, hso, rfl, rfl, rfl⟩
  · rw [form, if_pos (hcmp.mpr g)]
    have hjj : (gOd_ho (gTr_le T) k).toNatClampNeg = hJ T0 k := by rw [e6]; rfl
    rw [hjj]
    obtain ⟨T1, hT1⟩ : ∃ q, q = sTr_la (sTr_lots (sTr_cash T c') l') (sLd_sold (gTr_la T) (gLd_sold (gTr_la T) + nI N)) := ⟨_, rfl⟩
    rw [← hT1]
    have h1d : gTr_hd T1 = gTr_hd T := by rw [hT1]
    have h1c : gTr_cash T1 = c' := by rw [hT1]
    have h1e : gTr_even T1 = gTr_even T := by rw [hT1]
    have hU1 : ∀ i, uO T1 i = uO T i ∧ uN T1 i = uN T i ∧ uU T1 i = uU T i ∧ boI T1 i = boI T i ∧ paI T1 i = paI T i ∧ inI T1 i = inI T i ∧ eeI T1 i = eeI T i ∧ loI T1 i = loI T i := fun i => by
      unfold uU uO uN boI paI inI eeI loI
      rw [h1d]
      exact ⟨rfl, rfl, rfl, rfl, rfl, rfl, rfl, rfl⟩
    have hAll1 : uAll T1 = uAll T := isum_congr 6 (fun i _ => (hU1 i).2.2.1)
    have hH1 : iH T1 := ⟨fun i hi => by rw [(hU1 i).1, (hU1 i).2.1]; exact hH.1 i hi, by rw [hAll1]; exact hH.2⟩
    obtain ⟨T2, hT2⟩ : ∃ q, q = f_X6_takeUnits T1 (hJ T0 k) (gDd_sh x k) (gDd_sh x k * gDd_price x / 1000) (gDd_ui x) := ⟨_, rfl⟩
    have TI := take_inv hH1 j2 (un := gDd_sh x k) (am := gDd_sh x k * gDd_price x / 1000) (ofu := gDd_ui x) ⟨by omega, by rw [(hU1 _).2.2.1]; omega⟩ ⟨by omega, by rw [h1c]; omega⟩
    rw [← hT2] at TI ⊢
    obtain ⟨t1, t2, t3, t4, -⟩ := TI
    obtain ⟨y1, y2, y3, y4, y5, y6⟩ := x1 (hJ T0 k) j2
    have TS := take_sp hH1 j2 (un := gDd_sh x k) (am := gDd_sh x k * gDd_price x / 1000) (ofu := gDd_ui x) ⟨by omega, by rw [(hU1 _).2.2.1]; omega⟩ ⟨by omega, by omega⟩ (by rw [(hU1 _).2.2.2.2.1]; exact ⟨y5, by omega⟩) (by unfold evI at x2 x3 x3' ⊢; rw [h1e]; exact ⟨x2, by omega⟩)
    rw [← hT2] at TS
    obtain ⟨v1, v2, v3, v4, v5, v6, ⟨v7, v8⟩, -⟩ := TS
    have e32 : (gDd_sh x k).toInt32.toInt = s := by
      have hb9 := hB.2.2.2.2.2
      rw [l_i32 (by omega) (by omega)]; omega
    have esz : (gOd_sz (gTr_le T) k - (gDd_sh x k).toInt32).toInt = oS (gTr_le T) k - s := by
      have q := (hz k (by omega)).2
      have q2 := (hO.2.1 k (by omega)).2.2
      exact i32_sub (x := oS (gTr_le T) k) rfl e32 (by omega) (by omega)
    have hlf : (gLd_left (gTr_la T) + gDd_sh x k).toInt = lfI T + s := by
      have := hH.2
      have := hB.2.2.2.2.2
      have := uAll_nn hH
      exact i64_add (x := lfI T) (y := s) rfl es.symm (by omega) (by omega)
    have l1 : gTr_lots T2 = l' := by
      rw [hT2]
      show gTr_lots T1 = _
      rw [hT1]
    have b1 : gTr_bu T2 = gTr_bu T := by
      rw [hT2]
      show gTr_bu T1 = _
      rw [hT1]
    have hU2 : ∀ i, uU T2 i = if i = hJ T0 k then uU T i - s else uU T i := fun i => by
      by_cases c : i = hJ T0 k
      · rw [if_pos c, c, t2, (hU1 _).2.2.1, es]
      · rw [if_neg c, t3 i c, (hU1 _).2.2.1]
    refine ⟨_, rfl, ?_, ?_, fun i hi => ⟨?_, ?_⟩, ?_, ?_, v2.trans (hU1 _).2.2.2.1, v4.trans (hU1 _).2.2.2.2.2.1, v5.trans (hU1 _).2.2.2.2.2.2.1, v6.trans (hU1 _).2.2.2.2.2.2.2, ⟨v7, ?_⟩, ?_, b1, rfl, rfl, rfl, fun i => ?_, hso, hlf, rfl, rfl⟩
    · show (gTr_cash T2).toInt = _
      rw [t4, h1c, f2, ham]
    · show (gTr_lots T2).toInt = _
      rw [l1, f3]
    · obtain ⟨w1, w2, w3, w4, w5⟩ := v1 i hi
      obtain ⟨-, -, -, q1, q2, q3, q4, q5⟩ := hU1 i
      exact ⟨w1.trans q1, w2.trans q2, w3.trans q3, w4.trans q4, w5.trans q5⟩
    · show uU T2 i = _
      rw [hU2, if_neg hi]
    · show uU T2 _ = _
      rw [hU2, if_pos rfl]
    · show paI T2 _ = _
      rw [v3, (hU1 _).2.2.2.2.1, ham]
    · show evI T2 ≤ evI T
      unfold evI at v8 ⊢
      rw [h1e] at v8
      exact v8
    · show isum (uU T2) 6 = _
      rw [isum_upd (f := uU T) (g := uU T2) 6 (hJ T0 k) j2 (fun i _ hi => by rw [hU2, if_neg hi]), hU2, if_pos rfl]
      have : uAll T = isum (uU T) 6 := rfl
      omega
    · show (upd (gOd_sz (gTr_le T)) k (gOd_sz (gTr_le T) k - (gDd_sh x k).toInt32) i).toInt = _
      rw [upd_at]
      split
      · exact esz
      · rfl
