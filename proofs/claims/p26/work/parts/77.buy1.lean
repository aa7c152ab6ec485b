/-- one who buys comes in, or gets the amount back -/
noncomputable def buyT (x : zDd) (T : zTr) (h : Nat) (am made : Int64) : zTr :=
  if made = 0 then sTr_la T (sLd_back (gTr_la T) (gLd_back (gTr_la T) + am)) else if f_X6_units T + made ≤ 1000000000 then sTr_la (f_X6_makeUnits T h made am (gDd_ui x)) (sLd_made (gTr_la (f_X6_makeUnits T h made am (gDd_ui x))) (gLd_made (gTr_la (f_X6_makeUnits T h made am (gDd_ui x))) + made)) else sTr_la T (sLd_back (gTr_la T) (gLd_back (gTr_la T) + am))
noncomputable def mdC (x : zDd) (am : Int64) : Int64 := if gDd_price x ≤ 0 then 0 else 1000 * am / gDd_price x
theorem made_int {x : zDd} {T0 : zTr} {am : Int64} (hB : iB T0) (hp : (gDd_price x).toInt = pI T0) (ha : 1 ≤ am.toInt ∧ am.toInt ≤ 1000000) : 0 ≤ (mdC x am).toInt ∧ (mdC x am).toInt * pI T0 ≤ 1000 * am.toInt ∧ (if gDd_price x = 0 then 0 else 1000 * am / gDd_price x) = mdC x am ∧ (mdC x am).toInt ≤ 1000000000 := by
  have p0 := (pI_bd hB).1
  have z0 : (0 : Int64).toInt = 0 := rfl
  unfold mdC
  by_cases c : pI T0 ≤ 0
  · have e : gDd_price x = 0 := i64_eq_iff.mpr (by rw [hp, z0]; omega)
    rw [if_pos (by rw [i64_le_iff, hp, z0]; exact c), if_pos e, z0, Int.zero_mul]
    exact ⟨Int.le_refl _, by omega, rfl, by omega⟩
  · have c1 : ¬ gDd_price x ≤ 0 := by rw [i64_le_iff, hp, z0]; exact c
    have c2 : ¬ gDd_price x = 0 := fun e => c1 (by rw [e]; exact Int64.le_refl 0)
    rw [if_neg c1, if_neg c2]
    have h1 : (1000 * am / gDd_price x).toInt = 1000 * am.toInt / pI T0 := i64_div (i64_mul (x := 1000) rfl rfl (by omega) (by omega)) hp (by omega) (by omega)
    rw [h1]
    exact ⟨Int.ediv_nonneg (by omega) (by omega), Int.ediv_mul_le _ (by omega), rfl, Int.le_trans (Int.ediv_le_self _ (by omega)) (by omega)⟩
theorem buy_one {T0 T : zTr} {x : zDd} {X : zMs} {h : Nat} {am : Int64} (hB : iB T0) (hp : (gDd_price x).toInt = pI T0) (hi : (gDd_ui x).toInt = iI T0) (ha : 1 ≤ am.toInt ∧ am.toInt ≤ 1000000) (hh : h < 6) (hRC : RC T (gMs_at X)) (hRm : RMd (gTr_la T) (gMs_at X)) (hpc : 0 ≤ (gTr_pool T).toInt ∧ (gTr_pool T).toInt ≤ (gTr_cash T).toInt) (hc : (gTr_cash T).toInt ≤ 10000000000) (hH : iH T) :
    ∃ T2 : zTr, buyT x T h am (mdC x am) = T2 ∧ RC T2 (gMs_at (f_X8_buyFor X h am (gDd_price x) (gDd_ui x))) ∧ RMd (gTr_la T2) (gMs_at (f_X8_buyFor X h am (gDd_price x) (gDd_ui x))) ∧ (∀ i, 61 ≤ i → gMs_at (f_X8_buyFor X h am (gDd_price x) (gDd_ui x)) i = gMs_at X i) ∧
      (gTr_st T2 = gTr_st T ∧ gTr_quote T2 = gTr_quote T ∧ gTr_day T2 = gTr_day T ∧ gTr_le T2 = gTr_le T ∧ gTr_lots T2 = gTr_lots T ∧ gTr_bu T2 = gTr_bu T) ∧ (0 ≤ (gTr_pool T2).toInt ∧ (gTr_pool T2).toInt ≤ (gTr_cash T2).toInt) ∧ (gTr_cash T2).toInt ≤ (gTr_cash T).toInt + am.toInt ∧ iH T2 ∧ (∀ j, j < 6 → uU T j ≤ uU T2 j) ∧
      (iLa x (gTr_la T) → iLa x (gTr_la T2)) ∧ gLd_sold (gTr_la T2) = gLd_sold (gTr_la T) := by
  obtain ⟨m1, m2, m3, m4⟩ := made_int hB hp ha
  have hback : RC T (vp_updL (gMs_at X) 17 (gMs_at X 17 + am)) ∧ RMd (sLd_back (gTr_la T) (gLd_back (gTr_la T) + am)) (vp_updL (gMs_at X) 17 (gMs_at X 17 + am)) ∧ ∀ i, 61 ≤ i → vp_updL (gMs_at X) 17 (gMs_at X 17 + am) i = gMs_at X i := by
    refine ⟨RC_ext hRC (fun i hi => vp_updL_n _ _ (by omega)), ⟨?_, ?_, ?_, ?_⟩, fun i hi => vp_updL_n _ _ (by omega)⟩
    · rw [vp_updL_n _ _ (by omega)]; exact hRm.1
    · rw [vp_updL_n _ _ (by omega)]; exact hRm.2.1
    · rw [vp_updL_n _ _ (by omega)]; exact hRm.2.2.1
    · rw [vp_updL_s, hRm.2.2.2]
  have hbackT : (gTr_cash T).toInt ≤ (gTr_cash T).toInt + am.toInt := by omega
  unfold f_X8_buyFor buyT
  rw [zsl_e]
  dsimp only
  rw [m3, issue_eq hRC]
  generalize mdC x am = md at m1 m2 m4
  by_cases c1 : md = 0
  · rw [if_pos c1, if_pos c1]
    exact ⟨_, rfl, hback.1, hback.2.1, hback.2.2, ⟨rfl, rfl, rfl, rfl, rfl, rfl⟩, hpc, hbackT, hH, fun j _ => Int.le_refl _, fun z => z, rfl⟩
  rw [if_neg c1, if_neg c1]
  by_cases c2 : f_X6_units T + md ≤ 1000000000
  · rw [if_pos c2, if_pos c2]
    have hu := units_int hH
    have hs : (f_X6_units T + md).toInt = uAll T + md.toInt := i64_add hu rfl (by have := uAll_nn hH; omega) (by have := hH.2; omega)
    rw [i64_le_iff, hs] at c2
    have c3 : uAll T + md.toInt ≤ 1000000000 := c2
    obtain ⟨q1, q2⟩ := made_bd hB m1 m4 m2 (by omega)
    have hby : (md * gDd_ui x).toInt = md.toInt * iI T0 := i64_mul rfl hi (by omega) (by omega)
    obtain ⟨t1, t2⟩ := make_eq hRC hh md am (gDd_ui x)
    obtain ⟨v1, v2, v3, v4, v5⟩ := make_inv hH hh (un := md) (am := am) (ofu := gDd_ui x) ⟨m1, c3⟩ ⟨hpc.1, hpc.2, by omega⟩ ⟨by omega, by omega⟩ (by rw [hby]; exact q1)
    have hT3 : ∃ cc pp ee hd, f_X6_makeUnits T h md am (gDd_ui x) = sTr_hd (sTr_even (sTr_pool (sTr_cash T cc) pp) ee) hd := ⟨_, _, _, _, rfl⟩
    obtain ⟨cc, pp, ee, hd, hT3⟩ := hT3
    have hsame : gTr_st (f_X6_makeUnits T h md am (gDd_ui x)) = gTr_st T ∧ gTr_quote (f_X6_makeUnits T h md am (gDd_ui x)) = gTr_quote T ∧ gTr_day (f_X6_makeUnits T h md am (gDd_ui x)) = gTr_day T ∧ gTr_le (f_X6_makeUnits T h md am (gDd_ui x)) = gTr_le T ∧ gTr_lots (f_X6_makeUnits T h md am (gDd_ui x)) = gTr_lots T ∧ gTr_bu (f_X6_makeUnits T h md am (gDd_ui x)) = gTr_bu T ∧ gTr_la (f_X6_makeUnits T h md am (gDd_ui x)) = gTr_la T := by
      rw [hT3]; exact ⟨rfl, rfl, rfl, rfl, rfl, rfl, rfl⟩
    generalize f_X6_makeUnits T h md am (gDd_ui x) = T3 at t1 v1 v2 v3 v4 v5 hsame ⊢
    generalize f_X8_add (f_X8_makeUnits (sMs_at X (vp_updL (gMs_at X) 5 (gMs_at X 5 + am))) h md (gDd_ui x)) h 2 am = Z at t1 t2 ⊢
    obtain ⟨a1, a2, a3, a4, a5, a6, a7⟩ := hsame
    refine ⟨_, rfl, RC_ext (T := T3) t1 (fun i hi => vp_updL_n _ _ (by omega)), ⟨?_, ?_, ?_, ?_⟩, fun i hi => (vp_updL_n _ _ (by omega)).trans (t2 i (by omega)), ⟨a1, a2, a3, a4, a5, a6⟩, v5, (by show (gTr_cash T3).toInt ≤ _; omega), v1, fun j hj => ?_, fun z => ?_, ?_⟩
    · show vp_updL (gMs_at Z) 12 (gMs_at Z 12 + md) 12 = gLd_made (gTr_la T3) + md
      rw [vp_updL_s, t2 12 (by omega), hRm.1, a7]
    · show vp_updL (gMs_at Z) 12 (gMs_at Z 12 + md) 13 = gLd_left (gTr_la T3)
      rw [vp_updL_n _ _ (by omega), t2 13 (by omega), hRm.2.1, a7]
    · show vp_updL (gMs_at Z) 12 (gMs_at Z 12 + md) 14 = (gLd_sold (gTr_la T3)).toInt64
      rw [vp_updL_n _ _ (by omega), t2 14 (by omega), hRm.2.2.1, a7]
    · show vp_updL (gMs_at Z) 12 (gMs_at Z 12 + md) 17 = gLd_back (gTr_la T3)
      rw [vp_updL_n _ _ (by omega), t2 17 (by omega), hRm.2.2.2, a7]
    · show uU T j ≤ uU T3 j
      by_cases e : j = h
      · subst e; omega
      · rw [v3 j e]; exact Int.le_refl _
    · show iLa x (sLd_made (gTr_la T3) (gLd_made (gTr_la T3) + md))
      rw [a7]
      exact z
    · show gLd_sold (gTr_la T3) = _
      rw [a7]
  · rw [if_neg c2, if_neg c2]
    exact ⟨_, rfl, hback.1, hback.2.1, hback.2.2, ⟨rfl, rfl, rfl, rfl, rfl, rfl⟩, hpc, hbackT, hH, fun j _ => Int.le_refl _, fun z => z, rfl⟩
