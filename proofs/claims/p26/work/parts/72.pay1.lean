theorem RC_ext {T : zTr} {A B : Nat → Int64} (h : RC T A) (e : ∀ i, (i < 11 ∨ 19 ≤ i ∧ i < 61) → B i = A i) : RC T B := by
  obtain ⟨r1, r5, r6, r7, r8, r9, r10, rh⟩ := h
  refine ⟨fun k hk => (e k (by omega)).trans (r1 k hk), (e 5 (by omega)).trans r5, (e 6 (by omega)).trans r6, (e 7 (by omega)).trans r7, (e 8 (by omega)).trans r8, (e 9 (by omega)).trans r9, (e 10 (by omega)).trans r10, fun j hj => ?_⟩
  rw [e _ (by omega), e _ (by omega), e _ (by omega), e _ (by omega), e _ (by omega), e _ (by omega), e _ (by omega)]
  exact rh j hj
theorem sell_RC {T : zTr} {A B : Nat → Int64} {c' : Int64} {l' : Int32} (h : RC T A) (e5 : B 5 = c') (e6 : B 6 = l'.toInt64) (e : ∀ i, i ≠ 5 → i ≠ 6 → i ≠ 14 → B i = A i) : RC (sTr_lots (sTr_cash T c') l') B := by
  obtain ⟨r1, r5, r6, r7, r8, r9, r10, rh⟩ := h
  refine ⟨fun k hk => (e k (by omega) (by omega) (by omega)).trans (r1 k hk), e5, e6, (e 7 (by omega) (by omega) (by omega)).trans r7, (e 8 (by omega) (by omega) (by omega)).trans r8, (e 9 (by omega) (by omega) (by omega)).trans r9, (e 10 (by omega) (by omega) (by omega)).trans r10, fun j hj => ?_⟩
  rw [e _ (by omega) (by omega) (by omega), e _ (by omega) (by omega) (by omega), e _ (by omega) (by omega) (by omega), e _ (by omega) (by omega) (by omega), e _ (by omega) (by omega) (by omega), e _ (by omega) (by omega) (by omega), e _ (by omega) (by omega) (by omega)]
  exact rh j hj
/-- what is given: the trust ahead of the day's end, what was taken of it, the shares -/
def ctx (T0 : zTr) (x : zDd) (sm : Nat → Int64) (due : Nat) : Prop :=
  iB T0 ∧ iO 1000000000 (gTr_le T0) ∧ (gDd_price x).toInt = pI T0 ∧ due ≤ gOd_n (gTr_le T0) ∧ (5 * (gTr_cash T0).toInt + 50000 * (gTr_lots T0).toInt ≤ 45000000000) ∧
  (∀ i, i < due → sm i = gDd_sh x i ∧ 0 ≤ (gDd_sh x i).toInt ∧ (gDd_sh x i).toInt ≤ (gOd_sz (gTr_le T0) i).toInt) ∧ (∀ i, due ≤ i → i < 20 → sm i = 0) ∧ iO 1000000 (gTr_bu T0)
def iSd (T0 T : zTr) : Prop := (gLd_sold (gTr_la T)).toInt = (gTr_lots T0).toInt - (gTr_lots T).toInt
/-- the holder of an order -/
def hJ (T0 : zTr) (k : Nat) : Nat := (gOd_ho (gTr_le T0) k).toNatClampNeg
theorem hJ_of {T0 : zTr} {mx : Int} (hO : iO mx (gTr_le T0)) {k : Nat} (hk : k < gOd_n (gTr_le T0)) : gOd_ho (gTr_le T0) k = nI (hJ T0 k) ∧ hJ T0 k < 6 := ⟨xho_eq (hO.2.1 k hk).1, xho_lt (hO.2.1 k hk).1⟩
/-- the next share's bounds -/
theorem share_in {T0 T : zTr} {x : zDd} {sm : Nat → Int64} {due k : Nat} (hc : ctx T0 x sm due) (hP : iP T0 T k) (hk : k < due) :
    0 ≤ (gDd_sh x k).toInt ∧ (gDd_sh x k).toInt ≤ (gOd_sz (gTr_le T) k).toInt ∧ (gOd_sz (gTr_le T) k).toInt ≤ hS (gTr_le T) (hJ T0 k) ∧ (gDd_sh x k).toInt ≤ uU T (hJ T0 k) ∧ (gDd_sh x k).toInt ≤ uAll T0 ∧ (gDd_sh x k * gDd_price x / 1000).toInt = (gDd_sh x k).toInt * pI T0 / 1000 ∧ 0 ≤ (gDd_sh x k).toInt * pI T0 ∧ (gDd_sh x k).toInt * pI T0 ≤ 20020000000000 := by
  obtain ⟨hB, hO, hp, hd, hb, hs, -⟩ := hc
  obtain ⟨⟨e1, e2, e3, e4, e5, e6, e7⟩, -, -, -, hH, hU, hE, hz⟩ := hP
  obtain ⟨s1, s2, s3⟩ := hs k hk
  obtain ⟨j1, j2⟩ := hJ_of hO (k := k) (by omega)
  have z1 := (hz k (by omega)).1 (Nat.le_refl _)
  have q1 : (gOd_sz (gTr_le T) k).toInt ≤ hS (gTr_le T) (hJ T0 k) := hS_ge (fun i hi => (hz i (by omega)).2.1) (by omega) (by rw [e6]; exact j1)
  have q2 := hE (hJ T0 k) j2
  have q3 := uU_le hH j2
  obtain ⟨b1, b2⟩ := share_bd hB (s := (gDd_sh x k).toInt) s2 (by rw [← z1] at s3; omega)
  rw [← z1] at s3
  exact ⟨s2, s3, q1, by omega, by omega, i64_div (i64_mul rfl hp (by omega) (by omega)) rfl b1 (by decide), b1, b2⟩
theorem iP_cash {T0 T : zTr} {x : zDd} {sm : Nat → Int64} {due k : Nat} (hc : ctx T0 x sm due) (hP : iP T0 T k) : (gTr_cash T).toInt ≤ 9000000000 := by
  have h1 := hP.2.2.2.1 50000 (by have := hc.1.2.2.1.2; omega)
  have h2 := hP.2.1.1
  have h3 := hc.2.2.2.2.1
  omega
theorem add_sh (S : zMs) (h w : Nat) (x : Int64) : gMs_sh (f_X8_add S h w x) = gMs_sh S := rfl
theorem go_sh (S : zMs) (h : Nat) (m i : Int64) : gMs_sh (f_X8_goUnits S h m i) = gMs_sh S := by rw [f_go_form]
theorem at_sh (S : zMs) (A : Nat → Int64) : gMs_sh (sMs_at S A) = gMs_sh S := rfl
/-- the reference's paying of one who leaves -/
noncomputable def payX (X1 : zMs) (j k : Nat) (s a inc : Int64) : zMs :=
  let Z := f_X8_add (f_X8_goUnits (sMs_at X1 (vp_updL (gMs_at X1) 5 (gMs_at X1 5 - a))) j s inc) j 3 a
  sMs_at Z (vp_updL (vp_updL (gMs_at Z) (123 + 3 * k + 1) (gMs_at Z (123 + 3 * k + 1) - s)) 13 (vp_updL (gMs_at Z) (123 + 3 * k + 1) (gMs_at Z (123 + 3 * k + 1) - s) 13 + s))
theorem pay1_mod {X : zMs} {price inc s a : Int64} {j k : Nat} (hn : k < zcn X 122) (hs : gMs_sh X k = s) (h0 : 0 < s.toInt) (hj : zho X k = j) (ha : s * price / 1000 = a) : L_X8_pay1 price inc (0 + 1) X true k = ((if gMs_at (f_X8_sellFor X a) 5 < a then f_X8_sellFor X a else payX (f_X8_sellFor X a) j k s a inc), (if gMs_at (f_X8_sellFor X a) 5 < a then false else true), k + 1) := by
  have c0 : ¬ s ≤ 0 := by rw [i64_le_iff]; show ¬ _ ≤ (0 : Int); omega
  have hss : gMs_sh (f_X8_sellFor X a) k = s := by rw [f_sell_form]; exact hs
  rw [L_X8_pay1_s, if_neg (by omega), if_neg (by decide)]
  dsimp only
  rw [hs, if_neg c0, if_neg c0, ha, hj, hss, if_neg c0]
  generalize hX1 : f_X8_sellFor X a = X1 at hss
  have hZ : gMs_sh (f_X8_add (f_X8_goUnits (sMs_at X1 (vp_updL (gMs_at X1) 5 (gMs_at X1 5 - a))) j s inc) j 3 a) k = s := by
    rw [add_sh, go_sh]; exact hss
  rw [hZ]
  by_cases c : gMs_at X1 5 < a
  · rw [if_pos c, if_pos c, if_pos rfl]; rfl
  · rw [if_neg c, if_neg c, if_neg (by decide)]; rfl
theorem form_at {S0 X : zMs} {sm : Nat → Int64} (hX : X = sMs_sh (sMs_at S0 (gMs_at X)) sm) (A : Nat → Int64) : sMs_at X A = sMs_sh (sMs_at S0 A) sm := by
  rw [hX]
/-- one who leaves -/
theorem pay_step {S0 : zMs} {T0 T : zTr} {x : zDd} {sm : Nat → Int64} {due k : Nat} {X : zMs} (hc : ctx T0 x sm due) (hP : iP T0 T k) (hL : iLa x (gTr_la T)) (hD : iSd T0 T) (hR : simD S0 sm T X) (hk : k < due) (hs : 0 < (gDd_sh x k).toInt) :
    (L_X8_pay1 (gDd_price x) (gDd_ui x) (0 + 1) X true k).2.1 = (f_X0_payLeaver x T k).1 ∧ (L_X8_pay1 (gDd_price x) (gDd_ui x) (0 + 1) X true k).2.2 = k + 1 ∧ simD S0 sm (f_X0_payLeaver x T k).2 (L_X8_pay1 (gDd_price x) (gDd_ui x) (0 + 1) X true k).1 ∧ iP T0 (f_X0_payLeaver x T k).2 (k + 1) ∧ iLa x (gTr_la (f_X0_payLeaver x T k).2) ∧ iSd T0 (f_X0_payLeaver x T k).2 := by
  obtain ⟨s1, s2, s3, s4, s5, s6, s7, s8⟩ := share_in hc hP hk
  have hcash := iP_cash hc hP
  obtain ⟨hB, hO, hp, hd, hb, hsh, -, hOb⟩ := hc
  have hsm := (hsh k hk).1
  obtain ⟨j1, j2⟩ := hJ_of hO (k := k) (by omega)
  obtain ⟨⟨e1, e2, e3, e4, e5, e6, e7⟩, hl, hpc, hW, hH, hU, hE, hz⟩ := hP
  obtain ⟨hX, hRC, hRb, hRl, hRm⟩ := hR
  have hn20 := hO.1
  have hst4 := hB.1 4 (by omega)
  rw [zGi4, ← e1] at hst4
  have hq := hB.2.2.1
  rw [← e2] at hq
  generalize ha : gDd_sh x k * gDd_price x / 1000 = a at s6
  obtain ⟨n, c', l', f1, f2, f3, f4, f5, f6, f7, f8⟩ := sell_eq (am := a) hRC hq hst4 hl ⟨by omega, by omega⟩ ⟨by omega, by omega⟩
  obtain ⟨-, br1, br2⟩ := br_int hq hst4
  generalize brB (gTr_quote T).toInt (gTr_st T 4).toInt = b at f2 br1 br2
  have hnb : (n : Int) * b ≤ (n : Int) * (gTr_quote T).toInt := Int.mul_le_mul_of_nonneg_left br2 (by omega)
  have hnb0 : 0 ≤ (n : Int) * b := Int.mul_nonneg (by omega) br1
  have hnW : ∀ W : Int, 5 * (gTr_quote T0).toInt ≤ W → 5 * ((n : Int) * b) ≤ W * (n : Int) := fun W hW => by
    rw [← e2] at hW
    have q1 : (n : Int) * (5 * (gTr_quote T).toInt) ≤ (n : Int) * W := Int.mul_le_mul_of_nonneg_left hW (by omega)
    rw [Int.mul_left_comm] at q1
    rw [Int.mul_comm W]
    omega
  -- the reference's step
  have hzn : zcn X 122 = gOd_n (gTr_le T0) := by rw [zcn_o hRl (by omega), e5]
  have hshX : gMs_sh X = sm := by rw [hX]
  have c0 : 0 < sm k := by rw [hsm, i64_lt_iff]; exact hs
  have hzho : zho X k = hJ T0 k := by
    unfold zho
    rw [(ofO_eq hRl (by omega)).2.2, e6, j1, i32_l, nI_int (by omega)]
    rfl
  have hss : gMs_sh X k = gDd_sh x k := by rw [hshX, hsm]
  rw [pay1_mod (by omega) hss hs hzho ha, f5]
  generalize hX1 : f_X8_sellFor X a = X1 at f5 f6 f7 f8
  have hX1f : X1 = sMs_sh (sMs_at S0 (gMs_at X1)) sm := by
    have h := f_sell_form X a
    rw [hX1] at h
    exact h.trans (form_at hX _)
  -- the class's step
  generalize hj : hJ T0 k = j at j1 j2 s3 s4
  generalize hs0 : gDd_sh x k = s at s1 s2 s4 s5 s6 s7 s8 hs ha hsm hss
  have hla14 : (gLd_sold (gTr_la T) + nI n).toInt = (gTr_lots T0).toInt - l'.toInt ∧ gMs_at X1 14 = (gLd_sold (gTr_la T) + nI n).toInt64 := by
    have hl0 := hB.2.1
    have q1 : (gLd_sold (gTr_la T) + nI n).toInt = (gLd_sold (gTr_la T)).toInt + (n : Int) := i32_add rfl (nI_int (by omega)) (by unfold iSd at hD; omega) (by unfold iSd at hD; omega)
    refine ⟨by rw [q1]; unfold iSd at hD; omega, ?_⟩
    rw [f7, hRm.2.2.1]
    apply i64_eq_iff.mpr
    rw [i32_l, q1]
    exact i64_add (i32_l _) (lN_int (by omega)) (by unfold iSd at hD; omega) (by unfold iSd at hD; omega)
  have hRC1 : RC (sTr_lots (sTr_cash T c') l') (gMs_at X1) := sell_RC hRC f5 f6 f8
  have hcls : f_X0_payLeaver x T k = (if a ≤ c' then (true, sTr_la (sTr_le (f_X6_takeUnits (sTr_la (sTr_lots (sTr_cash T c') l') (sLd_sold (gTr_la T) (gLd_sold (gTr_la T) + nI n))) j s a (gDd_ui x)) (sOd_sz (gTr_le T) (upd (gOd_sz (gTr_le T)) k (gOd_sz (gTr_le T) k - s.toInt32)))) (sLd_still (sLd_left (sLd_sold (gTr_la T) (gLd_sold (gTr_la T) + nI n)) (gLd_left (gTr_la T) + s)) (gLd_still (gTr_la T) - s))) else (false, sTr_la (sTr_lots (sTr_cash T c') l') (sLd_sold (gTr_la T) (gLd_sold (gTr_la T) + nI n)))) := by
    unfold f_X0_payLeaver
    rw [hs0, ha, f1]
    have : (gOd_ho (gTr_le (sTr_lots (sTr_cash T c') l')) k).toNatClampNeg = j := by
      show (gOd_ho (gTr_le T) k).toNatClampNeg = j
      rw [e6]; exact hj
    dsimp only
    rw [this]
    rfl
  rw [hcls]
  have hRb1 : RO 61 (gTr_bu T) (gMs_at X1) := by
    refine ⟨(f8 _ (by omega) (by omega) (by omega)).trans hRb.1, fun i hi => ?_⟩
    rw [f8 _ (by omega) (by omega) (by omega), f8 _ (by omega) (by omega) (by omega), f8 _ (by omega) (by omega) (by omega)]
    exact hRb.2 i hi
  have hRl1 : RO 122 (gTr_le T) (gMs_at X1) := RO_ext (by omega) hRl (fun i _ _ => f8 i (by omega) (by omega) (by omega))
  by_cases c : c' < a
  · rw [if_pos c, if_pos c, if_neg (Int64.not_le.mpr c)]
    refine ⟨rfl, rfl, ⟨hX1f, hRC1, hRb1, hRl1, ?_⟩, ?_, ?_, hla14.1⟩
    · exact ⟨(f8 12 (by omega) (by omega) (by omega)).trans hRm.1, (f8 13 (by omega) (by omega) (by omega)).trans hRm.2.1, hla14.2, (f8 17 (by omega) (by omega) (by omega)).trans hRm.2.2.2⟩
    · refine ⟨⟨e1, e2, e3, e4, e5, e6, e7⟩, (by show 0 ≤ l'.toInt ∧ l'.toInt ≤ 1000; omega), ?_, fun W hw => ?_, hH, hU, hE, fun i hi => ⟨fun q => (hz i hi).1 (by omega), (hz i hi).2⟩⟩
      · show 0 ≤ (gTr_pool T).toInt ∧ (gTr_pool T).toInt ≤ c'.toInt
        omega
      · have q1 := hW W hw
        have q2 := hnW W hw
        show 5 * c'.toInt + W * l'.toInt ≤ _
        rw [f2, f3, Int.mul_sub]
        omega
    · exact hL
  · rw [if_neg c, if_neg c, if_pos (Int64.not_lt.mp c)]
    have hca : a.toInt ≤ c'.toInt := by rw [i64_lt_iff] at c; omega
    generalize hT2 : sTr_la (sTr_lots (sTr_cash T c') l') (sLd_sold (gTr_la T) (gLd_sold (gTr_la T) + nI n)) = T2
    have hRC2 : RC T2 (gMs_at X1) := by rw [← hT2]; exact hRC1
    have hH2 : iH T2 := by rw [← hT2]; exact hH
    have hu2 : ∀ i, uU T2 i = uU T i := fun i => by rw [← hT2]; rfl
    have hcash2 : gTr_cash T2 = c' := by rw [← hT2]
    obtain ⟨t1, t2⟩ := take_eq (am := a) (ofu := gDd_ui x) hRC2 hH2 j2 (un := s) ⟨s1, by rw [hu2]; exact s4⟩
    obtain ⟨v1, v2, v3, v4, v5⟩ := take_inv (am := a) (ofu := gDd_ui x) hH2 j2 (un := s) ⟨s1, by rw [hu2]; exact s4⟩ ⟨by omega, by rw [hcash2]; exact hca⟩
    have hT3 : ∃ cc pp ee hh, f_X6_takeUnits T2 j s a (gDd_ui x) = sTr_hd (sTr_even (sTr_pool (sTr_cash T2 cc) pp) ee) hh := ⟨_, _, _, _, rfl⟩
    obtain ⟨cc, pp, ee, hh, hT3⟩ := hT3
    have hlots3 : gTr_lots (f_X6_takeUnits T2 j s a (gDd_ui x)) = l' := by rw [hT3, ← hT2]
    have hst3 : gTr_st (f_X6_takeUnits T2 j s a (gDd_ui x)) = gTr_st T ∧ gTr_quote (f_X6_takeUnits T2 j s a (gDd_ui x)) = gTr_quote T ∧ gTr_day (f_X6_takeUnits T2 j s a (gDd_ui x)) = gTr_day T ∧ gTr_bu (f_X6_takeUnits T2 j s a (gDd_ui x)) = gTr_bu T := by
      rw [hT3, ← hT2]; exact ⟨rfl, rfl, rfl, rfl⟩
    generalize f_X6_takeUnits T2 j s a (gDd_ui x) = T3 at t1 v1 v2 v3 v4 v5 hlots3 hst3 ⊢
    unfold payX
    dsimp only
    have hZf : f_X8_add (f_X8_goUnits (sMs_at X1 (vp_updL (gMs_at X1) 5 (gMs_at X1 5 - a))) j s (gDd_ui x)) j 3 a = sMs_at X1 (gMs_at (f_X8_add (f_X8_goUnits (sMs_at X1 (vp_updL (gMs_at X1) 5 (gMs_at X1 5 - a))) j s (gDd_ui x)) j 3 a)) := by
      conv => lhs; rw [f_go_form]
      rw [f_go_form]
      rfl
    generalize f_X8_add (f_X8_goUnits (sMs_at X1 (vp_updL (gMs_at X1) 5 (gMs_at X1 5 - a))) j s (gDd_ui x)) j 3 a = Z at t1 t2 hZf ⊢
    have hZ0 : Z = sMs_sh (sMs_at S0 (gMs_at Z)) sm := hZf.trans (form_at hX1f _)
    generalize hA : vp_updL (vp_updL (gMs_at Z) (123 + 3 * k + 1) (gMs_at Z (123 + 3 * k + 1) - s)) 13 (vp_updL (gMs_at Z) (123 + 3 * k + 1) (gMs_at Z (123 + 3 * k + 1) - s) 13 + s) = A
    have a13 : A 13 = gMs_at Z 13 + s := by rw [← hA, vp_updL_s, vp_updL_n _ _ (by omega)]
    have ak : A (123 + 3 * k + 1) = gMs_at Z (123 + 3 * k + 1) - s := by rw [← hA, vp_updL_n _ _ (by omega), vp_updL_s]
    have ao : ∀ i, i ≠ 13 → i ≠ 123 + 3 * k + 1 → A i = gMs_at Z i := fun i h1 h2 => by rw [← hA, vp_updL_n _ _ h1, vp_updL_n _ _ h2]
    have hsz : (gOd_sz (gTr_le T) k - s.toInt32).toInt = (gOd_sz (gTr_le T) k).toInt - s.toInt := by
      have q := i32_lt (a := gOd_sz (gTr_le T) k)
      exact i32_sub rfl (l_i32 (by omega) (by omega)) (by omega) (by omega)
    have hbu20 : gOd_n (gTr_bu T) ≤ 20 := by rw [e4]; exact hOb.1
    have hF : ∀ i, i ≠ k → upd (gOd_sz (gTr_le T)) k (gOd_sz (gTr_le T) k - s.toInt32) i = gOd_sz (gTr_le T) i := fun i hi => by rw [upd_at, if_neg hi]
    have hFk : upd (gOd_sz (gTr_le T)) k (gOd_sz (gTr_le T) k - s.toInt32) k = gOd_sz (gTr_le T) k - s.toInt32 := by rw [upd_at, if_pos rfl]
    generalize upd (gOd_sz (gTr_le T)) k (gOd_sz (gTr_le T) k - s.toInt32) = F at hF hFk
    have hu3 : uAll T3 = uAll T - s.toInt := by
      show isum (uU T3) 6 = isum (uU T) 6 - _
      rw [isum_upd (f := uU T) 6 j j2 (fun i _ hi => (v3 i hi).trans (hu2 i)), v2, hu2]; omega
    refine ⟨rfl, rfl, ⟨form_at hZ0 A, ?_, ?_, ?_, ?_⟩, ?_, ?_, ?_⟩
    · exact RC_ext (T := T3) t1 (fun i hi => ao i (by omega) (by omega))
    · show RO 61 (gTr_bu T3) A
      rw [hst3.2.2.2]
      exact RO_ext hbu20 hRb1 (fun i h1 h2 => (ao i (by omega) (by omega)).trans (t2 i (by omega)))
    · refine ⟨((ao 122 (by omega) (by omega)).trans (t2 122 (by omega))).trans hRl1.1, fun i hi => ?_⟩
      obtain ⟨w0, w1, w2⟩ := hRl1.2 i hi
      refine ⟨((ao _ (by omega) (by omega)).trans (t2 _ (by omega))).trans w0, ?_, ((ao _ (by omega) (by omega)).trans (t2 _ (by omega))).trans w2⟩
      show A (122 + 1 + 3 * i + 1) = (F i).toInt64
      by_cases q : i = k
      · subst q
        rw [hFk, show 122 + 1 + 3 * i + 1 = 123 + 3 * i + 1 by omega, ak, t2 _ (by omega)]
        rw [show 122 + 1 + 3 * i + 1 = 123 + 3 * i + 1 by omega] at w1
        rw [w1]
        apply i64_eq_iff.mpr
        have q := i32_lt (a := gOd_sz (gTr_le T) i)
        rw [i32_l, hsz, i64_sub (i32_l _) rfl (by omega) (by omega)]
      · rw [hF i q]
        exact ((ao _ (by omega) (by omega)).trans (t2 _ (by omega))).trans w1
    · refine ⟨((ao 12 (by omega) (by omega)).trans (t2 12 (by omega))).trans ((f8 12 (by omega) (by omega) (by omega)).trans hRm.1), ?_, ((ao 14 (by omega) (by omega)).trans (t2 14 (by omega))).trans hla14.2, ((ao 17 (by omega) (by omega)).trans (t2 17 (by omega))).trans ((f8 17 (by omega) (by omega) (by omega)).trans hRm.2.2.2)⟩
      show A 13 = gLd_left (gTr_la T) + s
      rw [a13, t2 13 (by omega), f8 13 (by omega) (by omega) (by omega), hRm.2.1]
    · refine ⟨⟨hst3.1.trans e1, hst3.2.1.trans e2, hst3.2.2.1.trans e3, hst3.2.2.2.trans e4, e5, e6, e7⟩, ?_, ⟨v5.1, v5.2⟩, fun W hw => ?_, v1, ?_, fun h hh => ?_, fun i hi => ?_⟩
      · show 0 ≤ (gTr_lots T3).toInt ∧ (gTr_lots T3).toInt ≤ 1000
        rw [hlots3]; omega
      · have q1 := hW W hw
        have q2 := hnW W hw
        show 5 * (gTr_cash T3).toInt + W * (gTr_lots T3).toInt ≤ _
        have e9 : W * ((gTr_lots T).toInt - (n : Int)) = W * (gTr_lots T).toInt - W * (n : Int) := Int.mul_sub _ _ _
        rw [hlots3, v4, hcash2, f2, f3, e9]
        omega
      · show uAll T3 ≤ _
        omega
      · show hS (sOd_sz (gTr_le T) F) h ≤ uU T3 h
        rw [hS_upd (o := gTr_le T) (o' := sOd_sz (gTr_le T) F) rfl rfl (i := k) (by omega) hF h]
        show _ - (if _ then _ - (F k).toInt else 0) ≤ _
        rw [hFk, hsz]
        by_cases q : h = j
        · subst q
          rw [if_pos (by rw [e6]; exact j1), v2, hu2]
          have := hE h hh
          omega
        · rw [if_neg (by rw [e6, j1, nI_eq (by omega) (by omega)]; omega), v3 h q, hu2]
          have := hE h hh
          omega
      · show (k + 1 ≤ i → F i = gOd_sz (gTr_le T0) i) ∧ 0 ≤ (F i).toInt ∧ (F i).toInt ≤ _
        by_cases q : i = k
        · subst q
          rw [hFk, hsz]
          have := (hz i hi).2
          exact ⟨fun z => by omega, by omega, by omega⟩
        · rw [hF i q]
          exact ⟨fun z => (hz i hi).1 (by omega), (hz i hi).2⟩
    · refine ⟨hL.1, hL.2.1, hL.2.2.1, ?_⟩
      show gLd_still (gTr_la T) - s = gDd_wanted x - (gLd_left (gTr_la T) + s)
      rw [hL.2.2.2, i64_sub_sub]
    · show (gLd_sold (gTr_la T) + nI n).toInt = _ - (gTr_lots T3).toInt
      rw [hlots3]; exact hla14.1
