/-! a payment -/
/-- what a holder is paid, and how he stands then -/
noncomputable def pmH (ui : Int64) (x : zHd) : Int64 := f_X2_units x * ui / 1000
noncomputable def payH (ev ui : Int64) (x : zHd) : zHd := sHd_eve (sHd_inc (sHd_new (sHd_old x (gHd_old x + gHd_new x)) 0) (gHd_inc x + pmH ui x)) (gHd_eve x + (if pmH ui x < gHd_new x * ev / 1000 then pmH ui x else gHd_new x * ev / 1000))
theorem L_pay_at (t : zTr) (ev ui nw : Int64) : ∀ (m j : Nat) (hd : Nat → zHd) (al : Int64), j + m = 6 → (∀ i, (L_X6_pay t ev ui nw (m + 1) hd al j).1 i = if j ≤ i ∧ i < 6 then payH ev ui (hd i) else hd i) ∧ (L_X6_pay t ev ui nw (m + 1) hd al j).2.1 = al + zsum (fun k => pmH ui (hd (j + k))) m := by
  intro m
  induction m with
  | zero =>
    intro j hd al h
    rw [L_X6_pay_s, if_pos (by omega)]
    refine ⟨fun i => by rw [if_neg (by omega)], ?_⟩
    show al = al + 0
    rw [Int64.add_zero]
  | succ m ih =>
    intro j hd al h
    rw [L_X6_pay_s, if_neg (by omega), zsum_cons]
    dsimp only
    have e : ∀ A : Nat → zHd, A = zup hd j (payH ev ui (hd j)) → (∀ i, (L_X6_pay t ev ui nw (m + 1) A (al + pmH ui (hd j)) (j + 1)).1 i = if j ≤ i ∧ i < 6 then payH ev ui (hd i) else hd i) ∧ (L_X6_pay t ev ui nw (m + 1) A (al + pmH ui (hd j)) (j + 1)).2.1 = al + (pmH ui (hd (j + 0)) + zsum (fun k => pmH ui (hd (j + (k + 1)))) m) := by
      intro A hA
      obtain ⟨h1, h2⟩ := ih (j + 1) A (al + pmH ui (hd j)) (by omega)
      refine ⟨fun i => ?_, ?_⟩
      · rw [h1 i, hA, zup_at]
        by_cases c : j + 1 ≤ i ∧ i < 6
        · rw [if_pos c, if_pos (show j ≤ i ∧ i < 6 by omega), if_neg (show ¬ i = j by omega)]
        · rw [if_neg c]
          by_cases e : i = j
          · subst e; rw [if_pos rfl, if_pos (show i ≤ i ∧ i < 6 by omega)]
          · rw [if_neg e, if_neg (show ¬ (j ≤ i ∧ i < 6) by omega)]
      · rw [h2, Int64.add_assoc]
        congr 2
        refine zsum_congr m (fun k _ => ?_)
        rw [hA, zup_at, if_neg (by omega), show j + 1 + k = j + (k + 1) by omega]
    exact e _ rfl
theorem L_tp1_at (S : zMs) (b : Bool) (ev ui : Int64) (hu : f_X8_incomeOfUnit (f_X8_keepIf S b) = ui) : ∀ (m j : Nat) (X : zMs) (al : Int64), j + m = 6 →
    (∀ h, h < 6 → gMs_at (L_X8_tp1 S b ev (m + 1) X al j).1 (19 + 7 * h + 4) = (if j ≤ h then gMs_at X (19 + 7 * h + 4) + f_X8_units X h * ui / 1000 else gMs_at X (19 + 7 * h + 4)) ∧ gMs_at (L_X8_tp1 S b ev (m + 1) X al j).1 (19 + 7 * h + 5) = (if j ≤ h then gMs_at X (19 + 7 * h + 5) + (if f_X8_units X h * ui / 1000 < f_X8_of X h 1 * ev / 1000 then f_X8_units X h * ui / 1000 else f_X8_of X h 1 * ev / 1000) else gMs_at X (19 + 7 * h + 5))) ∧
    (∀ i, (∀ h, h < 6 → i ≠ 19 + 7 * h + 4 ∧ i ≠ 19 + 7 * h + 5) → gMs_at (L_X8_tp1 S b ev (m + 1) X al j).1 i = gMs_at X i) ∧ (L_X8_tp1 S b ev (m + 1) X al j).2.1 = al + zsum (fun k => f_X8_units X (j + k) * ui / 1000) m ∧ (L_X8_tp1 S b ev (m + 1) X al j).1 = sMs_at X (gMs_at (L_X8_tp1 S b ev (m + 1) X al j).1) := by
  intro m
  induction m with
  | zero =>
    intro j X al h
    rw [L_X8_tp1_s, if_pos (by omega)]
    refine ⟨fun h hh => ⟨by rw [if_neg (by omega)], by rw [if_neg (by omega)]⟩, fun i _ => rfl, ?_, rfl⟩
    show al = al + 0
    rw [Int64.add_zero]
  | succ m ih =>
    intro j X al h
    rw [L_X8_tp1_s, if_neg (by omega), zsum_cons]
    dsimp only
    rw [hu, i64_min2]
    generalize hY : f_X8_add (f_X8_add X j 4 (f_X8_units X j * ui / 1000)) j 5 (if f_X8_units X j * ui / 1000 < f_X8_of X j 1 * ev / 1000 then f_X8_units X j * ui / 1000 else f_X8_of X j 1 * ev / 1000) = Y
    have y4 : gMs_at Y (19 + 7 * j + 4) = gMs_at X (19 + 7 * j + 4) + f_X8_units X j * ui / 1000 := by rw [← hY, f_add_at _ (by omega), f_add_s]
    have y5 : gMs_at Y (19 + 7 * j + 5) = gMs_at X (19 + 7 * j + 5) + (if f_X8_units X j * ui / 1000 < f_X8_of X j 1 * ev / 1000 then f_X8_units X j * ui / 1000 else f_X8_of X j 1 * ev / 1000) := by rw [← hY, f_add_s, f_add_at _ (by omega)]
    have yo : ∀ i, i ≠ 19 + 7 * j + 4 → i ≠ 19 + 7 * j + 5 → gMs_at Y i = gMs_at X i := fun i a c => by rw [← hY, f_add_at _ c, f_add_at _ a]
    have yu : ∀ h, f_X8_units Y h = f_X8_units X h := fun h => by
      show gMs_at Y (19 + 7 * h + 0) + gMs_at Y (19 + 7 * h + 1) = gMs_at X (19 + 7 * h + 0) + gMs_at X (19 + 7 * h + 1)
      rw [yo _ (by omega) (by omega), yo _ (by omega) (by omega)]
    have yn : ∀ h, f_X8_of Y h 1 = f_X8_of X h 1 := fun h => yo _ (by omega) (by omega)
    have yf : Y = sMs_at X (gMs_at Y) := by rw [← hY]; rfl
    obtain ⟨h1, h2, h3, h4⟩ := ih (j + 1) Y (al + f_X8_units X j * ui / 1000) (by omega)
    refine ⟨fun h hh => ?_, fun i hi => ?_, ?_, h4.trans (by rw [yf])⟩
    · obtain ⟨q1, q2⟩ := h1 h hh
      rw [q1, q2, yu, yn]
      by_cases c : j + 1 ≤ h
      · rw [if_pos c, if_pos c, if_pos (show j ≤ h by omega), if_pos (show j ≤ h by omega), yo _ (by omega) (by omega), yo _ (by omega) (by omega)]
        exact ⟨rfl, rfl⟩
      · rw [if_neg c, if_neg c]
        by_cases e : h = j
        · subst e
          rw [if_pos (Nat.le_refl _), if_pos (Nat.le_refl _)]
          exact ⟨y4, y5⟩
        · rw [if_neg (show ¬ j ≤ h by omega), if_neg (show ¬ j ≤ h by omega), yo _ (by omega) (by omega), yo _ (by omega) (by omega)]
          exact ⟨rfl, rfl⟩
    · rw [h2 i hi]
      obtain ⟨q1, q2⟩ := hi j (by omega)
      exact yo i q1 q2
    · rw [h3, Int64.add_assoc]
      congr 2
      refine zsum_congr m (fun k _ => ?_)
      rw [yu, show j + 1 + k = j + (k + 1) by omega]
theorem L_tp2_at : ∀ (m j : Nat) (X : zMs), j + m = 6 →
    (∀ h, h < 6 → gMs_at (L_X8_tp2 (m + 1) X j).1 (19 + 7 * h + 0) = (if j ≤ h then gMs_at X (19 + 7 * h + 0) + gMs_at X (19 + 7 * h + 1) else gMs_at X (19 + 7 * h + 0)) ∧ gMs_at (L_X8_tp2 (m + 1) X j).1 (19 + 7 * h + 1) = (if j ≤ h then 0 else gMs_at X (19 + 7 * h + 1))) ∧
    (∀ i, (∀ h, h < 6 → i ≠ 19 + 7 * h + 0 ∧ i ≠ 19 + 7 * h + 1) → gMs_at (L_X8_tp2 (m + 1) X j).1 i = gMs_at X i) ∧ (L_X8_tp2 (m + 1) X j).1 = sMs_at X (gMs_at (L_X8_tp2 (m + 1) X j).1) := by
  intro m
  induction m with
  | zero =>
    intro j X h
    rw [L_X8_tp2_s, if_pos (by omega)]
    exact ⟨fun h hh => ⟨by rw [if_neg (by omega)], by rw [if_neg (by omega)]⟩, fun i _ => rfl, rfl⟩
  | succ m ih =>
    intro j X h
    rw [L_X8_tp2_s, if_neg (by omega)]
    generalize hY : f_X8_add (f_X8_add X j 0 (f_X8_of X j 1)) j 1 (-f_X8_of X j 1) = Y
    have y0 : gMs_at Y (19 + 7 * j + 0) = gMs_at X (19 + 7 * j + 0) + gMs_at X (19 + 7 * j + 1) := by rw [← hY, f_add_at _ (by omega), f_add_s]; rfl
    have y1 : gMs_at Y (19 + 7 * j + 1) = 0 := by
      rw [← hY, f_add_s, f_add_at _ (by omega)]
      show gMs_at X (19 + 7 * j + 1) + -gMs_at X (19 + 7 * j + 1) = 0
      rw [← Int64.sub_eq_add_neg, Int64.sub_self]
    have yo : ∀ i, i ≠ 19 + 7 * j + 0 → i ≠ 19 + 7 * j + 1 → gMs_at Y i = gMs_at X i := fun i a c => by rw [← hY, f_add_at _ c, f_add_at _ a]
    have yf : Y = sMs_at X (gMs_at Y) := by rw [← hY]; rfl
    obtain ⟨h1, h2, h4⟩ := ih (j + 1) Y (by omega)
    refine ⟨fun h hh => ?_, fun i hi => ?_, h4.trans (by rw [yf])⟩
    · obtain ⟨q1, q2⟩ := h1 h hh
      rw [q1, q2]
      by_cases c : j + 1 ≤ h
      · rw [if_pos c, if_pos c, if_pos (show j ≤ h by omega), if_pos (show j ≤ h by omega), yo _ (by omega) (by omega), yo _ (by omega) (by omega)]
        exact ⟨rfl, rfl⟩
      · rw [if_neg c, if_neg c]
        by_cases e : h = j
        · subst e
          rw [if_pos (Nat.le_refl _), if_pos (Nat.le_refl _)]
          exact ⟨y0, y1⟩
        · rw [if_neg (show ¬ j ≤ h by omega), if_neg (show ¬ j ≤ h by omega), yo _ (by omega) (by omega), yo _ (by omega) (by omega)]
          exact ⟨rfl, rfl⟩
    · rw [h2 i hi]
      obtain ⟨q1, q2⟩ := hi j (by omega)
      exact yo i q1 q2
theorem pm_bd {T : zTr} (hB : iB T) : (∀ h, h < 6 → (pmH (f_X6_unitIncome T) (gTr_hd T h)).toInt = uU T h * iI T / 1000 ∧ 0 ≤ uU T h * iI T) ∧ (zsum (fun h => pmH (f_X6_unitIncome T) (gTr_hd T h)) 6).toInt = isum (fun h => uU T h * iI T / 1000) 6 ∧ 0 ≤ isum (fun h => uU T h * iI T / 1000) 6 ∧ isum (fun h => uU T h * iI T / 1000) 6 ≤ (gTr_pool T).toInt := by
  have hH := hB.2.2.2.2
  have hp := hB.2.2.2.1
  have hi := ui_int hB
  have h0 := (mI_bd hB).2.2.1
  have htot : uAll T * iI T ≤ 1000 * (gTr_pool T).toInt := by
    unfold iI
    by_cases c : uAll T ≤ 0
    · rw [if_pos c, Int.mul_zero]; omega
    · rw [if_neg c, Int.mul_comm]; exact Int.ediv_mul_le _ (by omega)
  have hb : ∀ h, h < 6 → 0 ≤ uU T h * iI T ∧ uU T h * iI T ≤ 1000 * (gTr_pool T).toInt := fun h hh =>
    ⟨Int.mul_nonneg (uU_nn hH h hh) h0, Int.le_trans (Int.mul_le_mul_of_nonneg_right (uU_le hH hh) h0) htot⟩
  have h1 : ∀ h, h < 6 → (pmH (f_X6_unitIncome T) (gTr_hd T h)).toInt = uU T h * iI T / 1000 := fun h hh => by
    have := hb h hh
    exact i64_div (i64_mul (hunits_int hH hh) hi (by omega) (by omega)) rfl this.1 (by decide)
  have hs : 1000 * isum (fun h => uU T h * iI T / 1000) 6 ≤ uAll T * iI T := by
    have q : ∀ n : Nat, n ≤ 6 → 1000 * isum (fun h => uU T h * iI T / 1000) n ≤ isum (uU T) n * iI T := by
      intro n
      induction n with
      | zero => intro _; show (1000 : Int) * 0 ≤ 0 * iI T; omega
      | succ n ih =>
        intro hn
        show 1000 * (isum (fun h => uU T h * iI T / 1000) n + uU T n * iI T / 1000) ≤ (isum (uU T) n + uU T n) * iI T
        have := ih (by omega)
        rw [Int.mul_add, Int.add_mul]
        omega
    exact q 6 (Nat.le_refl _)
  have hn0 : 0 ≤ isum (fun h => uU T h * iI T / 1000) 6 := isum_nn 6 (fun h hh => Int.ediv_nonneg (hb h hh).1 (by decide))
  refine ⟨fun h hh => ⟨h1 h hh, (hb h hh).1⟩, zsum_int 6 (fun h hh => h1 h hh) (fun k hk => ?_), hn0, by omega⟩
  have q1 := isum_nn (f := fun h => uU T h * iI T / 1000) k (fun h hh => Int.ediv_nonneg (hb h (by omega)).1 (by decide))
  have q2 := isum_mono (f := fun h => uU T h * iI T / 1000) (n := k) 6 hk (fun h hh => Int.ediv_nonneg (hb h hh).1 (by decide))
  omega
theorem pay_op {D : Int} {T : zTr} {S : zMs} (b : Bool) (hI : Inv D T) (hR : RTr T (gMs_at S)) (hg : gP 50000 T ≤ 10700000000) : opR D T S b (f_X6_payIncome T) (f_X8_tryPay S b) 20000000 0 := by
  have hIs := hI
  obtain ⟨g1, g2⟩ := gP_bd hI hg
  obtain ⟨hB, hOb, hOl, hE, hdy, hYb, hYl⟩ := hI
  have hH := hB.2.2.2.2
  have hp := hB.2.2.2.1
  obtain ⟨-, p2, p3, p4⟩ := pm_bd hB
  have hR1 : RC T (gMs_at (f_X8_keepIf S b)) := by rw [keepIf_at]; exact hR.1
  have hui := ui_eq hR1 hH
  have hall := allNew_eq hR1
  have hev : (if f_X8_allNew (f_X8_keepIf S b) = 0 then (0 : Int64) else 1000 * gMs_at (f_X8_keepIf S b) 9 / f_X8_allNew (f_X8_keepIf S b)) = (if f_X6_newUnits T ≤ 0 then 0 else 1000 * gTr_even T / f_X6_newUnits T) := by
    rw [hall, hR1.2.2.2.2.2.1]
    exact if_iff (new0_iff hH).symm
  unfold f_X8_tryPay f_X6_payIncome
  rw [zsl_e]
  dsimp only
  rw [hev]
  generalize (if f_X6_newUnits T ≤ 0 then (0 : Int64) else 1000 * gTr_even T / f_X6_newUnits T) = ev
  obtain ⟨c1, c2⟩ := L_pay_at T ev (f_X6_unitIncome T) (f_X6_newUnits T) 6 0 (gTr_hd T) 0 (by omega)
  obtain ⟨t1, t2, t3, t4⟩ := L_tp1_at S b ev _ hui 6 0 (f_X8_keepIf S b) 0 (by omega)
  rw [show 6 - 0 + 1 = 6 + 1 by omega]
  generalize L_X6_pay T ev (f_X6_unitIncome T) (f_X6_newUnits T) (6 + 1) (gTr_hd T) 0 0 = C at c1 c2 ⊢
  generalize L_X8_tp1 S b ev (6 + 1) (f_X8_keepIf S b) 0 0 = M at t1 t2 t3 t4 ⊢
  obtain ⟨q1, q2, q3⟩ := L_tp2_at 6 0 M.1 (by omega)
  generalize L_X8_tp2 (6 + 1) M.1 0 = N at q1 q2 q3 ⊢
  have hal : M.2.1 = C.2.1 := by
    rw [t3, c2]
    refine congrArg (fun z => (0 : Int64) + z) (zsum_congr 6 (fun i hi => ?_))
    rw [Nat.zero_add, hunits_eq hR1 hi]; rfl
  have hali : C.2.1.toInt = isum (fun h => uU T h * iI T / 1000) 6 := by
    rw [c2, Int64.zero_add, ← p2]
    exact congrArg Int64.toInt (zsum_congr 6 (fun i hi => by rw [Nat.zero_add]))
  rw [hal]
  generalize C.2.1 = al at hali
  generalize isum (fun h => uU T h * iI T / 1000) 6 = ai at hali p3 p4
  have hq1 : (gTr_cash T - al).toInt = (gTr_cash T).toInt - ai := i64_sub rfl hali (by omega) (by omega)
  have hq2 : (gTr_pool T - al).toInt = (gTr_pool T).toInt - ai := i64_sub rfl hali (by omega) (by omega)
  have hnone : ∀ i, (i < 19 ∨ 61 ≤ i) → gMs_at N.1 i = gMs_at S i := fun i hi => by
    rw [q2 i (fun h hh => by omega), t2 i (fun h hh => by omega), keepIf_at]
  have n5 : gMs_at N.1 5 = gTr_cash T := (hnone 5 (by omega)).trans hR.1.2.1
  have n8 : vp_updL (gMs_at N.1) 5 (gMs_at N.1 5 - al) 8 = gTr_pool T := by
    rw [vp_updL_n _ _ (by decide)]; exact (hnone 8 (by omega)).trans hR.1.2.2.2.2.1
  rw [n8, n5]
  have hform : N.1 = sMs_at (f_X8_keepIf S b) (gMs_at N.1) := by
    conv => lhs; rw [q3, t4]
  have hform2 : ∀ A, sMs_at N.1 A = sMs_at (f_X8_keepIf S b) A := fun A => by rw [hform]
  rw [hform2]
  generalize hA : vp_updL (vp_updL (vp_updL (gMs_at N.1) 5 (gTr_cash T - al)) 8 (gTr_pool T - al)) 9 0 = A
  have a5 : A 5 = gTr_cash T - al := by rw [← hA]; rfl
  have a8 : A 8 = gTr_pool T - al := by rw [← hA]; rfl
  have a9 : A 9 = 0 := by rw [← hA]; rfl
  have ao : ∀ i, i ≠ 5 → i ≠ 8 → i ≠ 9 → A i = gMs_at N.1 i := fun i h1 h2 h3 => by rw [← hA, vp_updL_n _ _ h3, vp_updL_n _ _ h2, vp_updL_n _ _ h1]
  have hCd : ∀ i, i < 6 → C.1 i = payH ev (f_X6_unitIncome T) (gTr_hd T i) := fun i hi => by rw [c1 i, if_pos ⟨Nat.zero_le _, hi⟩]
  have hU : ∀ i, i < 6 → uO (sTr_hd (sTr_even (sTr_pool (sTr_cash T (gTr_cash T - al)) (gTr_pool T - al)) 0) C.1) i = uU T i ∧ uN (sTr_hd (sTr_even (sTr_pool (sTr_cash T (gTr_cash T - al)) (gTr_pool T - al)) 0) C.1) i = 0 := fun i hi => by
    show (gHd_old (C.1 i)).toInt = _ ∧ (gHd_new (C.1 i)).toInt = 0
    rw [hCd i hi]
    exact ⟨hunits_int hH hi, rfl⟩
  have hUU : ∀ i, i < 6 → uU (sTr_hd (sTr_even (sTr_pool (sTr_cash T (gTr_cash T - al)) (gTr_pool T - al)) 0) C.1) i = uU T i := fun i hi => by
    show uO _ i + uN _ i = _
    rw [(hU i hi).1, (hU i hi).2]; omega
  have hHd : ∀ h, h < 6 → A (19 + 7 * h + 0) = gHd_old (C.1 h) ∧ A (19 + 7 * h + 1) = gHd_new (C.1 h) ∧ A (19 + 7 * h + 2) = gHd_bought (C.1 h) ∧ A (19 + 7 * h + 3) = gHd_paid (C.1 h) ∧ A (19 + 7 * h + 4) = gHd_inc (C.1 h) ∧ A (19 + 7 * h + 5) = gHd_eve (C.1 h) ∧ A (19 + 7 * h + 6) = gHd_lots (C.1 h) := by
    intro h hh
    obtain ⟨r0, r1, r2, r3, r4, r5, r6⟩ := hR1.2.2.2.2.2.2.2 h hh
    obtain ⟨u0, u1⟩ := q1 h hh
    obtain ⟨v4, v5⟩ := t1 h hh
    rw [if_pos (Nat.zero_le _)] at u0 u1 v4 v5
    have hun : f_X8_units (f_X8_keepIf S b) h = f_X2_units (gTr_hd T h) := hunits_eq hR1 hh
    have hof : f_X8_of (f_X8_keepIf S b) h 1 = gHd_new (gTr_hd T h) := r1
    rw [hun] at v4 v5
    rw [hof] at v5
    have k0 : gMs_at M.1 (19 + 7 * h + 0) = gHd_old (gTr_hd T h) := (t2 _ (fun i hi => by omega)).trans r0
    have k1 : gMs_at M.1 (19 + 7 * h + 1) = gHd_new (gTr_hd T h) := (t2 _ (fun i hi => by omega)).trans r1
    rw [hCd h hh]
    refine ⟨?_, ?_, ?_, ?_, ?_, ?_, ?_⟩
    · rw [ao _ (by omega) (by omega) (by omega), u0, k0, k1]; rfl
    · rw [ao _ (by omega) (by omega) (by omega), u1]; rfl
    · rw [ao _ (by omega) (by omega) (by omega), q2 _ (fun i hi => by omega), t2 _ (fun i hi => by omega)]; exact r2
    · rw [ao _ (by omega) (by omega) (by omega), q2 _ (fun i hi => by omega), t2 _ (fun i hi => by omega)]; exact r3
    · rw [ao _ (by omega) (by omega) (by omega), q2 _ (fun i hi => by omega), v4, r4]; rfl
    · rw [ao _ (by omega) (by omega) (by omega), q2 _ (fun i hi => by omega), v5, r5]; rfl
    · rw [ao _ (by omega) (by omega) (by omega), q2 _ (fun i hi => by omega), t2 _ (fun i hi => by omega)]; exact r6
  refine opR_yes (b := b) A ?_ (RTr_C hIs hR ⟨fun k hk => ?_, a5, ?_, ?_, a8, a9, ?_, hHd⟩ (fun i hi => (ao i (by omega) (by omega) (by omega)).trans (hnone i (by omega))) rfl rfl rfl) ⟨⟨hB.1, hB.2.1, hB.2.2.1, ⟨?_, ?_, ?_⟩, ⟨fun h hh => ?_, ?_⟩⟩, hOb, hOl, fun h hh => ?_, hdy, hYb, hYl⟩ ?_ ?_
  · rw [l_i32 (by omega) (by omega)]; omega
  · exact ((ao k (by omega) (by omega) (by omega)).trans (hnone k (by omega))).trans (hR.1.1 k hk)
  · exact ((ao 6 (by omega) (by omega) (by omega)).trans (hnone 6 (by omega))).trans hR.1.2.2.1
  · exact ((ao 7 (by omega) (by omega) (by omega)).trans (hnone 7 (by omega))).trans hR.1.2.2.2.1
  · exact ((ao 10 (by omega) (by omega) (by omega)).trans (hnone 10 (by omega))).trans hR.1.2.2.2.2.2.2.1
  · show 0 ≤ (gTr_pool T - al).toInt
    omega
  · show (gTr_pool T - al).toInt ≤ (gTr_cash T - al).toInt
    omega
  · show (gTr_cash T - al).toInt ≤ 10000000000
    omega
  · rw [(hU h hh).1, (hU h hh).2]
    exact ⟨uU_nn hH h hh, Int.le_refl _⟩
  · show isum (uU _) 6 ≤ _
    rw [isum_congr 6 hUU]
    exact hH.2
  · rw [hUU h hh]; exact hE h hh
  · unfold pPhi gP
    show 5 * (gTr_cash T - al).toInt + 5 * pS (gTr_bu T) 0 + (20000 + 4 * (gTr_quote T).toInt) * (gTr_lots T).toInt + 2000 * (10000 - (gTr_quote T).toInt) ≤ _
    omega
  · unfold gP
    show 5 * (gTr_cash T - al).toInt + 5 * pS (gTr_bu T) 0 + 50000 * (gTr_lots T).toInt ≤ _
    omega
