/-! those who leave are paid, order by order -/
noncomputable def payS (x : zDd) (T : zTr) : Nat → zTr × Bool
  | 0 => (T, true)
  | k + 1 => if (payS x T k).2 = false then payS x T k else if gDd_sh x k ≤ 0 then payS x T k else ((f_X0_payLeaver x (payS x T k).1 k).2, (f_X0_payLeaver x (payS x T k).1 k).1)
theorem payS_s (x : zDd) (T : zTr) (k : Nat) : payS x T (k + 1) = if (payS x T k).2 = false then payS x T k else if gDd_sh x k ≤ 0 then payS x T k else ((f_X0_payLeaver x (payS x T k).1 k).2, (f_X0_payLeaver x (payS x T k).1 k).1) := rfl
theorem payS_stop {x : zDd} {T : zTr} {k : Nat} (h : (payS x T k).2 = false) : ∀ m : Nat, payS x T (k + m) = payS x T k
  | 0 => rfl
  | m + 1 => by
    have ih := payS_stop h m
    show payS x T (k + m + 1) = _
    rw [payS_s, ih, if_pos h]
theorem pay_it (x : zDd) (T : zTr) (due : Nat) : ∀ m k : Nat, k + m = due → (L_X0_pay x due (m + 1) (payS x T k).1 (payS x T k).2 k).1 = (payS x T due).1 := by
  intro m
  induction m with
  | zero =>
    intro k hk
    rw [L_X0_pay_s, if_pos (by omega), show due = k by omega]
  | succ m ih =>
    intro k hk
    rw [L_X0_pay_s, if_neg (by omega)]
    by_cases c : (payS x T k).2 = false
    · rw [if_pos c, ← hk, payS_stop c]
    · rw [if_neg c]
      have h := ih (k + 1) (by omega)
      rw [payS_s, if_neg c] at h
      dsimp only
      by_cases g : gDd_sh x k ≤ 0
      · rw [if_pos g] at h
        rw [if_pos g, if_pos g]
        exact h
      · rw [if_neg g] at h
        rw [if_neg g, if_neg g]
        exact h
/-- what was weighed, and paid -/
def wP (W : Int) (T : zTr) : Int := 5 * cI T + W * lI T + 5 * isum (paI T) 6
theorem wP_pa {W : Int} {T : zTr} (hW : 0 ≤ W) (hc : 0 ≤ cI T) (hl : 0 ≤ lI T) (hp : ∀ j, j < 6 → 0 ≤ paI T j) {j : Nat} (hj : j < 6) : 5 * paI T j ≤ wP W T := by
  have h1 : paI T j ≤ isum (paI T) 6 := isum_ge 6 j hj hp
  have h2 : 0 ≤ W * lI T := Int.mul_nonneg hW hl
  unfold wP
  omega
def PI (S0 : zMs) (T0 : zTr) (x : zDd) (sm : Nat → Int64) (W : Int) (T : zTr) (k : Nat) : Prop := (∃ X, PS S0 T0 x sm T X k) ∧ XP T0 T ∧ wP W T ≤ wP W T0
theorem payS_inv {S0 : zMs} {T0 Tl : zTr} {x : zDd} {sm : Nat → Int64} {due : Nat} {W : Int} (hc : ctx T0 x sm due) (hlots0 : 0 ≤ lI T0 ∧ lI T0 ≤ 1000) (hW : 5 * qI T0 ≤ W) (hW0 : wP W T0 ≤ 400000000000) (h0 : PI S0 T0 x sm W Tl 0) : ∀ k, k ≤ due → PI S0 T0 x sm W (payS x Tl k).1 k := by
  intro k
  induction k with
  | zero => intro _; exact h0
  | succ k ih =>
    intro hk
    obtain ⟨⟨X, hS⟩, hX, hw⟩ := ih (by omega)
    rw [payS_s]
    by_cases c : (payS x Tl k).2 = false
    · rw [if_pos c]
      exact ⟨⟨X, hS.1, iP_w hS.2.1 (Nat.le_succ k), hS.2.2⟩, hX, hw⟩
    rw [if_neg c]
    by_cases g : gDd_sh x k ≤ 0
    · rw [if_pos g]
      exact ⟨⟨X, hS.1, iP_w hS.2.1 (Nat.le_succ k), hS.2.2⟩, hX, hw⟩
    rw [if_neg g]
    have hs : 0 < (gDd_sh x k).toInt := by
      rw [i64_le_iff] at g
      have : (0 : Int64).toInt = 0 := rfl
      omega
    generalize (payS x Tl k).1 = T at hS hX hw ⊢
    obtain ⟨-, q2, q3, q4, q5, q6⟩ := pay_step hc hS.2.1 hS.2.2.1 hS.2.2.2 hS.1 (by omega) hs
    have hq0 : 1 ≤ qI T0 ∧ qI T0 ≤ 10000 := hc.1.2.2.1
    have hs0 : 0 ≤ sI T0 4 ∧ sI T0 4 ≤ 50 := hc.1.1 4 (by decide)
    have hbr := br_int (T := T0) hq0 hs0
    have hbr1 : 0 ≤ brB (qI T0) (sI T0 4) := hbr.2.1
    have hbr2 : brB (qI T0) (sI T0 4) ≤ qI T0 := hbr.2.2
    obtain ⟨p1, p2, p3, p4, p5, p6, p7⟩ := pay_st hc hS.2.1 hX hlots0 (by omega) hs _ rfl _ _ _ rfl rfl rfl _ rfl
    generalize (gDd_sh x k).toInt * pI T0 / 1000 = am at p2 p3 p6 p7
    generalize sellN am (brB (qI T0) (sI T0 4)) (cI T) (lI T).toNat = N at p2 p6 p7
    have hb5 : 5 * ((N : Int) * brB (qI T0) (sI T0 4)) ≤ W * (N : Int) := by
      have a1 : (N : Int) * brB (qI T0) (sI T0 4) ≤ (N : Int) * qI T0 := Int.mul_le_mul_of_nonneg_left hbr2 (by omega)
      have a2 : (N : Int) * (5 * qI T0) ≤ (N : Int) * W := Int.mul_le_mul_of_nonneg_left hW (by omega)
      rw [Int.mul_comm W]
      have a3 : (N : Int) * (5 * qI T0) = 5 * ((N : Int) * qI T0) := by rw [Int.mul_left_comm]
      omega
    obtain ⟨x1, ⟨x2, x3, x3'⟩, x4, x5, x6, x7, x8⟩ := id hX
    by_cases cc : cI T + N * brB (qI T0) (sI T0 4) < am
    · obtain ⟨T2, e, r1, r2, r3, r4, r5, r6, r7, r8, r9, r10⟩ := p6 cc
      rw [e] at q3 q4 q5 q6 ⊢
      have hu : uAll T2 = uAll T := by
        refine isum_congr 6 (fun i _ => ?_)
        unfold uU uO uN
        rw [r3]
      refine ⟨⟨_, q3, q4, q5, q6⟩, ⟨fun j hj => ?_, ?_, ⟨by rw [r9]; exact x4, by rw [r10]; exact x5, by rw [r8]; exact x6, by rw [r8, hu]; exact x7, by rw [r7, r2]; omega⟩⟩, ?_⟩
      · unfold boI inI eeI loI paI at x1 ⊢
        dsimp only
        rw [r3]
        exact x1 j hj
      · unfold evI at x2 x3 x3' ⊢
        dsimp only
        rw [r5]
        exact ⟨x2, x3, x3'⟩
      · unfold wP at hw ⊢
        have hp : isum (paI T2) 6 = isum (paI T) 6 := isum_congr 6 (fun i _ => by unfold paI; rw [r3])
        dsimp only
        rw [hp, r1, r2, Int.mul_sub]
        omega
    · obtain ⟨T2, e, r1, r2, r3, r4, r5, r6, r7, r8, r9, ⟨r10, r11⟩, r12, r13, r14, r15, r16, r17, r18, r19, r20, r21⟩ := p7 (by omega)
      rw [e] at q3 q4 q5 q6 ⊢
      have hsp : isum (paI T2) 6 = isum (paI T) 6 + am := by
        rw [isum_upd (f := paI T) (g := paI T2) 6 _ p1 (fun i _ hi => (r3 i hi).1.2.1), r5]; omega
      have hpn : ∀ j, j < 6 → 0 ≤ paI T2 j := fun j hj => by
        by_cases ej : j = hJ T0 k
        · rw [ej, r5]
          have := (x1 _ p1).2.2.2.2.1
          omega
        · rw [(r3 j ej).1.2.1]
          exact (x1 j hj).2.2.2.2.1
      have hw2 : wP W T2 ≤ wP W T0 := by
        unfold wP at hw ⊢
        rw [hsp, r1, r2, Int.mul_sub W]
        omega
      have hl2 : 0 ≤ lI T2 := by omega
      have hc2 : 0 ≤ cI T2 := by omega
      have hpb : ∀ j, j < 6 → paI T2 j ≤ 100000000000 := fun j hj => by
        have := wP_pa (W := W) (T := T2) (by omega) hc2 hl2 hpn hj
        omega
      refine ⟨⟨_, q3, q4, q5, q6⟩, ⟨fun j hj => ?_, ⟨r10, by show evI T2 ≤ _; omega, x3'⟩, ⟨by rw [r20]; exact x4, by rw [r21]; exact x5, ?_, ?_, ?_⟩⟩, hw2⟩
      · by_cases ej : j = hJ T0 k
        · subst ej
          show boI T2 _ = _ ∧ inI T2 _ = _ ∧ eeI T2 _ = _ ∧ loI T2 _ = _ ∧ 0 ≤ paI T2 _ ∧ paI T2 _ ≤ _
          obtain ⟨a1, a2, a3, a4, a5, a6⟩ := x1 _ p1
          exact ⟨r6.trans a1, r7.trans a2, r8.trans a3, r9.trans a4, hpn _ p1, hpb _ p1⟩
        · show boI T2 _ = _ ∧ inI T2 _ = _ ∧ eeI T2 _ = _ ∧ loI T2 _ = _ ∧ 0 ≤ paI T2 _ ∧ paI T2 _ ≤ _
          obtain ⟨a1, a2, a3, a4, a5, a6⟩ := x1 j hj
          obtain ⟨b1, b2, b3, b4, b5⟩ := (r3 j ej).1
          exact ⟨b1.trans a1, b3.trans a2, b4.trans a3, b5.trans a4, hpn j hj, hpb j hj⟩
      · show 0 ≤ lfI T2
        omega
      · show lfI T2 + uAll T2 = _
        omega
      · show soI T2 = _ - lI T2
        omega
/-! those who buy come in, order by order -/
noncomputable def buyS (x : zDd) (T : zTr) : Nat → zTr
  | 0 => T
  | k + 1 => sTr_bu (buyT x (buyS x T k) ((gOd_ho (gTr_bu (buyS x T k)) k).toNatClampNeg) (gOd_sz (gTr_bu (buyS x T k)) k).toInt64 (mdC x (gOd_sz (gTr_bu (buyS x T k)) k).toInt64)) (sOd_sz (gTr_bu (buyT x (buyS x T k) ((gOd_ho (gTr_bu (buyS x T k)) k).toNatClampNeg) (gOd_sz (gTr_bu (buyS x T k)) k).toInt64 (mdC x (gOd_sz (gTr_bu (buyS x T k)) k).toInt64))) (upd (gOd_sz (gTr_bu (buyT x (buyS x T k) ((gOd_ho (gTr_bu (buyS x T k)) k).toNatClampNeg) (gOd_sz (gTr_bu (buyS x T k)) k).toInt64 (mdC x (gOd_sz (gTr_bu (buyS x T k)) k).toInt64)))) k (nI 0)))
theorem buy_it (x : zDd) (T : zTr) (due : Nat) : ∀ m k : Nat, k + m = due → (L_X0_buy x due (m + 1) (buyS x T k) k).1 = buyS x T due := by
  intro m
  induction m with
  | zero =>
    intro k hk
    rw [L_X0_buy_s, if_pos (by omega), show due = k by omega]
  | succ m ih =>
    intro k hk
    rw [L_X0_buy_s, if_neg (by omega)]
    exact ih (k + 1) (by omega)
def XB (T0 T1 T : zTr) (k : Nat) : Prop := (∀ j, j < 6 → paI T j = paI T1 j ∧ inI T j = inI T1 j ∧ eeI T j = eeI T1 j ∧ loI T j = loI T1 j ∧ 0 ≤ boI T j ∧ boI T j ≤ 100000000000) ∧ isum (boI T) 6 + pS (gTr_bu T0) k ≤ isum (boI T1) 6 + pS (gTr_bu T0) 0 ∧ (0 ≤ evI T ∧ evI T ≤ 100000000000 ∧ evI T - 4 * isum (boI T) 6 ≤ evI T1 - 4 * isum (boI T1) 6) ∧ (soI T = soI T1 ∧ lfI T = lfI T1 ∧ 0 ≤ mdI T ∧ uAll T1 + mdI T = uAll T ∧ 0 ≤ bkI T ∧ bkI T ≤ pS (gTr_bu T0) 0 - pS (gTr_bu T0) k)
noncomputable def mkI (T0 : zTr) (a : Int) : Int := if pI T0 = 0 then 0 else 1000 * a / pI T0
theorem mkI_r {T0 : zTr} (hB : iB T0) {x : zDd} (hp : (gDd_price x).toInt = pI T0) {am : Int64} {a : Int} (ea : am.toInt = a) (ha : 1 ≤ a ∧ a ≤ 1000000) : (mdC x am).toInt = mkI T0 a ∧ 0 ≤ mkI T0 a ∧ mkI T0 a ≤ 1000000000 ∧ mkI T0 a * pI T0 ≤ 1000 * a := by
  have p0 := (pI_bd hB).1
  obtain ⟨m1, m2, m3, m4⟩ := made_int hB hp (am := am) (by rw [ea]; exact ha)
  have z0 : (0 : Int64).toInt = 0 := rfl
  have e : (mdC x am).toInt = mkI T0 a := by
    unfold mdC mkI
    by_cases c : gDd_price x ≤ 0
    · rw [if_pos c]
      rw [i64_le_iff, hp, z0] at c
      rw [if_pos (by omega)]; rfl
    · rw [if_neg c]
      rw [i64_le_iff, hp, z0] at c
      rw [if_neg (by omega)]
      exact i64_div (i64_mul (x := 1000) rfl ea (by omega) (by omega)) hp (by omega) (by omega)
  rw [e, ea] at m2
  rw [e] at m1 m4
  exact ⟨e, m1, m4, m2⟩
/-- the evening of units that are made is at most four times what they cost -/
theorem even_bd {T0 : zTr} (hB : iB T0) {u a : Int} (h1 : 0 ≤ u) (h0 : 0 < u → 1 ≤ pI T0) (h3 : u * pI T0 ≤ 1000 * a) : 0 ≤ u * iI T0 ∧ u * iI T0 / 1000 ≤ 4 * a := by
  obtain ⟨m1, m2, m3, m4, m5⟩ := mI_bd hB
  obtain ⟨p1, p2, p3⟩ := pI_bd hB
  have hi : iI T0 ≤ mI T0 := by
    by_cases c : 0 < uAll T0
    · exact (m4 c).2
    · have := m5 (by omega); omega
  have q0 : 0 ≤ u * iI T0 := Int.mul_nonneg h1 m3
  refine ⟨q0, ?_⟩
  by_cases g : u = 0
  · subst g; rw [Int.zero_mul]; rw [Int.zero_mul] at h3; omega
  · have hp := h0 (by omega)
    have a1 : u * iI T0 ≤ u * (2 * pI T0 + 2) := Int.mul_le_mul_of_nonneg_left (by omega) h1
    have a2 : u * (2 * pI T0 + 2) = 2 * (u * pI T0) + 2 * u := by rw [Int.mul_add, Int.mul_left_comm, Int.mul_comm u 2]
    have a3 : u * 1 ≤ u * pI T0 := Int.mul_le_mul_of_nonneg_left hp h1
    omega
