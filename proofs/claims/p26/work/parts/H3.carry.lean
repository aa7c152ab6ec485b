/-! what the text carries out. Written by wip/p26/law22.py -/
theorem la_buy (T : zTr) (a b c : Int32) : gTr_la (f_X6_orderToBuy T a b c).2 = gTr_la T := by
  unfold f_X6_orderToBuy
  dsimp only
  (repeat' split) <;> rfl
theorem la_leave (T : zTr) (a b c : Int32) : gTr_la (f_X6_orderToLeave T a b c).2 = gTr_la T := by
  unfold f_X6_orderToLeave
  dsimp only
  (repeat' split) <;> rfl
theorem la_quote (T : zTr) (a : Int32) : gTr_la (f_X6_changeQuote T a).2 = gTr_la T := by
  unfold f_X6_changeQuote
  (repeat' split) <;> rfl
theorem la_income (T : zTr) (a : Int32) : gTr_la (f_X6_takeIncome T a).2 = gTr_la T := by
  unfold f_X6_takeIncome
  dsimp only
  (repeat' split) <;> rfl
theorem la_pay (T : zTr) : gTr_la (f_X6_payIncome T).2 = gTr_la T := rfl
/-- the text's orders -/
noncomputable def opT (wh am hr ot un qu ic : Int) (x : zDd) (T : zTr) : Nat → Int32 × zTr
  | 0 => f_X6_orderToBuy T (jI wh) (jI am) (jI hr)
  | 1 => f_X6_orderToLeave T (jI ot) (jI un) (jI 0)
  | 2 => ((f_X0_run x T).1, (f_X0_run x T).2.2)
  | 3 => f_X6_changeQuote T (jI qu)
  | 4 => f_X6_takeIncome T (jI ic)
  | _ + 5 => f_X6_payIncome T
def txR (wh am hr ot un qu ic : Int) : Prop := (0 ≤ wh ∧ wh ≤ 5) ∧ (1000 ≤ am ∧ am ≤ 9999) ∧ (10 ≤ hr ∧ hr ≤ 23) ∧ (0 ≤ ot ∧ ot ≤ 5) ∧ (10 ≤ un ∧ un ≤ 99) ∧ (100 ≤ qu ∧ qu ≤ 999) ∧ (10 ≤ ic ∧ ic ≤ 99)
def dK (Dd : Int) (k : Nat) : Int := if 3 ≤ k then Dd + 1 else Dd
section CHAIN
variable {wh am hr ot un qu ic : Int}
theorem op_sp {Dd c : Int} {T : zTr} (hR : txR wh am hr ot un qu ic) (x : zDd) {k : Nat} (hk : k < 6) (h : GI (dK Dd k) c T) (hc : c + 1 ≤ 400) (hD : Dd + 1 ≤ 100000) : ∃ (r : Int) (T' : zTr), opT wh am hr ot un qu ic x T k = (jI r, T') ∧ r32 r ∧ GI (dK Dd (k + 1)) (c + 1) T' ∧ (r < 0 → T' = T) := by
  obtain ⟨r1, r2, r3, r4, r5, r6, r7⟩ := hR
  have hr := GI_r h
  obtain ⟨⟨rc1, rc2⟩, -, ⟨rq1, rq2⟩, -, -, -, ⟨rp1, rp2⟩, -, ⟨rd1, rd2⟩, ⟨rb1, rb2⟩, ⟨rs1, rs2⟩, -⟩ := hr
  have hw : GI (dK Dd k) (c + 1) T := GI_wk h (by omega) hc
  have hDk : dK Dd k ≤ dK Dd (k + 1) := by unfold dK; split <;> split <;> omega
  have hDm : dK Dd (k + 1) ≤ 100000 := by unfold dK; split <;> omega
  have hT : GI (dK Dd (k + 1)) (c + 1) T := GI_D hw hDk hDm
  rcases (show k = 0 ∨ k = 1 ∨ k = 2 ∨ k = 3 ∨ k = 4 ∨ k = 5 by omega) with rfl | rfl | rfl | rfl | rfl | rfl
  · obtain ⟨i, rfl⟩ := Int.eq_ofNat_of_zero_le r1.1
    obtain ⟨e0, e1⟩ := buy_sp h hc (i := i) (by omega) (a := am) (v := hr) ⟨by omega, by omega⟩ ⟨by omega, by omega⟩
    by_cases hn : gOd_n (gTr_bu T) = 20
    · exact ⟨-4, T, (e0 hn).trans rfl, ⟨by decide, by decide⟩, hT, fun _ => rfl⟩
    · obtain ⟨T', e, g, -⟩ := e1 (by omega)
      have hb : 0 ≤ (if hr < sI T 0 then dI T else dI T + 1) ∧ (if hr < sI T 0 then dI T else dI T + 1) ≤ 100001 := by split <;> omega
      exact ⟨_, T', e, ⟨by omega, by omega⟩, g, fun q => by omega⟩
  · obtain ⟨i, rfl⟩ := Int.eq_ofNat_of_zero_le r4.1
    obtain ⟨e0, e1, e2⟩ := leave_sp h hc (i := i) (by omega) (a := un) (v := 0) ⟨by omega, by omega⟩ ⟨by omega, by omega⟩
    by_cases hn : gOd_n (gTr_le T) = 20
    · exact ⟨-4, T, (e0 hn).trans rfl, ⟨by decide, by decide⟩, hT, fun _ => rfl⟩
    · by_cases hf : uU T i - hS (gTr_le T) i < un
      · exact ⟨-5, T, (e1 (by omega) hf).trans rfl, ⟨by decide, by decide⟩, hT, fun _ => rfl⟩
      · obtain ⟨T', e, g, -⟩ := e2 (by omega) (by omega)
        have hb : 0 ≤ (if (0 : Int) < sI T 0 then dI T else dI T + 1) ∧ (if (0 : Int) < sI T 0 then dI T else dI T + 1) ≤ 100001 := by split <;> omega
        exact ⟨_, T', e, ⟨by omega, by omega⟩, g, fun q => by omega⟩
  · have h2 : GI Dd c T := h
    obtain ⟨f, fd, g, -⟩ := run_parts h2 x hD
    refine ⟨dI T + 1, runR x T, ?_, ⟨by omega, by omega⟩, GI_wk g (by omega) hc, fun q => by omega⟩
    show ((f_X0_run x T).1, (f_X0_run x T).2.2) = _
    rw [f]
    dsimp only
    rw [jI_is (v := gTr_day (runR x T)) fd]
  · obtain ⟨e, g, -⟩ := quote_sp h hc (v := qu) ⟨by omega, by omega⟩
    exact ⟨qI T, _, e, ⟨by omega, by omega⟩, g, fun q => by omega⟩
  · obtain ⟨e0, e1⟩ := income_sp h hc (v := ic) ⟨by omega, by omega⟩
    by_cases hu : uAll T = 0
    · exact ⟨-5, T, (e0 hu).trans rfl, ⟨by decide, by decide⟩, hT, fun _ => rfl⟩
    · have hu2 := (GI_r h).2.2.2.2.1
      obtain ⟨T', e, g, -, -, -⟩ := e1 (by omega)
      exact ⟨_, T', e, ⟨by omega, by omega⟩, g, fun q => by omega⟩
  · obtain ⟨T', e, g, -⟩ := pay_sp h
    obtain ⟨q1, q2, q3, q4, q5⟩ := egI_r h
    exact ⟨_, T', e, ⟨by omega, by omega⟩, GI_wk g (by omega) hc, fun q => by omega⟩
theorem op_TE {D c D' c' : Int} {T V : zTr} (h : TE T V) (hT : GI D c T) (hV : GI D' c' V) (hD : D + 1 ≤ 100000) (hD' : D' + 1 ≤ 100000) (x x' : zDd) {k : Nat} (hk : k < 6) : (opT wh am hr ot un qu ic x T k).1 = (opT wh am hr ot un qu ic x' V k).1 ∧ TE (opT wh am hr ot un qu ic x T k).2 (opT wh am hr ot un qu ic x' V k).2 := by
  have hR : RTr V (gMs_at (sA (aOf V))) := GI_RTr hV
  have hR2 : RTr T (gMs_at (sA (aOf V))) := TE_RTr h hR
  have hT2 : GI D' c' T := TE_GI h hV
  have ela : gTr_la T = gTr_la V := h.2.2.2.2.2.2.2.2.2.2
  rcases (show k = 0 ∨ k = 1 ∨ k = 2 ∨ k = 3 ∨ k = 4 ∨ k = 5 by omega) with rfl | rfl | rfl | rfl | rfl | rfl
  · exact opR_TE h (buy_op (S := sA (aOf V)) (jI wh) (jI am) (jI hr) true hT2.1 (by omega) hR2) (buy_op (S := sA (aOf V)) (jI wh) (jI am) (jI hr) true hV.1 (by omega) hR) (fun _ => Or.inl ((la_buy T _ _ _).trans (ela.trans (la_buy V _ _ _).symm)))
  · exact opR_TE h (leave_op (S := sA (aOf V)) (jI ot) (jI un) (jI 0) true hT2.1 (by omega) hR2) (leave_op (S := sA (aOf V)) (jI ot) (jI un) (jI 0) true hV.1 (by omega) hR) (fun _ => Or.inl ((la_leave T _ _ _).trans (ela.trans (la_leave V _ _ _).symm)))
  · obtain ⟨f1, -, -, e1, -⟩ := run_parts hT x hD
    obtain ⟨f2, -, -, e2, -⟩ := run_parts hV x' hD'
    exact opR_TE h (end_op (S := sA (aOf V)) x true hT2.1 (by omega) (GI_hg hT2) hR2).1 (end_op (S := sA (aOf V)) x' true hV.1 (by omega) (GI_hg hV) hR).1 (fun _ => Or.inr ⟨by show gLd_ended (gTr_la (f_X0_run x T).2.2) = true; rw [f1]; exact e1, by show gLd_ended (gTr_la (f_X0_run x' V).2.2) = true; rw [f2]; exact e2⟩)
  · exact opR_TE h (quote_op (S := sA (aOf V)) (jI qu) true hT2.1 hR2) (quote_op (S := sA (aOf V)) (jI qu) true hV.1 hR) (fun _ => Or.inl ((la_quote T _).trans (ela.trans (la_quote V _).symm)))
  · exact opR_TE h (income_op (S := sA (aOf V)) (jI ic) true hT2.1 hR2 (GI_hg hT2)) (income_op (S := sA (aOf V)) (jI ic) true hV.1 hR (GI_hg hV)) (fun _ => Or.inl ((la_income T _).trans (ela.trans (la_income V _).symm)))
  · exact opR_TE h (pay_op (S := sA (aOf V)) true hT2.1 hR2 (GI_hg hT2)) (pay_op (S := sA (aOf V)) true hV.1 hR (GI_hg hV)) (fun _ => Or.inl ((la_pay T).trans (ela.trans (la_pay V).symm)))
/-- the orders, one behind the other -/
noncomputable def chT (wh am hr ot un qu ic : Int) (x : zDd) (T : zTr) : Nat → zTr
  | 0 => T
  | k + 1 => (opT wh am hr ot un qu ic x (chT wh am hr ot un qu ic x T k) k).2
theorem chT_GI {Dd c : Int} {T : zTr} (hR : txR wh am hr ot un qu ic) (x : zDd) (h : GI Dd c T) (hc : c + 6 ≤ 400) (hD : Dd + 1 ≤ 100000) : ∀ k : Nat, k ≤ 6 → GI (dK Dd k) (c + k) (chT wh am hr ot un qu ic x T k) := by
  intro k
  induction k with
  | zero =>
    intro _
    have e : c + ((0 : Nat) : Int) = c := by omega
    rw [e]
    exact h
  | succ k ih =>
    intro hk
    obtain ⟨r, T', e, -, g, -⟩ := op_sp hR x (k := k) (by omega) (ih (by omega)) (by omega) hD
    have e2 : c + ((k + 1 : Nat) : Int) = c + k + 1 := by omega
    rw [e2]
    show GI _ _ (opT wh am hr ot un qu ic x (chT wh am hr ot un qu ic x T k) k).2
    rw [e]
    exact g
/-- how many go, and to what -/
def cRes (wh am hr ot un qu ic : Int) (x : zDd) (T : zTr) (n : Nat) (T' : zTr) : Prop := n ≤ 6 ∧ (∀ j, j < n → 0 ≤ (opT wh am hr ot un qu ic x (chT wh am hr ot un qu ic x T j) j).1.toInt) ∧ (n < 6 → (opT wh am hr ot un qu ic x (chT wh am hr ot un qu ic x T n) n).1.toInt < 0) ∧ TE T' (chT wh am hr ot un qu ic x T n)
theorem cRes_uni {x : zDd} {T T1 T2 : zTr} {n m : Nat} (h : cRes wh am hr ot un qu ic x T n T1) (g : cRes wh am hr ot un qu ic x T m T2) : n = m ∧ TE T1 T2 := by
  obtain ⟨h1, h2, h3, h4⟩ := h
  obtain ⟨g1, g2, g3, g4⟩ := g
  have e : n = m := by
    rcases Nat.lt_trichotomy n m with q | q | q
    · have := g2 n q; have := h3 (by omega); omega
    · exact q
    · have := h2 m q; have := g3 (by omega); omega
  subst e
  exact ⟨rfl, TE_trans h4 (TE_symm g4)⟩
end CHAIN
def stO : Nat → Nat
  | 0 => 0
  | 1 => 11
  | 2 => 17
  | 3 => 19
  | 4 => 24
  | 5 => 28
  | _ + 6 => 29
section TEXT
variable {wh am hr ot un qu ic : Int} {g : Nat → Int32}
/-- the text of these numbers -/
def TXn (g : Nat → Int32) (wh am hr ot un qu ic : Int) : Prop := TX g wh (am / 1000) (am / 100 % 10) (am / 10 % 10) (am % 10) (hr / 10) (hr % 10) ot (un / 10) (un % 10) (qu / 100) (qu / 10 % 10) (qu % 10) (ic / 10) (ic % 10)
theorem rd_all (hT : TXn g wh am hr ot un qu ic) (hR : txR wh am hr ot un qu ic) {k : Nat} (hk : k < 6) {Z : zPd} (h : PZ g Z (stO k)) : ∃ (Z1 : zPd) (en : Nat), f_X5_readOrder Z = (true, Z1) ∧ PZ g Z1 en ∧ (k < 5 → g en = nI 59 ∧ en < 29 ∧ stO (k + 1) = en + 1) ∧ (k = 5 → en = 29) ∧ ∀ (X : zTr) (Xd : zDd), ∃ x', f_X7_carryOutOrder X Xd Z1 = ((opT wh am hr ot un qu ic Xd X k).1, (opT wh am hr ot un qu ic Xd X k).2, x') := by
  obtain ⟨r1, r2, r3, r4, r5, r6, r7⟩ := hR
  have hT2 := hT
  obtain ⟨-, -, -, -, -, -, -, -, -, -, g10, -, -, -, -, -, g16, -, g18, -, -, -, -, g23, -, -, -, g27, -⟩ := hT2
  rcases (show k = 0 ∨ k = 1 ∨ k = 2 ∨ k = 3 ∨ k = 4 ∨ k = 5 by omega) with rfl | rfl | rfl | rfl | rfl | rfl
  · obtain ⟨Z1, e, p, k1, k2, k3, k4⟩ := rd_b h hT r1 ⟨by omega, by omega⟩ ⟨by omega, by omega⟩ ⟨by omega, by omega⟩ ⟨by omega, by omega⟩ ⟨by omega, by omega⟩ ⟨by omega, by omega⟩ (by omega)
    refine ⟨Z1, 10, e, p, fun _ => ⟨g10, by decide, rfl⟩, fun q => by omega, fun X Xd => ⟨Xd, ?_⟩⟩
    have e3 : 10 * (10 * (10 * (am / 1000) + am / 100 % 10) + am / 10 % 10) + am % 10 = am := by omega
    have e4 : 10 * (hr / 10) + hr % 10 = hr := by omega
    rw [e3] at k3
    rw [e4] at k4
    unfold f_X7_carryOutOrder
    rw [zsl_e]
    rw [k1, if_pos rfl, k2, k3, k4]
    rfl
  · obtain ⟨Z1, e, p, k1, k2, k3, k4⟩ := rd_l h hT r4 ⟨by omega, by omega⟩ ⟨by omega, by omega⟩
    refine ⟨Z1, 16, e, p, fun _ => ⟨g16, by decide, rfl⟩, fun q => by omega, fun X Xd => ⟨Xd, ?_⟩⟩
    have e3 : 10 * (un / 10) + un % 10 = un := by omega
    rw [e3] at k3
    unfold f_X7_carryOutOrder
    rw [zsl_e]
    rw [k1, if_neg (by decide), if_neg (by decide), if_neg (by decide), if_pos rfl, k2, k3, k4]
    rfl
  · obtain ⟨Z1, e, p, k1⟩ := rd_d h hT
    refine ⟨Z1, 18, e, p, fun _ => ⟨g18, by decide, rfl⟩, fun q => by omega, fun X Xd => ⟨(f_X0_run Xd X).2.1, ?_⟩⟩
    unfold f_X7_carryOutOrder
    rw [zsl_e]
    rw [k1, if_neg (by decide), if_pos rfl]
    rfl
  · obtain ⟨Z1, e, p, k1, k3⟩ := rd_q h hT ⟨by omega, by omega⟩ ⟨by omega, by omega⟩ ⟨by omega, by omega⟩
    refine ⟨Z1, 23, e, p, fun _ => ⟨g23, by decide, rfl⟩, fun q => by omega, fun X Xd => ⟨Xd, ?_⟩⟩
    have e3 : 10 * (10 * (qu / 100) + qu / 10 % 10) + qu % 10 = qu := by omega
    rw [e3] at k3
    unfold f_X7_carryOutOrder
    rw [zsl_e]
    rw [k1, if_neg (by decide), if_neg (by decide), if_neg (by decide), if_neg (by decide), if_pos rfl, k3]
    rfl
  · obtain ⟨Z1, e, p, k1, k3⟩ := rd_i h hT ⟨by omega, by omega⟩ ⟨by omega, by omega⟩
    refine ⟨Z1, 27, e, p, fun _ => ⟨g27, by decide, rfl⟩, fun q => by omega, fun X Xd => ⟨Xd, ?_⟩⟩
    have e3 : 10 * (ic / 10) + ic % 10 = ic := by omega
    rw [e3] at k3
    unfold f_X7_carryOutOrder
    rw [zsl_e]
    rw [k1, if_neg (by decide), if_neg (by decide), if_pos rfl, k3]
    rfl
  · obtain ⟨Z1, e, p, k1⟩ := rd_p h hT
    refine ⟨Z1, 29, e, p, fun q => by omega, fun _ => rfl, fun X Xd => ⟨Xd, ?_⟩⟩
    unfold f_X7_carryOutOrder
    rw [zsl_e]
    rw [k1, if_neg (by decide), if_neg (by decide), if_neg (by decide), if_neg (by decide), if_neg (by decide)]
    rfl
theorem fault_l (hT : TXn g wh am hr ot un qu ic) (hR : txR wh am hr ot un qu ic) (T1 : zPd) (f : Nat) : ∀ (m k : Nat) (X : zPd), k + m = 5 → PZ g X (stO k) → ∃ (X' : zPd) (q : Nat), L_X5_fault T1 (f + m + 1) X k = (true, -6, X', q) ∧ PZ g X' 29 := by
  intro m
  induction m with
  | zero =>
    intro k X hk h
    have e5 : k = 5 := by omega
    subst e5
    obtain ⟨Z1, en, e, p, -, h5, -⟩ := rd_all hT hR (k := 5) (by decide) h
    have e29 := h5 rfl
    subst e29
    refine ⟨Z1, 5, ?_, p⟩
    rw [L_X5_fault_s, if_neg (by decide), e]
    dsimp only
    rw [if_neg (by decide), if_neg (by rw [p.1, p.2.2]; decide)]
  | succ m ih =>
    intro k X hk h
    obtain ⟨Z1, en, e, p, h4, -, -⟩ := rd_all hT hR (k := k) (by omega) h
    obtain ⟨q1, q2, q3⟩ := h4 (by omega)
    obtain ⟨X', q, eI, pI⟩ := ih (k + 1) (sPd_at Z1 (en + 1)) (by omega) (by rw [q3]; exact PZ_at p _)
    refine ⟨X', q, ?_, pI⟩
    rw [show f + (m + 1) + 1 = (f + m + 1) + 1 from rfl, L_X5_fault_s, if_neg (by omega), e]
    dsimp only
    rw [if_neg (by decide), if_pos (by rw [p.1, p.2.2]; exact q2), skip_y p q2 q1]
    dsimp only
    rw [if_neg (by decide)]
    exact eI
theorem fault_t (hT : TXn g wh am hr ot un qu ic) (hR : txR wh am hr ot un qu ic) {z : zPd} (hn : gPd_n z = 29) (hg : gPd_sg z = g) : ∃ z', f_X5_findFault z = (jI (-6), z') ∧ PZ g z' 29 := by
  obtain ⟨X', q, e, p⟩ := fault_l hT hR (f_X5_start z) 75 5 0 (f_X5_start z) rfl ⟨hn, hg, rfl⟩
  refine ⟨X', ?_, p⟩
  unfold f_X5_findFault
  rw [zsl_e]
  dsimp only
  rw [show (80 - 0 + 1 : Nat) = 75 + 5 + 1 from rfl, e, if_pos rfl]
  rfl
theorem carry_l {Dd c : Int} {T : zTr} (hT : TXn g wh am hr ot un qu ic) (hR : txR wh am hr ot un qu ic) (x0 : zDd) (h : GI Dd c T) (hc : c + 6 ≤ 400) (hD : Dd + 1 ≤ 99999) (T4 : zPd) (f : Nat) : ∀ (m k : Nat) (Xd : zDd) (X : zTr) (Z : zPd), k + m = 5 → TE X (chT wh am hr ot un qu ic x0 T k) → PZ g Z (stO k) → (∀ j, j < k → 0 ≤ (opT wh am hr ot un qu ic x0 (chT wh am hr ot un qu ic x0 T j) j).1.toInt) → ∃ (n : Nat) (x' : zDd) (T' : zTr) (Z' : zPd) (q : Nat), L_X7_carry T4 (f + m + 1) Xd X Z k = (true, nI n, x', T', Z', q) ∧ cRes wh am hr ot un qu ic x0 T n T' ∧ gPd_sg Z' = g := by
  intro m
  induction m with
  | zero =>
    intro k Xd X Z hk hX hZ hj
    have e5 : k = 5 := by omega
    subst e5
    have hC := chT_GI hR x0 h hc (by omega) 5 (by decide)
    have hXG := TE_GI hX hC
    obtain ⟨Z1, en, e, p, -, h5, hco⟩ := rd_all hT hR (k := 5) (by decide) hZ
    have e29 := h5 rfl
    subst e29
    obtain ⟨x', eo⟩ := hco X Xd
    obtain ⟨t1, t2⟩ := op_TE (wh := wh) (am := am) (hr := hr) (ot := ot) (un := un) (qu := qu) (ic := ic) hX hXG hC (by show Dd + 1 + 1 ≤ 100000; omega) (by show Dd + 1 + 1 ≤ 100000; omega) Xd x0 (k := 5) (by decide)
    obtain ⟨r, T', er, hr32, -, hrn⟩ := op_sp hR Xd (k := 5) (by decide) hXG (by omega) (by omega)
    have z0 : (0 : Int32).toInt = 0 := rfl
    by_cases c0 : 0 ≤ (opT wh am hr ot un qu ic Xd X 5).1
    · refine ⟨6, x', (opT wh am hr ot un qu ic Xd X 5).2, Z1, 5, ?_, ⟨Nat.le_refl _, fun j hj2 => ?_, fun q => absurd q (by decide), t2⟩, p.2.1⟩
      · rw [L_X7_carry_s, if_neg (by decide), e]
        dsimp only
        rw [if_neg (by decide), eo]
        dsimp only
        rw [if_pos c0, skip_end p (by decide)]
        rfl
      · by_cases e6 : j = 5
        · subst e6; rw [← t1]; rw [i32_le_iff, z0] at c0; exact c0
        · exact hj j (by omega)
    · have hneg : (opT wh am hr ot un qu ic Xd X 5).1.toInt < 0 := by rw [i32_le_iff, z0] at c0; omega
      have eT : (opT wh am hr ot un qu ic Xd X 5).2 = X := by
        rw [er] at hneg ⊢
        exact hrn (by rw [jI_t hr32] at hneg; exact hneg)
      refine ⟨5, x', (opT wh am hr ot un qu ic Xd X 5).2, Z1, 5, ?_, ⟨by decide, hj, fun _ => by rw [← t1]; exact hneg, by rw [eT]; exact hX⟩, p.2.1⟩
      rw [L_X7_carry_s, if_neg (by decide), e]
      dsimp only
      rw [if_neg (by decide), eo]
      dsimp only
      rw [if_neg c0]
  | succ m ih =>
    intro k Xd X Z hk hX hZ hj
    have hC := chT_GI hR x0 h hc (by omega) k (by omega)
    have hXG := TE_GI hX hC
    have hdk : dK Dd k + 1 ≤ 100000 := by unfold dK; split <;> omega
    obtain ⟨Z1, en, e, p, h4, -, hco⟩ := rd_all hT hR (k := k) (by omega) hZ
    obtain ⟨q1, q2, q3⟩ := h4 (by omega)
    obtain ⟨x', eo⟩ := hco X Xd
    obtain ⟨t1, t2⟩ := op_TE (wh := wh) (am := am) (hr := hr) (ot := ot) (un := un) (qu := qu) (ic := ic) hX hXG hC hdk hdk Xd x0 (k := k) (by omega)
    obtain ⟨r, T', er, hr32, -, hrn⟩ := op_sp hR Xd (k := k) (by omega) hXG (by omega) (by omega)
    have z0 : (0 : Int32).toInt = 0 := rfl
    by_cases c0 : 0 ≤ (opT wh am hr ot un qu ic Xd X k).1
    · obtain ⟨n, x2, T2, Z2, q, eI, hI, sI⟩ := ih (k + 1) x' (opT wh am hr ot un qu ic Xd X k).2 (sPd_at Z1 (en + 1)) (by omega) t2 (by rw [q3]; exact PZ_at p _) (fun j hj2 => by
        by_cases e6 : j = k
        · subst e6; rw [← t1]; rw [i32_le_iff, z0] at c0; exact c0
        · exact hj j (by omega))
      refine ⟨n, x2, T2, Z2, q, ?_, hI, sI⟩
      rw [show f + (m + 1) + 1 = (f + m + 1) + 1 from rfl, L_X7_carry_s, if_neg (by omega), e]
      dsimp only
      rw [if_neg (by decide), eo]
      dsimp only
      rw [if_pos c0, skip_y p q2 q1]
      dsimp only
      rw [if_neg (by decide)]
      exact eI
    · have hneg : (opT wh am hr ot un qu ic Xd X k).1.toInt < 0 := by rw [i32_le_iff, z0] at c0; omega
      have eT : (opT wh am hr ot un qu ic Xd X k).2 = X := by
        rw [er] at hneg ⊢
        exact hrn (by rw [jI_t hr32] at hneg; exact hneg)
      refine ⟨k, x', (opT wh am hr ot un qu ic Xd X k).2, Z1, k, ?_, ⟨by omega, hj, fun _ => by rw [← t1]; exact hneg, by rw [eT]; exact hX⟩, p.2.1⟩
      rw [show f + (m + 1) + 1 = (f + m + 1) + 1 from rfl, L_X7_carry_s, if_neg (by omega), e]
      dsimp only
      rw [if_neg (by decide), eo]
      dsimp only
      rw [if_neg c0]
theorem carry_t {Dd c : Int} {T : zTr} (hT : TXn g wh am hr ot un qu ic) (hR : txR wh am hr ot un qu ic) (x0 : zDd) (h : GI Dd c T) (hc : c + 6 ≤ 400) (hD : Dd + 1 ≤ 99999) {z : zPd} (hn : gPd_n z = 29) (hg : gPd_sg z = g) (x : zDd) (y : zHs) : ∃ (n : Nat) (x' : zDd) (T' : zTr) (z' : zPd), f_X7_carryOut T x z y = (jI (n : Int), T', x', z', hist2 y T (jI (n : Int))) ∧ cRes wh am hr ot un qu ic x0 T n T' ∧ gPd_n z' = 0 ∧ gPd_sg z' = g := by
  obtain ⟨z2, e2, p2⟩ := fault_t hT hR hn hg
  obtain ⟨n, x', T', Z', q, eI, hI, sI⟩ := carry_l hT hR x0 h hc hD (f_X5_start z2) 75 5 0 x T (f_X5_start z2) rfl (TE_rf T) ⟨p2.1, p2.2.1, rfl⟩ (fun j hj => absurd hj (Nat.not_lt_zero j))
  refine ⟨n, x', T', sPd_n Z' 0, ?_, hI, rfl, sI⟩
  have ec : f_X7_carryOutOrders T x z2 = (jI (n : Int), T', x', Z') := by
    unfold f_X7_carryOutOrders
    rw [zsl_e]
    dsimp only
    rw [show (80 - 0 + 1 : Nat) = 75 + 5 + 1 from rfl, eI, if_pos rfl, ← jI_n]
  unfold f_X7_carryOut
  rw [zsl_e]
  dsimp only
  rw [e2]
  dsimp only
  rw [if_pos (show jI (-6) = -6 from rfl), ec]
  show ((f_X1_keep (f_X1_hold y T) _).1, _, _, _, hist2 y T _) = _
  rw [keep_1]
  rfl
theorem carry_hP {Dd c : Int} {T : zTr} (hT : TXn g wh am hr ot un qu ic) (hR : txR wh am hr ot un qu ic) (h : GI Dd c T) (hc : c + 6 ≤ 400) (hD : Dd + 1 ≤ 99999) {z : zPd} (hn : gPd_n z = 29) (hg : gPd_sg z = g) (x : zDd) : ∃ P : zDd → zTr → zPd → Prop, P x T (f_X5_start (f_X5_findFault z).2) ∧ ∀ X T Z, P X T Z → okT T ∧ ((f_X5_readOrder Z).1 = true → P (f_X7_carryOutOrder T X (f_X5_readOrder Z).2).2.2 (f_X7_carryOutOrder T X (f_X5_readOrder Z).2).2.1 (f_X5_skip (f_X5_readOrder Z).2 (nI 59)).2) := by
  refine ⟨fun _ V Z => ∃ k : Nat, k ≤ 6 ∧ PZ g Z (stO k) ∧ GI (dK Dd k) (c + k) V, ?_, fun X V Z hP => ?_⟩
  · obtain ⟨z2, e2, p2⟩ := fault_t hT hR hn hg
    rw [e2]
    refine ⟨0, by decide, ⟨p2.1, p2.2.1, rfl⟩, ?_⟩
    have e : c + ((0 : Nat) : Int) = c := by omega
    rw [e]
    exact h
  · obtain ⟨k, hk, hZ, hG⟩ := hP
    refine ⟨Inv_ok hG.1, fun ht => ?_⟩
    by_cases e6 : k = 6
    · exfalso
      subst e6
      have hs : f_X5_signAt Z (gPd_at Z) = nI 0 := by rw [hZ.2.2]; exact sg_out hZ (Nat.le_refl _)
      have er : (f_X5_readOrder Z).1 = false := by
        unfold f_X5_readOrder
        rw [zsl_e]
        rw [hs]
        rfl
      rw [er] at ht
      cases ht
    · obtain ⟨Z1, en, e, p, h4, h5, hco⟩ := rd_all hT hR (k := k) (by omega) hZ
      obtain ⟨x', eo⟩ := hco V X
      obtain ⟨r, T', er, -, g1, -⟩ := op_sp hR X (k := k) (by omega) hG (by omega) (by omega)
      rw [e]
      dsimp only
      rw [eo]
      refine ⟨k + 1, by omega, ?_, ?_⟩
      · by_cases e5 : k = 5
        · subst e5
          have e29 := h5 rfl
          subst e29
          rw [skip_end p (by decide)]
          exact p
        · obtain ⟨q1, q2, q3⟩ := h4 (by omega)
          rw [skip_y p q2 q1, q3]
          exact PZ_at p _
      · dsimp only
        rw [er]
        have e2 : c + ((k + 1 : Nat) : Int) = c + k + 1 := by omega
        rw [e2]
        exact g1
end TEXT
