noncomputable def L_X8_exit (h : Int32) : Nat → (zMs) → (Nat) → (zMs) × (Nat)
  | 0, X, dd => (X, dd)
  | fuel + 1, X, dd =>
    if 60 ≤ dd then
      (X, dd)
    else
      if (f_X8_bound X h.toNatClampNeg) ≤ 0 then
        (X, dd)
      else
        L_X8_exit h fuel (f_X8_endIt X) (dd + 1)
theorem L_X8_exit_s (h : Int32) (fuel : Nat) (X : zMs) (dd : Nat) : L_X8_exit h (fuel + 1) X dd = (
    if 60 ≤ dd then
      (X, dd)
    else
      if (f_X8_bound X h.toNatClampNeg) ≤ 0 then
        (X, dd)
      else
        L_X8_exit h fuel (f_X8_endIt X) (dd + 1)
  ) := rfl
noncomputable def f_X8_exitIn (S : zMs) (h : Int32) : Int32 × zMs := zsl (
  if (f_X8_isHolder h) = false then
    ((-1), S)
  else
    let X1 : zMs := ((L_X8_exit h (60 - 0 + 1) (f_X8_layAside S) 0).1)
    let d1 : Nat := ((L_X8_exit h (60 - 0 + 1) (f_X8_layAside S) 0).2)
    let x47_0 : Bool := (if (f_X8_bound X1 h.toNatClampNeg) = 0 then true else false)
    let x62_0 : Int32 := (if x47_0 = false then (-6) else (nI d1))
    (x62_0, (f_X8_layBack X1))
  )
set_option maxHeartbeats 4000000 in
set_option maxRecDepth 100000 in
theorem c_X8_exitIn (l : Launch) (D : va_G) (cy : Nat → ClassId) (m : Nat → Nat) (h : Int32)  (S : zMs) (P : zMs → Nat → Prop) (h0 : P (f_X8_layAside S) 0) (hP : ∀ X dd, dd ≤ 60 → P X dd → zCk X 122 ∧ (dd < 60 → ok_endIt X ∧ P (f_X8_endIt X) (dd + 1))) : zC l yX8_exitIn (zW yX8_exitIn cX8_exitIn 4 (Option.some Jvm.ClassFile.FieldType.int)) { frames := 7, cells := 0, slots := 0, locals := 162 } D cy [.ref (m 0), .int h] (WM cy m S) (some (.int ((f_X8_exitIn S h).1))) (WM cy m ((f_X8_exitIn S h).2)) := by
  refine zC_of rfl (Nat.le_of_ble_eq_true rfl) (zOk_i _) (fun E C hret => ?_)
  show zJ E 4 0 0 (WM cy m S) 0 [(0, .ref (m 0)), (1, .int h)] []
  refine zj_iload_n C dX8_exitIn_0 1 rfl ?_
  refine zj_callS C (nn := 0) (ws' := (WM cy m S)) (st := []) (st1 := [.int (zB (f_X8_isHolder h))]) [] (c_X8_isHolder l D cy h  ) tg_745 tg_743 tg_744 tg_9 hdZ_X8_isHolder ⟨rfl, rfl⟩ ⟨by decide, by decide⟩ rfl (by decide) ⟨rfl, rfl⟩ rfl rfl (Nat.le_of_ble_eq_true rfl) dX8_exitIn_1 rfl rfl ?_
  refine zj_if_ne C 9 dX8_exitIn_4 (by decide) (fun c => ?_) (fun c => ?_)
  · have c_4 : ¬ ((f_X8_isHolder h) = false) := (zB_neq c)
    refine zj_aload_n C dX8_exitIn_9 0 rfl ?_
    refine zj_callV C (nn := 10) (ws' := (WM cy m (f_X8_layAside S))) (st := []) (st1 := []) 0 8 [0, 1, 2, 3, 4, 5, 6, 7, 8, 9] (c_X8_layAside l D cy m  S ) (zg_V tg_940 tg_937 tg_939 tgp_48 tg_9) ⟨rfl, hdZ_X8_layAside⟩ ⟨rfl, rfl⟩ ⟨by decide, by decide⟩ rfl rfl rfl (by decide) ⟨rfl, rfl⟩ rfl rfl (Nat.le_of_ble_eq_true rfl) dX8_exitIn_10 rfl rfl ?_
    refine zj_iconst C (v := (nI 0)) dX8_exitIn_13 (by decide) ?_
    refine zj_istore_n C (L' := [(2, .int (nI 0)), (0, .ref (m 0)), (1, .int h)]) dX8_exitIn_14 rfl (by decide) rfl ?_
    have loop_15 : ∀ (fuel : Nat) (X : zMs) (dd : Nat), (hd : dd ≤ 60) → (hPk : P X dd) → 60 - dd < fuel → (P ((L_X8_exit h fuel X dd).1) ((L_X8_exit h fuel X dd).2) → ((L_X8_exit h fuel X dd).2) ≤ 60 → zJ E 4 0 0 (WM cy m ((L_X8_exit h fuel X dd).1)) 41 [(0, .ref (m 0)), (1, .int h), (2, .int (nI ((L_X8_exit h fuel X dd).2)))] []) → zJ E 4 0 0 (WM cy m X) 15 [(0, .ref (m 0)), (1, .int h), (2, .int (nI dd))] [] := by
      intro fuel
      induction fuel with
      | zero => intro X dd hd hPk hmu; exact absurd hmu (Nat.not_lt_zero _)
      | succ fuel ih_15 =>
        intro X dd hd hPk hmu_15 K_15
        refine zj_iload_n C dX8_exitIn_15 2 rfl ?_
        refine zj_bipush C (v := (nI 60)) dX8_exitIn_16 (by decide) ?_
        refine zj_icmp_ge C 41 dX8_exitIn_18 (by decide) (fun c => ?_) (fun c => ?_)
        · have c_18 : 60 ≤ dd := ((nI_leI (by omega) (by omega)).mp c)
          have e_15 : (L_X8_exit h (fuel + 1) X dd) = (X, dd) := by refine (L_X8_exit_s h fuel X dd).trans ?_; refine (if_pos c_18).trans ?_; rfl
          rw [e_15] at K_15
          exact K_15 hPk hd
        · have c_18 : ¬ (60 ≤ dd) := (fun q => c ((nI_leI (by omega) (by omega)).mpr q))
          refine zj_aload_n C dX8_exitIn_21 0 rfl ?_
          refine zj_iload_n C dX8_exitIn_22 1 rfl ?_
          refine zj_topi (nI h.toNatClampNeg) (zh_eq c_4) ?_
          refine zj_callV C (nn := 10) (ws' := (WM cy m X)) (st := []) (st1 := [.long (f_X8_bound X h.toNatClampNeg)]) 0 8 [0, 1, 2, 3, 4, 5, 6, 7, 8, 9] (c_X8_bound l D cy m h.toNatClampNeg X (zh_lt c_4) (hP X dd hd hPk).1) (zg_V tg_780 tg_777 tg_779 tgp_22 tg_9) ⟨rfl, hdZ_X8_bound⟩ ⟨rfl, rfl⟩ ⟨by decide, by decide⟩ rfl rfl rfl (by decide) ⟨rfl, rfl⟩ rfl rfl (Nat.le_of_ble_eq_true rfl) dX8_exitIn_23 rfl rfl ?_
          refine zj_lconst C (v := 0) dX8_exitIn_26 (by decide) ?_
          refine zj_lcmp_le C 41 dX8_exitIn_27 dX8_exitIn_28 (by decide) (fun c => ?_) (fun c => ?_)
          · have c_27 : (f_X8_bound X h.toNatClampNeg) ≤ 0 := c
            have e_15 : (L_X8_exit h (fuel + 1) X dd) = (X, dd) := by refine (L_X8_exit_s h fuel X dd).trans ?_; refine (if_neg c_18).trans ?_; refine (if_pos c_27).trans ?_; rfl
            rw [e_15] at K_15
            exact K_15 hPk hd
          · have c_27 : ¬ ((f_X8_bound X h.toNatClampNeg) ≤ 0) := c
            refine zj_aload_n C dX8_exitIn_31 0 rfl ?_
            refine zj_callV C (nn := 10) (ws' := (WM cy m (f_X8_endIt X))) (st := []) (st1 := []) 0 8 [0, 1, 2, 3, 4, 5, 6, 7, 8, 9] (c_X8_endIt l D cy m  X ((hP X dd hd hPk).2 (by omega)).1) (zg_V tg_820 tg_817 tg_819 tgp_30 tg_9) ⟨rfl, hdZ_X8_endIt⟩ ⟨rfl, rfl⟩ ⟨by decide, by decide⟩ rfl rfl rfl (by decide) ⟨rfl, rfl⟩ rfl rfl (Nat.le_of_ble_eq_true rfl) dX8_exitIn_32 rfl rfl ?_
            refine zj_iinc C (j := 2) (v := (nI (dd + 1))) (L' := [(2, .int (nI (dd + 1))), (0, .ref (m 0)), (1, .int h)]) dX8_exitIn_35 rfl (nI_1 _) (by decide) rfl ?_
            refine zj_goto C 15 dX8_exitIn_38 (by decide) ?_
            refine zj_sub (L' := [(0, .ref (m 0)), (1, .int h), (2, .int (nI (dd + 1)))]) [1, 2, 0] rfl ?_
            have hn_hd : (dd + 1) ≤ 60 := (by omega)
            have hn_hPk : P (f_X8_endIt X) (dd + 1) := ((hP X dd hd hPk).2 (by omega)).2
            have hn_mu : 60 - (dd + 1) < fuel := (by omega)
            have e_15 : (L_X8_exit h (fuel + 1) X dd) = (L_X8_exit h fuel (f_X8_endIt X) (dd + 1)) := by refine (L_X8_exit_s h fuel X dd).trans ?_; refine (if_neg c_18).trans ?_; refine (if_neg c_27).trans ?_; rfl
            rw [e_15] at K_15
            exact ih_15 (f_X8_endIt X) (dd + 1) hn_hd hn_hPk hn_mu K_15
    have K_15 : ∀ (X1 : zMs) (d1 : Nat), X1 = ((L_X8_exit h (60 - 0 + 1) (f_X8_layAside S) 0).1) → d1 = ((L_X8_exit h (60 - 0 + 1) (f_X8_layAside S) 0).2) → (Pe_e : P X1 d1) → (Pd_e : d1 ≤ 60) → zJ E 4 0 0 (WM cy m X1) 41 [(0, .ref (m 0)), (1, .int h), (2, .int (nI d1))] [] := by
      intro X1 d1 hX1 hd1 Pe_e Pd_e
      refine zj_aload_n C dX8_exitIn_41 0 rfl ?_
      refine zj_iload_n C dX8_exitIn_42 1 rfl ?_
      refine zj_topi (nI h.toNatClampNeg) (zh_eq c_4) ?_
      refine zj_callV C (nn := 10) (ws' := (WM cy m X1)) (st := []) (st1 := [.long (f_X8_bound X1 h.toNatClampNeg)]) 0 8 [0, 1, 2, 3, 4, 5, 6, 7, 8, 9] (c_X8_bound l D cy m h.toNatClampNeg X1 (zh_lt c_4) (hP X1 d1 Pd_e Pe_e).1) (zg_V tg_780 tg_777 tg_779 tgp_22 tg_9) ⟨rfl, hdZ_X8_bound⟩ ⟨rfl, rfl⟩ ⟨by decide, by decide⟩ rfl rfl rfl (by decide) ⟨rfl, rfl⟩ rfl rfl (Nat.le_of_ble_eq_true rfl) dX8_exitIn_43 rfl rfl ?_
      refine zj_lconst C (v := 0) dX8_exitIn_46 (by decide) ?_
      have J_47 : ∀ (x47_0 : Bool), x47_0 = (if (f_X8_bound X1 h.toNatClampNeg) = 0 then true else false) → zJ E 4 0 0 (WM cy m X1) 56 [(0, .ref (m 0)), (1, .int h), (2, .int (nI d1))] [.int (zB x47_0)] := by
        intro x47_0 hx47_0
        refine zj_istore_n C (L' := [(3, .int (zB x47_0)), (0, .ref (m 0)), (1, .int h), (2, .int (nI d1))]) dX8_exitIn_56 rfl (by decide) rfl ?_
        refine zj_aload_n C dX8_exitIn_57 1 rfl ?_
        refine zj_callV C (nn := 10) (ws' := (WM cy m (f_X8_layBack X1))) (st := []) (st1 := []) 0 8 [0, 1, 2, 3, 4, 5, 6, 7, 8, 9] (c_X8_layBack l D cy m  X1 ) (zg_V tg_944 tg_941 tg_943 tgp_49 tg_9) ⟨rfl, hdZ_X8_layBack⟩ ⟨rfl, rfl⟩ ⟨by decide, by decide⟩ rfl rfl rfl (by decide) ⟨rfl, rfl⟩ rfl rfl (Nat.le_of_ble_eq_true rfl) dX8_exitIn_58 rfl rfl ?_
        refine zj_iload_n C dX8_exitIn_61 0 rfl ?_
        have J_62 : ∀ (x62_0 : Int32), x62_0 = (if x47_0 = false then (-6) else (nI d1)) → zJ E 4 0 0 (WM cy m (f_X8_layBack X1)) 71 [(3, .int (zB x47_0)), (0, .ref (m 0)), (1, .int h), (2, .int (nI d1))] [.int x62_0] := by
          intro x62_0 hx62_0
          subst hx62_0
          subst hx47_0
          subst hd1
          subst hX1
          have e : f_X8_exitIn S h = ((if (if (f_X8_bound ((L_X8_exit h (60 - 0 + 1) (f_X8_layAside S) 0).1) h.toNatClampNeg) = 0 then true else false) = false then (-6) else (nI ((L_X8_exit h (60 - 0 + 1) (f_X8_layAside S) 0).2))), (f_X8_layBack ((L_X8_exit h (60 - 0 + 1) (f_X8_layAside S) 0).1))) := by refine (zsl_e _).trans ?_; refine (if_neg c_4).trans ?_; rfl
          rw [e] at hret
          exact hret _ _ dX8_exitIn_71
        refine zj_if_eq C 69 dX8_exitIn_62 (by decide) (fun c => ?_) (fun c => ?_)
        · have c_62 : x47_0 = false := (zB_eq c)
          refine zj_bipush C (v := (-6)) dX8_exitIn_69 (by decide) ?_
          exact J_62 (-6) (by simp only [if_neg c_4, if_pos c_62]; first | done | assumption)
        · have c_62 : ¬ (x47_0 = false) := (zB_neq c)
          refine zj_iload_n C dX8_exitIn_65 3 rfl ?_
          refine zj_goto C 71 dX8_exitIn_66 (by decide) ?_
          exact J_62 (nI d1) (by simp only [if_neg c_4, if_neg c_62]; first | done | assumption)
      refine zj_lcmp_ne C 55 dX8_exitIn_47 dX8_exitIn_48 (by decide) (fun c => ?_) (fun c => ?_)
      · have c_47 : ¬ ((f_X8_bound X1 h.toNatClampNeg) = 0) := c
        refine zj_iconst C (v := (nI 0)) dX8_exitIn_55 (by decide) ?_
        exact J_47 false (by simp only [if_neg c_4, if_neg c_47]; first | done | assumption)
      · have c_47 : (f_X8_bound X1 h.toNatClampNeg) = 0 := (Classical.not_not.mp c)
        refine zj_iconst C (v := (nI 1)) dX8_exitIn_51 (by decide) ?_
        refine zj_goto C 56 dX8_exitIn_52 (by decide) ?_
        exact J_47 true (by simp only [if_neg c_4, if_pos c_47]; first | done | assumption)
    refine zj_sub (L' := [(0, .ref (m 0)), (1, .int h), (2, .int (nI 0))]) [1, 2, 0] rfl ?_
    exact loop_15 (60 - 0 + 1) (f_X8_layAside S) 0 (by omega) h0 (Nat.lt_succ_self _) (K_15 _ _ rfl rfl)
  · have c_4 : (f_X8_isHolder h) = false := (zB_eq (Classical.not_not.mp c))
    refine zj_iconst C (v := (-1)) dX8_exitIn_7 (by decide) ?_
    have e : f_X8_exitIn S h = ((-1), S) := by refine (zsl_e _).trans ?_; refine (if_pos c_4).trans ?_; rfl
    rw [e] at hret
    exact hret _ _ dX8_exitIn_8

noncomputable def L_X8_fair (S : zMs) : Nat → (zMs) → (Int32) → (Nat) → (zMs) × (Int32) × (Nat)
  | 0, X, best, sw => (X, best, sw)
  | fuel + 1, X, best, sw =>
    if 100 < sw then
      (X, best, sw)
    else
      if 0 ≤ best then
        (X, best, sw)
      else
        let x44_0 : Int32 := (if (f_X8_middle (f_X8_endIt (sMs_at X (vp_updL (gMs_at X) 2 (lN sw))))) < (f_X8_middle S) then (-6) else (nI sw))
        L_X8_fair S fuel (f_X8_layBack (f_X8_endIt (sMs_at X (vp_updL (gMs_at X) 2 (lN sw))))) x44_0 (sw + 1)
theorem L_X8_fair_s (S : zMs) (fuel : Nat) (X : zMs) (best : Int32) (sw : Nat) : L_X8_fair S (fuel + 1) X best sw = (
    if 100 < sw then
      (X, best, sw)
    else
      if 0 ≤ best then
        (X, best, sw)
      else
        let x44_0 : Int32 := (if (f_X8_middle (f_X8_endIt (sMs_at X (vp_updL (gMs_at X) 2 (lN sw))))) < (f_X8_middle S) then (-6) else (nI sw))
        L_X8_fair S fuel (f_X8_layBack (f_X8_endIt (sMs_at X (vp_updL (gMs_at X) 2 (lN sw))))) x44_0 (sw + 1)
  ) := rfl
noncomputable def f_X8_fairSwing (S : zMs) : Int32 × zMs := zsl (
  let X1 : zMs := ((L_X8_fair S (101 - 0 + 1) (f_X8_layAside S) (-6) 0).1)
  let best1 : Int32 := ((L_X8_fair S (101 - 0 + 1) (f_X8_layAside S) (-6) 0).2.1)
  let sw1 : Nat := ((L_X8_fair S (101 - 0 + 1) (f_X8_layAside S) (-6) 0).2.2)
  (best1, X1)
  )
set_option maxHeartbeats 4000000 in
set_option maxRecDepth 100000 in
theorem c_X8_fairSwing (l : Launch) (D : va_G) (cy : Nat → ClassId) (m : Nat → Nat)   (S : zMs) (P : zMs → Prop) (h0 : P (f_X8_layAside S)) (hP : ∀ X (sw : Nat), sw ≤ 100 → P X → ok_endIt (sMs_at X (vp_updL (gMs_at X) 2 (lN sw))) ∧ P (f_X8_layBack (f_X8_endIt (sMs_at X (vp_updL (gMs_at X) 2 (lN sw)))))) : zC l yX8_fairSwing (zW yX8_fairSwing cX8_fairSwing 5 (Option.some Jvm.ClassFile.FieldType.int)) { frames := 7, cells := 0, slots := 0, locals := 162 } D cy [.ref (m 0)] (WM cy m S) (some (.int ((f_X8_fairSwing S).1))) (WM cy m ((f_X8_fairSwing S).2)) := by
  refine zC_of rfl (Nat.le_of_ble_eq_true rfl) (zOk_i _) (fun E C hret => ?_)
  show zJ E 5 0 0 (WM cy m S) 0 [(0, .ref (m 0))] []
  refine zj_aload_n C dX8_fairSwing_0 0 rfl ?_
  refine zj_callV C (nn := 10) (ws' := (WM cy m S)) (st := []) (st1 := [.long (f_X8_middle S)]) 0 8 [0, 1, 2, 3, 4, 5, 6, 7, 8, 9] (c_X8_middle l D cy m  S ) (zg_V tg_828 tg_825 tg_827 tgp_32 tg_9) ⟨rfl, hdZ_X8_middle⟩ ⟨rfl, rfl⟩ ⟨by decide, by decide⟩ rfl rfl rfl (by decide) ⟨rfl, rfl⟩ rfl rfl (Nat.le_of_ble_eq_true rfl) dX8_fairSwing_1 rfl rfl ?_
  refine zj_lstore_n C (L' := [(1, .long (f_X8_middle S)), (0, .ref (m 0))]) dX8_fairSwing_4 rfl (by decide) rfl ?_
  refine zj_bipush C (v := (-6)) dX8_fairSwing_5 (by decide) ?_
  refine zj_istore_n C (L' := [(3, .int (-6)), (1, .long (f_X8_middle S)), (0, .ref (m 0))]) dX8_fairSwing_7 rfl (by decide) rfl ?_
  refine zj_aload_n C dX8_fairSwing_8 2 rfl ?_
  refine zj_callV C (nn := 10) (ws' := (WM cy m (f_X8_layAside S))) (st := []) (st1 := []) 0 8 [0, 1, 2, 3, 4, 5, 6, 7, 8, 9] (c_X8_layAside l D cy m  S ) (zg_V tg_940 tg_937 tg_939 tgp_48 tg_9) ⟨rfl, hdZ_X8_layAside⟩ ⟨rfl, rfl⟩ ⟨by decide, by decide⟩ rfl rfl rfl (by decide) ⟨rfl, rfl⟩ rfl rfl (Nat.le_of_ble_eq_true rfl) dX8_fairSwing_9 rfl rfl ?_
  refine zj_iconst C (v := (nI 0)) dX8_fairSwing_12 (by decide) ?_
  refine zj_istore C (L' := [(4, .int (nI 0)), (3, .int (-6)), (1, .long (f_X8_middle S)), (0, .ref (m 0))]) dX8_fairSwing_13 (by decide) rfl ?_
  have loop_15 : ∀ (fuel : Nat) (X : zMs) (best : Int32) (sw : Nat), (hsw : sw ≤ 101) → (hPk : P X) → 101 - sw < fuel → (zJ E 5 0 0 (WM cy m ((L_X8_fair S fuel X best sw).1)) 66 [(0, .ref (m 0)), (3, .int ((L_X8_fair S fuel X best sw).2.1))] []) → zJ E 5 0 0 (WM cy m X) 15 [(0, .ref (m 0)), (1, .long (f_X8_middle S)), (3, .int best), (4, .int (nI sw))] [] := by
    intro fuel
    induction fuel with
    | zero => intro X best sw hsw hPk hmu; exact absurd hmu (Nat.not_lt_zero _)
    | succ fuel ih_15 =>
      intro X best sw hsw hPk hmu_15 K_15
      refine zj_iload C dX8_fairSwing_15 3 rfl ?_
      refine zj_bipush C (v := (nI 100)) dX8_fairSwing_17 (by decide) ?_
      refine zj_icmp_gt C 66 dX8_fairSwing_19 (by decide) (fun c => ?_) (fun c => ?_)
      · have c_19 : 100 < sw := ((nI_ltI (by omega) (by omega)).mp c)
        refine zj_sub (L' := [(0, .ref (m 0)), (3, .int best)]) [0, 2] rfl ?_
        have e_15 : (L_X8_fair S (fuel + 1) X best sw) = (X, best, sw) := by refine (L_X8_fair_s S fuel X best sw).trans ?_; refine (if_pos c_19).trans ?_; rfl
        rw [e_15] at K_15
        exact K_15 
      · have c_19 : ¬ (100 < sw) := (fun q => c ((nI_ltI (by omega) (by omega)).mpr q))
        refine zj_iload_n C dX8_fairSwing_22 2 rfl ?_
        refine zj_if_ge C 66 dX8_fairSwing_23 (by decide) (fun c => ?_) (fun c => ?_)
        · have c_23 : 0 ≤ best := c
          refine zj_sub (L' := [(0, .ref (m 0)), (3, .int best)]) [0, 2] rfl ?_
          have e_15 : (L_X8_fair S (fuel + 1) X best sw) = (X, best, sw) := by refine (L_X8_fair_s S fuel X best sw).trans ?_; refine (if_neg c_19).trans ?_; refine (if_pos c_23).trans ?_; rfl
          rw [e_15] at K_15
          exact K_15 
        · have c_23 : ¬ (0 ≤ best) := c
          refine zj_aload_n C dX8_fairSwing_26 0 rfl ?_
          refine zj_get C 0 8 0 (v := .ref (m 1)) inZ8 rfl rfl (by decide) tg_677 rfl dX8_fairSwing_27 ?_
          refine zj_iconst C (v := (nI 2)) dX8_fairSwing_30 (by decide) ?_
          refine zj_iload C dX8_fairSwing_31 3 rfl ?_
          refine zj_i2l C dX8_fairSwing_33 ?_
          refine zj_topl (lN sw) (nI_l (by omega)) ?_
          refine zj_last C 1 (f := (gMs_at X)) (ws' := (WM cy m (sMs_at X (vp_updL (gMs_at X) 2 (lN sw))))) 2 (by decide) (vp_in_nI (by decide) (by decide)) rfl dX8_fairSwing_34 rfl ?_
          refine zj_aload_n C dX8_fairSwing_35 0 rfl ?_
          refine zj_callV C (nn := 10) (ws' := (WM cy m (f_X8_endIt (sMs_at X (vp_updL (gMs_at X) 2 (lN sw)))))) (st := []) (st1 := []) 0 8 [0, 1, 2, 3, 4, 5, 6, 7, 8, 9] (c_X8_endIt l D cy m  (sMs_at X (vp_updL (gMs_at X) 2 (lN sw))) (hP X sw (by omega) hPk).1) (zg_V tg_820 tg_817 tg_819 tgp_30 tg_9) ⟨rfl, hdZ_X8_endIt⟩ ⟨rfl, rfl⟩ ⟨by decide, by decide⟩ rfl rfl rfl (by decide) ⟨rfl, rfl⟩ rfl rfl (Nat.le_of_ble_eq_true rfl) dX8_fairSwing_36 rfl rfl ?_
          refine zj_aload_n C dX8_fairSwing_39 0 rfl ?_
          refine zj_callV C (nn := 10) (ws' := (WM cy m (f_X8_endIt (sMs_at X (vp_updL (gMs_at X) 2 (lN sw)))))) (st := []) (st1 := [.long (f_X8_middle (f_X8_endIt (sMs_at X (vp_updL (gMs_at X) 2 (lN sw)))))]) 0 8 [0, 1, 2, 3, 4, 5, 6, 7, 8, 9] (c_X8_middle l D cy m  (f_X8_endIt (sMs_at X (vp_updL (gMs_at X) 2 (lN sw)))) ) (zg_V tg_828 tg_825 tg_827 tgp_32 tg_9) ⟨rfl, hdZ_X8_middle⟩ ⟨rfl, rfl⟩ ⟨by decide, by decide⟩ rfl rfl rfl (by decide) ⟨rfl, rfl⟩ rfl rfl (Nat.le_of_ble_eq_true rfl) dX8_fairSwing_40 rfl rfl ?_
          refine zj_lload_n C dX8_fairSwing_43 1 rfl ?_
          have J_44 : ∀ (x44_0 : Int32), x44_0 = (if (f_X8_middle (f_X8_endIt (sMs_at X (vp_updL (gMs_at X) 2 (lN sw))))) < (f_X8_middle S) then (-6) else (nI sw)) → zJ E 5 0 0 (WM cy m (f_X8_endIt (sMs_at X (vp_updL (gMs_at X) 2 (lN sw))))) 55 [(0, .ref (m 0)), (1, .long (f_X8_middle S)), (3, .int best), (4, .int (nI sw))] [.int x44_0] := by
            intro x44_0 hx44_0
            refine zj_istore_n C (L' := [(3, .int x44_0), (0, .ref (m 0)), (1, .long (f_X8_middle S)), (4, .int (nI sw))]) dX8_fairSwing_55 rfl (by decide) rfl ?_
            refine zj_aload_n C dX8_fairSwing_56 1 rfl ?_
            refine zj_callV C (nn := 10) (ws' := (WM cy m (f_X8_layBack (f_X8_endIt (sMs_at X (vp_updL (gMs_at X) 2 (lN sw))))))) (st := []) (st1 := []) 0 8 [0, 1, 2, 3, 4, 5, 6, 7, 8, 9] (c_X8_layBack l D cy m  (f_X8_endIt (sMs_at X (vp_updL (gMs_at X) 2 (lN sw)))) ) (zg_V tg_944 tg_941 tg_943 tgp_49 tg_9) ⟨rfl, hdZ_X8_layBack⟩ ⟨rfl, rfl⟩ ⟨by decide, by decide⟩ rfl rfl rfl (by decide) ⟨rfl, rfl⟩ rfl rfl (Nat.le_of_ble_eq_true rfl) dX8_fairSwing_57 rfl rfl ?_
            refine zj_iinc C (j := 3) (v := (nI (sw + 1))) (L' := [(4, .int (nI (sw + 1))), (3, .int x44_0), (0, .ref (m 0)), (1, .long (f_X8_middle S))]) dX8_fairSwing_60 rfl (nI_1 _) (by decide) rfl ?_
            refine zj_goto C 15 dX8_fairSwing_63 (by decide) ?_
            refine zj_sub (L' := [(0, .ref (m 0)), (1, .long (f_X8_middle S)), (3, .int x44_0), (4, .int (nI (sw + 1)))]) [2, 3, 1, 0] rfl ?_
            have hn_hsw : (sw + 1) ≤ 101 := (by omega)
            have hn_hPk : P (f_X8_layBack (f_X8_endIt (sMs_at X (vp_updL (gMs_at X) 2 (lN sw))))) := (hP X sw (by omega) hPk).2
            have hn_mu : 101 - (sw + 1) < fuel := (by omega)
            subst hx44_0
            have e_15 : (L_X8_fair S (fuel + 1) X best sw) = (L_X8_fair S fuel (f_X8_layBack (f_X8_endIt (sMs_at X (vp_updL (gMs_at X) 2 (lN sw))))) (if (f_X8_middle (f_X8_endIt (sMs_at X (vp_updL (gMs_at X) 2 (lN sw))))) < (f_X8_middle S) then (-6) else (nI sw)) (sw + 1)) := by refine (L_X8_fair_s S fuel X best sw).trans ?_; refine (if_neg c_19).trans ?_; refine (if_neg c_23).trans ?_; rfl
            rw [e_15] at K_15
            exact ih_15 (f_X8_layBack (f_X8_endIt (sMs_at X (vp_updL (gMs_at X) 2 (lN sw))))) (if (f_X8_middle (f_X8_endIt (sMs_at X (vp_updL (gMs_at X) 2 (lN sw))))) < (f_X8_middle S) then (-6) else (nI sw)) (sw + 1) hn_hsw hn_hPk hn_mu K_15
          refine zj_lcmp_lt C 53 dX8_fairSwing_44 dX8_fairSwing_45 (by decide) (fun c => ?_) (fun c => ?_)
          · have c_44 : (f_X8_middle (f_X8_endIt (sMs_at X (vp_updL (gMs_at X) 2 (lN sw))))) < (f_X8_middle S) := c
            refine zj_bipush C (v := (-6)) dX8_fairSwing_53 (by decide) ?_
            exact J_44 (-6) (by simp only [if_neg c_19, if_neg c_23, if_pos c_44]; first | done | assumption)
          · have c_44 : ¬ ((f_X8_middle (f_X8_endIt (sMs_at X (vp_updL (gMs_at X) 2 (lN sw))))) < (f_X8_middle S)) := c
            refine zj_iload C dX8_fairSwing_48 3 rfl ?_
            refine zj_goto C 55 dX8_fairSwing_50 (by decide) ?_
            exact J_44 (nI sw) (by simp only [if_neg c_19, if_neg c_23, if_neg c_44]; first | done | assumption)
  have K_15 : ∀ (X1 : zMs) (best1 : Int32) (sw1 : Nat), X1 = ((L_X8_fair S (101 - 0 + 1) (f_X8_layAside S) (-6) 0).1) → best1 = ((L_X8_fair S (101 - 0 + 1) (f_X8_layAside S) (-6) 0).2.1) → sw1 = ((L_X8_fair S (101 - 0 + 1) (f_X8_layAside S) (-6) 0).2.2) → zJ E 5 0 0 (WM cy m X1) 66 [(0, .ref (m 0)), (3, .int best1)] [] := by
    intro X1 best1 sw1 hX1 hbest1 hsw1 
    refine zj_iload_n C dX8_fairSwing_66 1 rfl ?_
    subst hsw1
    subst hbest1
    subst hX1
    have e : f_X8_fairSwing S = (((L_X8_fair S (101 - 0 + 1) (f_X8_layAside S) (-6) 0).2.1), ((L_X8_fair S (101 - 0 + 1) (f_X8_layAside S) (-6) 0).1)) := by refine (zsl_e _).trans ?_; rfl
    rw [e] at hret
    exact hret _ _ dX8_fairSwing_67
  refine zj_sub (L' := [(0, .ref (m 0)), (1, .long (f_X8_middle S)), (3, .int (-6)), (4, .int (nI 0))]) [3, 2, 1, 0] rfl ?_
  exact loop_15 (101 - 0 + 1) (f_X8_layAside S) (-6) 0 (by omega) h0 (Nat.lt_succ_self _) (K_15 _ _ _ rfl rfl rfl)

theorem zsh_r (x : Int64) : (x.toUInt64 >>> ((nI 8).toInt64.toUInt64 &&& Int64.toUInt64 63)).toInt64 = (x.toUInt64 >>> 8).toInt64 := rfl
theorem zsh_s (x : Int64) (y : Int32) : x >>> (y.toInt64 &&& 63) = x >>> (y.toInt64 &&& 63) := rfl

noncomputable def L_X8_put1  : Nat → (Nat) → (Int64) → (Bool) × (Int32) × (Nat) × (Int64)
  | 0, mn, rest => (false, 0, mn, rest)
  | fuel + 1, mn, rest =>
    if 8 ≤ mn then
      (false, 0, mn, rest)
    else
      if (rest &&& 255) = 0 then
        (false, 0, mn, rest)
      else
        if (f_X8_in (rest &&& 255) 33 126) = false then
          (true, (-2), mn, rest)
        else
          L_X8_put1  fuel (mn + 1) ((rest.toUInt64 >>> 8).toInt64)
theorem L_X8_put1_s  (fuel : Nat) (mn : Nat) (rest : Int64) : L_X8_put1  (fuel + 1) mn rest = (
    if 8 ≤ mn then
      (false, 0, mn, rest)
    else
      if (rest &&& 255) = 0 then
        (false, 0, mn, rest)
      else
        if (f_X8_in (rest &&& 255) 33 126) = false then
          (true, (-2), mn, rest)
        else
          L_X8_put1  fuel (mn + 1) ((rest.toUInt64 >>> 8).toInt64)
  ) := rfl
noncomputable def L_X8_put2 (S : zMs) (ch : Int64) (mn1 : Nat) : Nat → (Nat → Int32) → (Nat) → (Nat → Int32) × (Nat)
  | 0, pd, k => (pd, k)
  | fuel + 1, pd, k =>
    if mn1 ≤ k then
      (pd, k)
    else
      L_X8_put2 S ch mn1 fuel (upd pd ((gMs_pdm S) + k) ((((ch >>> ((nI (8 * ((mn1 - 1) - k))).toInt64 &&& 63)) &&& 255)).toInt32)) (k + 1)
theorem L_X8_put2_s (S : zMs) (ch : Int64) (mn1 : Nat) (fuel : Nat) (pd : Nat → Int32) (k : Nat) : L_X8_put2 S ch mn1 (fuel + 1) pd k = (
    if mn1 ≤ k then
      (pd, k)
    else
      L_X8_put2 S ch mn1 fuel (upd pd ((gMs_pdm S) + k) ((((ch >>> ((nI (8 * ((mn1 - 1) - k))).toInt64 &&& 63)) &&& 255)).toInt32)) (k + 1)
  ) := rfl
noncomputable def f_X8_put (S : zMs) (ch : Int64) : Int32 × zMs := zsl (
  let fl_5 : Bool := ((L_X8_put1  (8 - 0 + 1) 0 ch).1)
  let rv_5 : Int32 := ((L_X8_put1  (8 - 0 + 1) 0 ch).2.1)
  let mn1 : Nat := ((L_X8_put1  (8 - 0 + 1) 0 ch).2.2.1)
  let rest1 : Int64 := ((L_X8_put1  (8 - 0 + 1) 0 ch).2.2.2)
  if fl_5 = true then
    (rv_5, S)
  else
    if mn1 = 0 then
      ((-2), S)
    else
      if rest1 = 0 then
        if ((gMs_pdm S) + mn1) ≤ 80 then
          let pd2 : Nat → Int32 := ((L_X8_put2 S ch mn1 (mn1 - 0 + 1) (gMs_pd S) 0).1)
          let k2 : Nat := ((L_X8_put2 S ch mn1 (mn1 - 0 + 1) (gMs_pd S) 0).2)
          ((nI ((gMs_pdm S) + mn1)), (sMs_pdm (sMs_pd S pd2) ((gMs_pdm S) + mn1)))
        else
          ((-4), S)
      else
        ((-2), S)
  )
set_option maxHeartbeats 4000000 in
set_option maxRecDepth 100000 in
theorem c_X8_put (l : Launch) (D : va_G) (cy : Nat → ClassId) (m : Nat → Nat) (ch : Int64)  (S : zMs) (hp : gMs_pdm S ≤ 80) : zC l yX8_put (zW yX8_put cX8_put 7 (Option.some Jvm.ClassFile.FieldType.int)) { frames := 1, cells := 0, slots := 0, locals := 25 } D cy [.ref (m 0), .long ch] (WM cy m S) (some (.int ((f_X8_put S ch).1))) (WM cy m ((f_X8_put S ch).2)) := by
  refine zC_of rfl (Nat.le_of_ble_eq_true rfl) (zOk_i _) (fun E C hret => ?_)
  show zJ E 7 0 0 (WM cy m S) 0 [(0, .ref (m 0)), (1, .long ch)] []
  refine zj_iconst C (v := (nI 0)) dX8_put_0 (by decide) ?_
  refine zj_istore_n C (L' := [(3, .int (nI 0)), (0, .ref (m 0)), (1, .long ch)]) dX8_put_1 rfl (by decide) rfl ?_
  refine zj_lload_n C dX8_put_2 2 rfl ?_
  refine zj_lstore C (L' := [(4, .long ch), (3, .int (nI 0)), (0, .ref (m 0)), (1, .long ch)]) dX8_put_3 (by decide) rfl ?_
  have loop_5 : ∀ (fuel : Nat) (mn : Nat) (rest : Int64), (hmn : mn ≤ 8) → 8 - mn < fuel → (((L_X8_put1  fuel mn rest).1) = false → ((L_X8_put1  fuel mn rest).2.2.1) ≤ 8 → zJ E 7 0 0 (WM cy m S) 56 [(0, .ref (m 0)), (1, .long ch), (3, .int (nI ((L_X8_put1  fuel mn rest).2.2.1))), (4, .long ((L_X8_put1  fuel mn rest).2.2.2))] []) → (((L_X8_put1  fuel mn rest).1) = true → zR E cX8_put 7 (some (.int ((L_X8_put1  fuel mn rest).2.1))) (WM cy m S)) → zJ E 7 0 0 (WM cy m S) 5 [(0, .ref (m 0)), (1, .long ch), (3, .int (nI mn)), (4, .long rest)] [] := by
    intro fuel
    induction fuel with
    | zero => intro mn rest hmn hmu; exact absurd hmu (Nat.not_lt_zero _)
    | succ fuel ih_5 =>
      intro mn rest hmn hmu_5 K_5 R_5
      refine zj_iload_n C dX8_put_5 2 rfl ?_
      refine zj_bipush C (v := (nI 8)) dX8_put_6 (by decide) ?_
      refine zj_icmp_ge C 56 dX8_put_8 (by decide) (fun c => ?_) (fun c => ?_)
      · have c_8 : 8 ≤ mn := ((nI_leI (by omega) (by omega)).mp c)
        have e_5 : (L_X8_put1  (fuel + 1) mn rest) = (false, 0, mn, rest) := by refine (L_X8_put1_s  fuel mn rest).trans ?_; refine (if_pos c_8).trans ?_; rfl
        rw [e_5] at K_5 R_5
        exact K_5 rfl hmn
      · have c_8 : ¬ (8 ≤ mn) := (fun q => c ((nI_leI (by omega) (by omega)).mpr q))
        refine zj_lload C dX8_put_11 3 rfl ?_
        refine zj_ldc2 C dX8_put_13 tg_953 ?_
        refine zj_land C dX8_put_16 ?_
        refine zj_lconst C (v := 0) dX8_put_17 (by decide) ?_
        refine zj_lcmp_eq C 56 dX8_put_18 dX8_put_19 (by decide) (fun c => ?_) (fun c => ?_)
        · have c_18 : (rest &&& 255) = 0 := c
          have e_5 : (L_X8_put1  (fuel + 1) mn rest) = (false, 0, mn, rest) := by refine (L_X8_put1_s  fuel mn rest).trans ?_; refine (if_neg c_8).trans ?_; refine (if_pos c_18).trans ?_; rfl
          rw [e_5] at K_5 R_5
          exact K_5 rfl hmn
        · have c_18 : ¬ ((rest &&& 255) = 0) := c
          refine zj_lload C dX8_put_22 3 rfl ?_
          refine zj_ldc2 C dX8_put_24 tg_953 ?_
          refine zj_land C dX8_put_27 ?_
          refine zj_ldc2 C dX8_put_28 tg_954 ?_
          refine zj_ldc2 C dX8_put_31 tg_955 ?_
          refine zj_callS C (nn := 0) (ws' := (WM cy m S)) (st := []) (st1 := [.int (zB (f_X8_in (rest &&& 255) 33 126))]) [] (c_X8_in l D cy (rest &&& 255) 33 126  ) tg_730 tg_728 tg_729 tg_9 hdZ_X8_in ⟨rfl, rfl⟩ ⟨by decide, by decide⟩ rfl (by decide) ⟨rfl, rfl⟩ rfl rfl (Nat.le_of_ble_eq_true rfl) dX8_put_34 rfl rfl ?_
          refine zj_if_ne C 43 dX8_put_37 (by decide) (fun c => ?_) (fun c => ?_)
          · have c_37 : ¬ ((f_X8_in (rest &&& 255) 33 126) = false) := (zB_neq c)
            refine zj_iinc C (j := 2) (v := (nI (mn + 1))) (L' := [(3, .int (nI (mn + 1))), (0, .ref (m 0)), (1, .long ch), (4, .long rest)]) dX8_put_43 rfl (nI_1 _) (by decide) rfl ?_
            refine zj_lload C dX8_put_46 3 rfl ?_
            refine zj_bipush C (v := (nI 8)) dX8_put_48 (by decide) ?_
            refine zj_lushr C (v := (rest.toUInt64 >>> 8).toInt64) dX8_put_50 (zsh_r _) ?_
            refine zj_lstore C (L' := [(4, .long (rest.toUInt64 >>> 8).toInt64), (3, .int (nI (mn + 1))), (0, .ref (m 0)), (1, .long ch)]) dX8_put_51 (by decide) rfl ?_
            refine zj_goto C 5 dX8_put_53 (by decide) ?_
            refine zj_sub (L' := [(0, .ref (m 0)), (1, .long ch), (3, .int (nI (mn + 1))), (4, .long (rest.toUInt64 >>> 8).toInt64)]) [2, 3, 1, 0] rfl ?_
            have hn_hmn : (mn + 1) ≤ 8 := (by omega)
            have hn_mu : 8 - (mn + 1) < fuel := (by omega)
            have e_5 : (L_X8_put1  (fuel + 1) mn rest) = (L_X8_put1  fuel (mn + 1) ((rest.toUInt64 >>> 8).toInt64)) := by refine (L_X8_put1_s  fuel mn rest).trans ?_; refine (if_neg c_8).trans ?_; refine (if_neg c_18).trans ?_; refine (if_neg c_37).trans ?_; rfl
            rw [e_5] at K_5 R_5
            exact ih_5 (mn + 1) ((rest.toUInt64 >>> 8).toInt64) hn_hmn hn_mu K_5 R_5
          · have c_37 : (f_X8_in (rest &&& 255) 33 126) = false := (zB_eq (Classical.not_not.mp c))
            refine zj_bipush C (v := (-2)) dX8_put_40 (by decide) ?_
            have e_5 : (L_X8_put1  (fuel + 1) mn rest) = (true, (-2), mn, rest) := by refine (L_X8_put1_s  fuel mn rest).trans ?_; refine (if_neg c_8).trans ?_; refine (if_neg c_18).trans ?_; refine (if_pos c_37).trans ?_; rfl
            rw [e_5] at K_5 R_5
            exact R_5 rfl _ _ dX8_put_42
  have K_5 : ∀ (fl_5 : Bool) (rv_5 : Int32) (mn1 : Nat) (rest1 : Int64), fl_5 = ((L_X8_put1  (8 - 0 + 1) 0 ch).1) → rv_5 = ((L_X8_put1  (8 - 0 + 1) 0 ch).2.1) → mn1 = ((L_X8_put1  (8 - 0 + 1) 0 ch).2.2.1) → rest1 = ((L_X8_put1  (8 - 0 + 1) 0 ch).2.2.2) → fl_5 = false → (pm_e : mn1 ≤ 8) → zJ E 7 0 0 (WM cy m S) 56 [(0, .ref (m 0)), (1, .long ch), (3, .int (nI mn1)), (4, .long rest1)] [] := by
    intro fl_5 rv_5 mn1 rest1 hfl_5 hrv_5 hmn1 hrest1 hfl_5_0 pm_e
    have c_fl5 : ¬ fl_5 = true := by rw [hfl_5_0]; decide
    refine zj_iload_n C dX8_put_56 2 rfl ?_
    refine zj_if_eq C 67 dX8_put_57 (by decide) (fun c => ?_) (fun c => ?_)
    · have c_57 : mn1 = 0 := ((zn_eq0 (by omega)).mp c)
      refine zj_bipush C (v := (-2)) dX8_put_67 (by decide) ?_
      subst hrest1
      subst hmn1
      subst hrv_5
      subst hfl_5
      have e : f_X8_put S ch = ((-2), S) := by refine (zsl_e _).trans ?_; refine (if_neg c_fl5).trans ?_; refine (if_pos c_57).trans ?_; rfl
      rw [e] at hret
      exact hret _ _ dX8_put_69
    · have c_57 : ¬ (mn1 = 0) := (fun q => c ((zn_eq0 (by omega)).mpr q))
      refine zj_lload C dX8_put_60 3 rfl ?_
      refine zj_lconst C (v := 0) dX8_put_62 (by decide) ?_
      refine zj_lcmp_eq C 70 dX8_put_63 dX8_put_64 (by decide) (fun c => ?_) (fun c => ?_)
      · have c_63 : rest1 = 0 := c
        refine zj_aload_n C dX8_put_70 0 rfl ?_
        refine zj_get C 0 8 9 (v := .int (nI (gMs_pdm S))) inZ8 rfl rfl (by decide) tg_686 rfl dX8_put_71 ?_
        refine zj_iload_n C dX8_put_74 2 rfl ?_
        refine zj_iadd C dX8_put_75 ?_
        refine zj_topi (nI ((gMs_pdm S) + mn1)) (nI_add _ _) ?_
        refine zj_bipush C (v := (nI 80)) dX8_put_76 (by decide) ?_
        refine zj_icmp_le C 84 dX8_put_78 (by decide) (fun c => ?_) (fun c => ?_)
        · have c_78 : ((gMs_pdm S) + mn1) ≤ 80 := ((nI_leI (by omega) (by omega)).mp c)
          refine zj_iconst C (v := (nI 0)) dX8_put_84 (by decide) ?_
          refine zj_istore C (L' := [(6, .int (nI 0)), (0, .ref (m 0)), (1, .long ch), (3, .int (nI mn1)), (4, .long rest1)]) dX8_put_85 (by decide) rfl ?_
          have loop_87 : ∀ (fuel : Nat) (pd : Nat → Int32) (k : Nat), (hk : k ≤ 8) → mn1 - k < fuel → (zJ E 7 0 0 (WM cy m (sMs_pd S ((L_X8_put2 S ch mn1 fuel pd k).1))) 127 [(0, .ref (m 0)), (3, .int (nI mn1))] []) → zJ E 7 0 0 (WM cy m (sMs_pd S pd)) 87 [(0, .ref (m 0)), (1, .long ch), (3, .int (nI mn1)), (4, .long rest1), (6, .int (nI k))] [] := by
            intro fuel
            induction fuel with
            | zero => intro pd k hk hmu; exact absurd hmu (Nat.not_lt_zero _)
            | succ fuel ih_87 =>
              intro pd k hk hmu_87 K_87
              refine zj_iload C dX8_put_87 4 rfl ?_
              refine zj_iload_n C dX8_put_89 2 rfl ?_
              refine zj_icmp_ge C 127 dX8_put_90 (by decide) (fun c => ?_) (fun c => ?_)
              · have c_90 : mn1 ≤ k := ((nI_leI (by omega) (by omega)).mp c)
                refine zj_sub (L' := [(0, .ref (m 0)), (3, .int (nI mn1))]) [0, 2] rfl ?_
                have e_87 : (L_X8_put2 S ch mn1 (fuel + 1) pd k) = (pd, k) := by refine (L_X8_put2_s S ch mn1 fuel pd k).trans ?_; refine (if_pos c_90).trans ?_; rfl
                rw [e_87] at K_87
                exact K_87 
              · have c_90 : ¬ (mn1 ≤ k) := (fun q => c ((nI_leI (by omega) (by omega)).mpr q))
                refine zj_aload_n C dX8_put_93 0 rfl ?_
                refine zj_get C 0 8 8 (v := .ref (m 7)) inZ8 rfl rfl (by decide) tg_685 rfl dX8_put_94 ?_
                refine zj_aload_n C dX8_put_97 0 rfl ?_
                refine zj_get C 0 8 9 (v := .int (nI (gMs_pdm S))) inZ8 rfl rfl (by decide) tg_686 rfl dX8_put_98 ?_
                refine zj_iload C dX8_put_101 4 rfl ?_
                refine zj_iadd C dX8_put_103 ?_
                refine zj_topi (nI ((gMs_pdm S) + k)) (nI_add _ _) ?_
                refine zj_lload_n C dX8_put_104 1 rfl ?_
                refine zj_bipush C (v := (nI 8)) dX8_put_105 (by decide) ?_
                refine zj_iload_n C dX8_put_107 2 rfl ?_
                refine zj_iconst C (v := (nI 1)) dX8_put_108 (by decide) ?_
                refine zj_isub C dX8_put_109 ?_
                refine zj_topi (nI (mn1 - 1)) (pk_sub (by omega)) ?_
                refine zj_iload C dX8_put_110 4 rfl ?_
                refine zj_isub C dX8_put_112 ?_
                refine zj_topi (nI ((mn1 - 1) - k)) (pk_sub (by omega)) ?_
                refine zj_imul C dX8_put_113 ?_
                refine zj_topi (nI (8 * ((mn1 - 1) - k))) (pk_mul _ _) ?_
                refine zj_lshr C (v := (ch >>> ((nI (8 * ((mn1 - 1) - k))).toInt64 &&& 63))) dX8_put_114 rfl ?_
                refine zj_ldc2 C dX8_put_115 tg_953 ?_
                refine zj_land C dX8_put_118 ?_
                refine zj_l2i C dX8_put_119 ?_
                refine zj_iast C 7 (f := pd) (ws' := (WM cy m (sMs_pd S (upd pd ((gMs_pdm S) + k) ((((ch >>> ((nI (8 * ((mn1 - 1) - k))).toInt64 &&& 63)) &&& 255)).toInt32))))) ((gMs_pdm S) + k) (nI_clamp (by omega)) (vp_in_nI (by omega) (by omega)) rfl dX8_put_120 rfl ?_
                refine zj_iinc C (j := 4) (v := (nI (k + 1))) (L' := [(6, .int (nI (k + 1))), (0, .ref (m 0)), (1, .long ch), (3, .int (nI mn1)), (4, .long rest1)]) dX8_put_121 rfl (nI_1 _) (by decide) rfl ?_
                refine zj_goto C 87 dX8_put_124 (by decide) ?_
                refine zj_sub (L' := [(0, .ref (m 0)), (1, .long ch), (3, .int (nI mn1)), (4, .long rest1), (6, .int (nI (k + 1)))]) [1, 2, 3, 4, 0] rfl ?_
                have hn_hk : (k + 1) ≤ 8 := (by omega)
                have hn_mu : mn1 - (k + 1) < fuel := (by omega)
                have e_87 : (L_X8_put2 S ch mn1 (fuel + 1) pd k) = (L_X8_put2 S ch mn1 fuel (upd pd ((gMs_pdm S) + k) ((((ch >>> ((nI (8 * ((mn1 - 1) - k))).toInt64 &&& 63)) &&& 255)).toInt32)) (k + 1)) := by refine (L_X8_put2_s S ch mn1 fuel pd k).trans ?_; refine (if_neg c_90).trans ?_; rfl
                rw [e_87] at K_87
                exact ih_87 (upd pd ((gMs_pdm S) + k) ((((ch >>> ((nI (8 * ((mn1 - 1) - k))).toInt64 &&& 63)) &&& 255)).toInt32)) (k + 1) hn_hk hn_mu K_87
          have K_87 : ∀ (pd2 : Nat → Int32) (k2 : Nat), pd2 = ((L_X8_put2 S ch mn1 (mn1 - 0 + 1) (gMs_pd S) 0).1) → k2 = ((L_X8_put2 S ch mn1 (mn1 - 0 + 1) (gMs_pd S) 0).2) → zJ E 7 0 0 (WM cy m (sMs_pd S pd2)) 127 [(0, .ref (m 0)), (3, .int (nI mn1))] [] := by
            intro pd2 k2 hpd2 hk2 
            refine zj_aload_n C dX8_put_127 0 rfl ?_
            refine zj_dup C dX8_put_128 rfl ?_
            refine zj_get C 0 8 9 (v := .int (nI (gMs_pdm S))) inZ8 rfl rfl (by decide) tg_686 rfl dX8_put_129 ?_
            refine zj_iload_n C dX8_put_132 1 rfl ?_
            refine zj_iadd C dX8_put_133 ?_
            refine zj_topi (nI ((gMs_pdm S) + mn1)) (nI_add _ _) ?_
            refine zj_put C 0 8 9 (v := .int (nI ((gMs_pdm S) + mn1))) (ws' := (WM cy m (sMs_pdm (sMs_pd S pd2) ((gMs_pdm S) + mn1)))) tyX8 tyX8_ok nmX8 inZ8 rfl rfl (by decide) tg_686 rfl rfl rfl (Nat.le_of_ble_eq_true rfl) dX8_put_134 rfl ?_
            refine zj_aload_n C dX8_put_137 0 rfl ?_
            refine zj_get C 0 8 9 (v := .int (nI ((gMs_pdm S) + mn1))) inZ8 rfl rfl (by decide) tg_686 rfl dX8_put_138 ?_
            subst hk2
            subst hpd2
            subst hrest1
            subst hmn1
            subst hrv_5
            subst hfl_5
            have e : f_X8_put S ch = ((nI ((gMs_pdm S) + ((L_X8_put1  (8 - 0 + 1) 0 ch).2.2.1))), (sMs_pdm (sMs_pd S ((L_X8_put2 S ch ((L_X8_put1  (8 - 0 + 1) 0 ch).2.2.1) (((L_X8_put1  (8 - 0 + 1) 0 ch).2.2.1) - 0 + 1) (gMs_pd S) 0).1)) ((gMs_pdm S) + ((L_X8_put1  (8 - 0 + 1) 0 ch).2.2.1)))) := by refine (zsl_e _).trans ?_; refine (if_neg c_fl5).trans ?_; refine (if_neg c_57).trans ?_; refine (if_pos c_63).trans ?_; refine (if_pos c_78).trans ?_; rfl
            rw [e] at hret
            exact hret _ _ dX8_put_141
          refine zj_sub (L' := [(0, .ref (m 0)), (1, .long ch), (3, .int (nI mn1)), (4, .long rest1), (6, .int (nI 0))]) [1, 2, 3, 4, 0] rfl ?_
          refine zj_eq (ws' := (WM cy m (sMs_pd S (gMs_pd S)))) rfl rfl rfl rfl ?_
          exact loop_87 (mn1 - 0 + 1) (gMs_pd S) 0 (by omega) (Nat.lt_succ_self _) (K_87 _ _ rfl rfl)
        · have c_78 : ¬ (((gMs_pdm S) + mn1) ≤ 80) := (fun q => c ((nI_leI (by omega) (by omega)).mpr q))
          refine zj_bipush C (v := (-4)) dX8_put_81 (by decide) ?_
          subst hrest1
          subst hmn1
          subst hrv_5
          subst hfl_5
          have e : f_X8_put S ch = ((-4), S) := by refine (zsl_e _).trans ?_; refine (if_neg c_fl5).trans ?_; refine (if_neg c_57).trans ?_; refine (if_pos c_63).trans ?_; refine (if_neg c_78).trans ?_; rfl
          rw [e] at hret
          exact hret _ _ dX8_put_83
      · have c_63 : ¬ (rest1 = 0) := c
        refine zj_bipush C (v := (-2)) dX8_put_67 (by decide) ?_
        subst hrest1
        subst hmn1
        subst hrv_5
        subst hfl_5
        have e : f_X8_put S ch = ((-2), S) := by refine (zsl_e _).trans ?_; refine (if_neg c_fl5).trans ?_; refine (if_neg c_57).trans ?_; refine (if_neg c_63).trans ?_; rfl
        rw [e] at hret
        exact hret _ _ dX8_put_69
  have R_5 : (((L_X8_put1  (8 - 0 + 1) 0 ch).1) = true → zR E cX8_put 7 (some (.int ((L_X8_put1  (8 - 0 + 1) 0 ch).2.1))) (WM cy m S)) := by
    intro hfl
    have e : f_X8_put S ch = (((L_X8_put1  (8 - 0 + 1) 0 ch).2.1), S) := by refine (zsl_e _).trans ?_; refine (if_pos hfl).trans ?_; rfl
    rw [e] at hret
    exact hret
  refine zj_sub (L' := [(0, .ref (m 0)), (1, .long ch), (3, .int (nI 0)), (4, .long ch)]) [2, 3, 1, 0] rfl ?_
  exact loop_5 (8 - 0 + 1) 0 ch (by omega) (Nat.lt_succ_self _) (K_5 _ _ _ _ rfl rfl rfl rfl) R_5

noncomputable def f_X8_wipe (S : zMs) : Nat × zMs :=
  ((gMs_pdm S), (sMs_pdm S 0))
set_option maxHeartbeats 4000000 in
set_option maxRecDepth 100000 in
theorem c_X8_wipe (l : Launch) (D : va_G) (cy : Nat → ClassId) (m : Nat → Nat)   (S : zMs)  : zC l yX8_wipe (zW yX8_wipe cX8_wipe 2 (Option.some Jvm.ClassFile.FieldType.int)) { frames := 0, cells := 0, slots := 0, locals := 0 } D cy [.ref (m 0)] (WM cy m S) (some (.int (nI ((f_X8_wipe S).1)))) (WM cy m ((f_X8_wipe S).2)) := by
  refine zC_of rfl (Nat.le_of_ble_eq_true rfl) (zOk_i _) (fun E C hret => ?_)
  show zJ E 2 0 0 (WM cy m S) 0 [(0, .ref (m 0))] []
  refine zj_aload_n C dX8_wipe_0 0 rfl ?_
  refine zj_get C 0 8 9 (v := .int (nI (gMs_pdm S))) inZ8 rfl rfl (by decide) tg_686 rfl dX8_wipe_1 ?_
  refine zj_istore_n C (L' := [(1, .int (nI (gMs_pdm S))), (0, .ref (m 0))]) dX8_wipe_4 rfl (by decide) rfl ?_
  refine zj_aload_n C dX8_wipe_5 1 rfl ?_
  refine zj_iconst C (v := (nI 0)) dX8_wipe_6 (by decide) ?_
  refine zj_put C 0 8 9 (v := .int (nI 0)) (ws' := (WM cy m (sMs_pdm S 0))) tyX8 tyX8_ok nmX8 inZ8 rfl rfl (by decide) tg_686 rfl rfl rfl (Nat.le_of_ble_eq_true rfl) dX8_wipe_7 rfl ?_
  refine zj_iload_n C dX8_wipe_10 0 rfl ?_
  have e : f_X8_wipe S = ((gMs_pdm S), (sMs_pdm S 0)) := by rfl
  rw [e] at hret
  exact hret _ _ dX8_wipe_11
