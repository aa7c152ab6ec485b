/-- what reading a text rests on -/
def zpp (S : zMs) : Prop := gMs_pdm S ≤ 80 ∧ gMs_sp S ≤ gMs_pdm S ∧ gMs_od S ≤ 40
theorem zdig {X : zMs} {lo hi : Int64} (h : f_X8_in (f_X8_next X).toInt64 lo hi = true) (hlo : 0 < lo.toInt) : gMs_sp X < gMs_pdm X := by
  rcases Nat.lt_or_ge (gMs_sp X) (gMs_pdm X) with q | q
  · exact q
  · have e : f_X8_next X = nI 0 := if_pos q
    rw [e] at h
    have := (f_in_int h).1
    have h0 : (nI 0).toInt = 0 := by decide
    omega
theorem zsgn {X : zMs} {s : Int32} (h : f_X8_next X = s) (hs : ¬ s = nI 0) : gMs_sp X < gMs_pdm X := by
  rcases Nat.lt_or_ge (gMs_sp X) (gMs_pdm X) with q | q
  · exact q
  · have e : f_X8_next X = nI 0 := if_pos q
    rw [e] at h
    exact absurd h.symm hs

noncomputable def f_X8_takeSign (S : zMs) (sg : Int32) : zMs :=
  let x5_0 : Bool := (if (gMs_wr S) = false then (if (f_X8_next S) = sg then false else true) else true)
  let x33_0 : Nat := (if x5_0 = false then 1 else 0)
  (sMs_wr (sMs_sp S ((gMs_sp S) + x33_0)) x5_0)
set_option maxHeartbeats 4000000 in
set_option maxRecDepth 100000 in
theorem c_X8_takeSign (l : Launch) (D : va_G) (cy : Nat → ClassId) (m : Nat → Nat) (sg : Int32)  (S : zMs) (hz : zpp S) : zC l yX8_takeSign (zW yX8_takeSign cX8_takeSign 2 (Option.none : Option Jvm.ClassFile.FieldType)) { frames := 1, cells := 0, slots := 0, locals := 20 } D cy [.ref (m 0), .int sg] (WM cy m S) none (WM cy m (f_X8_takeSign S sg)) := by
  refine zC_of rfl (Nat.le_of_ble_eq_true rfl) zOk_v (fun E C hret => ?_)
  obtain ⟨hp, hs, ho⟩ := id hz
  show zJ E 2 0 0 (WM cy m S) 0 [(0, .ref (m 0)), (1, .int sg)] []
  refine zj_aload_n C dX8_takeSign_0 0 rfl ?_
  refine zj_aload_n C dX8_takeSign_1 0 rfl ?_
  refine zj_get C 0 8 11 (v := .int (zB (gMs_wr S))) inZ8 rfl rfl (by decide) tg_688 rfl dX8_takeSign_2 ?_
  have J_5 : ∀ (x5_0 : Bool), x5_0 = (if (gMs_wr S) = false then (if (f_X8_next S) = sg then false else true) else true) → zJ E 2 0 0 (WM cy m S) 21 [(0, .ref (m 0)), (1, .int sg)] [.int (zB x5_0), .ref (m 0)] := by
    intro x5_0 hx5_0
    refine zj_put C 0 8 11 (v := .int (zB x5_0)) (ws' := (WM cy m (sMs_wr S x5_0))) tyX8 tyX8_ok nmX8 inZ8 rfl rfl (by decide) tg_688 rfl (zB_n _) (zB_f _) (Nat.le_of_ble_eq_true rfl) dX8_takeSign_21 rfl ?_
    refine zj_aload_n C dX8_takeSign_24 0 rfl ?_
    refine zj_dup C dX8_takeSign_25 rfl ?_
    refine zj_get C 0 8 10 (v := .int (nI (gMs_sp S))) inZ8 rfl rfl (by decide) tg_687 rfl dX8_takeSign_26 ?_
    refine zj_aload_n C dX8_takeSign_29 0 rfl ?_
    refine zj_get C 0 8 11 (v := .int (zB x5_0)) inZ8 rfl rfl (by decide) tg_688 rfl dX8_takeSign_30 ?_
    have J_33 : ∀ (x33_0 : Nat), x33_0 = (if x5_0 = false then 1 else 0) → zJ E 2 0 0 (WM cy m (sMs_wr S x5_0)) 41 [(0, .ref (m 0)), (1, .int sg)] [.int (nI x33_0), .int (nI (gMs_sp S)), .ref (m 0)] := by
      intro x33_0 hx33_0
      refine zj_iadd C dX8_takeSign_41 ?_
      refine zj_topi (nI ((gMs_sp S) + x33_0)) (nI_add _ _) ?_
      refine zj_put C 0 8 10 (v := .int (nI ((gMs_sp S) + x33_0))) (ws' := (WM cy m (sMs_wr (sMs_sp S ((gMs_sp S) + x33_0)) x5_0))) tyX8 tyX8_ok nmX8 inZ8 rfl rfl (by decide) tg_687 rfl rfl rfl (Nat.le_of_ble_eq_true rfl) dX8_takeSign_42 rfl ?_
      subst hx33_0
      subst hx5_0
      have e : f_X8_takeSign S sg = (sMs_wr (sMs_sp S ((gMs_sp S) + (if (if (gMs_wr S) = false then (if (f_X8_next S) = sg then false else true) else true) = false then 1 else 0))) (if (gMs_wr S) = false then (if (f_X8_next S) = sg then false else true) else true)) := by rfl
      rw [e] at hret
      exact hret _ _ dX8_takeSign_45
    refine zj_if_eq C 40 dX8_takeSign_33 (by decide) (fun c => ?_) (fun c => ?_)
    · have c_33 : x5_0 = false := (zB_eq c)
      refine zj_iconst C (v := (nI 1)) dX8_takeSign_40 (by decide) ?_
      exact J_33 1 (by simp only [if_pos c_33]; first | done | assumption)
    · have c_33 : ¬ (x5_0 = false) := (zB_neq c)
      refine zj_iconst C (v := (nI 0)) dX8_takeSign_36 (by decide) ?_
      refine zj_goto C 41 dX8_takeSign_37 (by decide) ?_
      exact J_33 0 (by simp only [if_neg c_33]; first | done | assumption)
  refine zj_if_ne C 16 dX8_takeSign_5 (by decide) (fun c => ?_) (fun c => ?_)
  · have c_5 : ¬ ((gMs_wr S) = false) := (zB_neq c)
    refine zj_iconst C (v := (nI 1)) dX8_takeSign_16 (by decide) ?_
    refine zj_goto C 21 dX8_takeSign_17 (by decide) ?_
    exact J_5 true (by simp only [if_neg c_5]; first | done | assumption)
  · have c_5 : (gMs_wr S) = false := (zB_eq (Classical.not_not.mp c))
    refine zj_aload_n C dX8_takeSign_8 0 rfl ?_
    refine zj_callV C (nn := 10) (ws' := (WM cy m S)) (st := [.ref (m 0)]) (st1 := [.int (f_X8_next S), .ref (m 0)]) 0 8 [0, 1, 2, 3, 4, 5, 6, 7, 8, 9] (c_X8_next l D cy m  S hp (Nat.le_trans hs hp)) (zg_V tg_971 tg_968 tg_970 tgp_51 tg_9) ⟨rfl, hdZ_X8_next⟩ ⟨rfl, rfl⟩ ⟨by decide, by decide⟩ rfl rfl rfl (by decide) ⟨rfl, rfl⟩ rfl rfl (Nat.le_of_ble_eq_true rfl) dX8_takeSign_9 rfl rfl ?_
    refine zj_iload_n C dX8_takeSign_12 1 rfl ?_
    have J_13 : ∀ (x13_0 : Bool), x13_0 = (if (f_X8_next S) = sg then false else true) → zJ E 2 0 0 (WM cy m S) 21 [(0, .ref (m 0)), (1, .int sg)] [.int (zB x13_0), .ref (m 0)] := by
      intro x13_0 hx13_0
      exact J_5 x13_0 (by simp only [if_pos c_5]; first | done | assumption)
    refine zj_icmp_eq C 20 dX8_takeSign_13 (by decide) (fun c => ?_) (fun c => ?_)
    · have c_13 : (f_X8_next S) = sg := c
      refine zj_iconst C (v := (nI 0)) dX8_takeSign_20 (by decide) ?_
      exact J_13 false (by simp only [if_pos c_5, if_pos c_13]; first | done | assumption)
    · have c_13 : ¬ ((f_X8_next S) = sg) := c
      refine zj_iconst C (v := (nI 1)) dX8_takeSign_16 (by decide) ?_
      refine zj_goto C 21 dX8_takeSign_17 (by decide) ?_
      exact J_13 true (by simp only [if_pos c_5, if_neg c_13]; first | done | assumption)

noncomputable def L_X8_num (S : zMs) (high : Int32) : Nat → (Bool) → (Nat) → (Int32) → (Bool) × (Nat) × (Int32)
  | 0, w, p, v => (w, p, v)
  | fuel + 1, w, p, v =>
    if w = false then
      if v ≤ 0 then
        (w, p, v)
      else
        if (f_X8_in (((f_X8_next (sMs_wr (sMs_sp S p) w))).toInt64) 48 57) = false then
          (w, p, v)
        else
          let x101_0 : Bool := (if ((((nI 10) * v) + (f_X8_next (sMs_wr (sMs_sp S p) w))) - (nI 48)) ≤ high then false else true)
          let x116_0 : Int32 := (if x101_0 = false then ((((nI 10) * v) + (f_X8_next (sMs_wr (sMs_sp S p) x101_0))) - (nI 48)) else v)
          let x145_0 : Nat := (if x101_0 = false then 1 else 0)
          L_X8_num S high fuel x101_0 (p + x145_0) x116_0
    else
      (w, p, v)
theorem L_X8_num_s (S : zMs) (high : Int32) (fuel : Nat) (w : Bool) (p : Nat) (v : Int32) : L_X8_num S high (fuel + 1) w p v = (
    if w = false then
      if v ≤ 0 then
        (w, p, v)
      else
        if (f_X8_in (((f_X8_next (sMs_wr (sMs_sp S p) w))).toInt64) 48 57) = false then
          (w, p, v)
        else
          let x101_0 : Bool := (if ((((nI 10) * v) + (f_X8_next (sMs_wr (sMs_sp S p) w))) - (nI 48)) ≤ high then false else true)
          let x116_0 : Int32 := (if x101_0 = false then ((((nI 10) * v) + (f_X8_next (sMs_wr (sMs_sp S p) x101_0))) - (nI 48)) else v)
          let x145_0 : Nat := (if x101_0 = false then 1 else 0)
          L_X8_num S high fuel x101_0 (p + x145_0) x116_0
    else
      (w, p, v)
  ) := rfl
noncomputable def f_X8_takeNumber (S : zMs) (pl : Nat) (high : Int32) : zMs := zsl (
  let x5_0 : Bool := (if (gMs_wr S) = false then (if (f_X8_in (((f_X8_next S)).toInt64) 48 57) = false then true else false) else true)
  if x5_0 = false then
    let w1 : Bool := ((L_X8_num S high ((gMs_pdm S - ((gMs_sp S) + 1)) + (1 - x5_0.toNat) + 1) x5_0 ((gMs_sp S) + 1) ((f_X8_next (sMs_wr S x5_0)) - (nI 48))).1)
    let p1 : Nat := ((L_X8_num S high ((gMs_pdm S - ((gMs_sp S) + 1)) + (1 - x5_0.toNat) + 1) x5_0 ((gMs_sp S) + 1) ((f_X8_next (sMs_wr S x5_0)) - (nI 48))).2.1)
    let v1 : Int32 := ((L_X8_num S high ((gMs_pdm S - ((gMs_sp S) + 1)) + (1 - x5_0.toNat) + 1) x5_0 ((gMs_sp S) + 1) ((f_X8_next (sMs_wr S x5_0)) - (nI 48))).2.2)
    (sMs_nu (sMs_wr (sMs_sp S p1) w1) (upd (gMs_nu S) (3 * (gMs_od S) + pl) v1))
  else
    (sMs_wr S x5_0)
  )
set_option maxHeartbeats 4000000 in
set_option maxRecDepth 100000 in
theorem c_X8_takeNumber (l : Launch) (D : va_G) (cy : Nat → ClassId) (m : Nat → Nat) (pl : Nat) (high : Int32)  (S : zMs) (hz : zpp S) (hpl : pl ≤ 2) : zC l yX8_takeNumber (zW yX8_takeNumber cX8_takeNumber 4 (Option.none : Option Jvm.ClassFile.FieldType)) { frames := 1, cells := 0, slots := 0, locals := 25 } D cy [.ref (m 0), .int (nI pl), .int high] (WM cy m S) none (WM cy m (f_X8_takeNumber S pl high)) := by
  refine zC_of rfl (Nat.le_of_ble_eq_true rfl) zOk_v (fun E C hret => ?_)
  obtain ⟨hp, hs, ho⟩ := id hz
  show zJ E 4 0 0 (WM cy m S) 0 [(0, .ref (m 0)), (1, .int (nI pl)), (2, .int high)] []
  refine zj_aload_n C dX8_takeNumber_0 0 rfl ?_
  refine zj_aload_n C dX8_takeNumber_1 0 rfl ?_
  refine zj_get C 0 8 11 (v := .int (zB (gMs_wr S))) inZ8 rfl rfl (by decide) tg_688 rfl dX8_takeNumber_2 ?_
  have J_5 : ∀ (x5_0 : Bool), x5_0 = (if (gMs_wr S) = false then (if (f_X8_in (((f_X8_next S)).toInt64) 48 57) = false then true else false) else true) → zJ E 4 0 0 (WM cy m S) 30 [(0, .ref (m 0)), (1, .int (nI pl)), (2, .int high)] [.int (zB x5_0), .ref (m 0)] := by
    intro x5_0 hx5_0
    refine zj_put C 0 8 11 (v := .int (zB x5_0)) (ws' := (WM cy m (sMs_wr S x5_0))) tyX8 tyX8_ok nmX8 inZ8 rfl rfl (by decide) tg_688 rfl (zB_n _) (zB_f _) (Nat.le_of_ble_eq_true rfl) dX8_takeNumber_30 rfl ?_
    refine zj_aload_n C dX8_takeNumber_33 0 rfl ?_
    refine zj_get C 0 8 11 (v := .int (zB x5_0)) inZ8 rfl rfl (by decide) tg_688 rfl dX8_takeNumber_34 ?_
    refine zj_if_eq C 41 dX8_takeNumber_37 (by decide) (fun c => ?_) (fun c => ?_)
    · have c_37 : x5_0 = false := (zB_eq c)
      refine zj_aload_n C dX8_takeNumber_41 0 rfl ?_
      have hlt0 : gMs_sp S < gMs_pdm S := by rw [hx5_0] at c_37; by_cases q1 : gMs_wr S = false; (rw [if_pos q1] at c_37; by_cases q2 : f_X8_in (f_X8_next S).toInt64 48 57 = false; (rw [if_pos q2] at c_37; cases c_37); exact zdig (zbt q2) (by decide)); (rw [if_neg q1] at c_37; cases c_37)
      refine zj_callV C (nn := 10) (ws' := (WM cy m (sMs_wr S x5_0))) (st := []) (st1 := [.int (f_X8_next (sMs_wr S x5_0))]) 0 8 [0, 1, 2, 3, 4, 5, 6, 7, 8, 9] (c_X8_next l D cy m  (sMs_wr S x5_0) hp (Nat.le_trans hs hp)) (zg_V tg_971 tg_968 tg_970 tgp_51 tg_9) ⟨rfl, hdZ_X8_next⟩ ⟨rfl, rfl⟩ ⟨by decide, by decide⟩ rfl rfl rfl (by decide) ⟨rfl, rfl⟩ rfl rfl (Nat.le_of_ble_eq_true rfl) dX8_takeNumber_42 rfl rfl ?_
      refine zj_bipush C (v := (nI 48)) dX8_takeNumber_45 (by decide) ?_
      refine zj_isub C dX8_takeNumber_47 ?_
      refine zj_istore_n C (L' := [(3, .int ((f_X8_next (sMs_wr S x5_0)) - (nI 48))), (0, .ref (m 0)), (1, .int (nI pl)), (2, .int high)]) dX8_takeNumber_48 rfl (by decide) rfl ?_
      refine zj_aload_n C dX8_takeNumber_49 1 rfl ?_
      refine zj_dup C dX8_takeNumber_50 rfl ?_
      refine zj_get C 0 8 10 (v := .int (nI (gMs_sp S))) inZ8 rfl rfl (by decide) tg_687 rfl dX8_takeNumber_51 ?_
      refine zj_iconst C (v := (nI 1)) dX8_takeNumber_54 (by decide) ?_
      refine zj_iadd C dX8_takeNumber_55 ?_
      refine zj_topi (nI ((gMs_sp S) + 1)) (nI_add _ _) ?_
      refine zj_put C 0 8 10 (v := .int (nI ((gMs_sp S) + 1))) (ws' := (WM cy m (sMs_wr (sMs_sp S ((gMs_sp S) + 1)) x5_0))) tyX8 tyX8_ok nmX8 inZ8 rfl rfl (by decide) tg_687 rfl rfl rfl (Nat.le_of_ble_eq_true rfl) dX8_takeNumber_56 rfl ?_
      have loop_59 : ∀ (fuel : Nat) (w : Bool) (p : Nat) (v : Int32), (hp2 : p ≤ gMs_pdm S) → (gMs_pdm S - p) + (1 - w.toNat) < fuel → (zJ E 4 0 0 (WM cy m (sMs_wr (sMs_sp S ((L_X8_num S high fuel w p v).2.1)) ((L_X8_num S high fuel w p v).1))) 160 [(0, .ref (m 0)), (1, .int (nI pl)), (2, .int high), (3, .int ((L_X8_num S high fuel w p v).2.2))] []) → zJ E 4 0 0 (WM cy m (sMs_wr (sMs_sp S p) w)) 59 [(0, .ref (m 0)), (1, .int (nI pl)), (2, .int high), (3, .int v)] [] := by
        intro fuel
        induction fuel with
        | zero => intro w p v hp2 hmu; exact absurd hmu (Nat.not_lt_zero _)
        | succ fuel ih_59 =>
          intro w p v hp2 hmu_59 K_59
          refine zj_aload_n C dX8_takeNumber_59 0 rfl ?_
          refine zj_get C 0 8 11 (v := .int (zB w)) inZ8 rfl rfl (by decide) tg_688 rfl dX8_takeNumber_60 ?_
          refine zj_if_ne C 160 dX8_takeNumber_63 (by decide) (fun c => ?_) (fun c => ?_)
          · have c_63 : ¬ (w = false) := (zB_neq c)
            have e_59 : (L_X8_num S high (fuel + 1) w p v) = (w, p, v) := by refine (L_X8_num_s S high fuel w p v).trans ?_; refine (if_neg c_63).trans ?_; rfl
            rw [e_59] at K_59
            exact K_59 
          · have c_63 : w = false := (zB_eq (Classical.not_not.mp c))
            refine zj_iload_n C dX8_takeNumber_66 3 rfl ?_
            refine zj_if_le C 160 dX8_takeNumber_67 (by decide) (fun c => ?_) (fun c => ?_)
            · have c_67 : v ≤ 0 := c
              have e_59 : (L_X8_num S high (fuel + 1) w p v) = (w, p, v) := by refine (L_X8_num_s S high fuel w p v).trans ?_; refine (if_pos c_63).trans ?_; refine (if_pos c_67).trans ?_; rfl
              rw [e_59] at K_59
              exact K_59 
            · have c_67 : ¬ (v ≤ 0) := c
              refine zj_aload_n C dX8_takeNumber_70 0 rfl ?_
              refine zj_callV C (nn := 10) (ws' := (WM cy m (sMs_wr (sMs_sp S p) w))) (st := []) (st1 := [.int (f_X8_next (sMs_wr (sMs_sp S p) w))]) 0 8 [0, 1, 2, 3, 4, 5, 6, 7, 8, 9] (c_X8_next l D cy m  (sMs_wr (sMs_sp S p) w) hp (Nat.le_trans hp2 hp)) (zg_V tg_971 tg_968 tg_970 tgp_51 tg_9) ⟨rfl, hdZ_X8_next⟩ ⟨rfl, rfl⟩ ⟨by decide, by decide⟩ rfl rfl rfl (by decide) ⟨rfl, rfl⟩ rfl rfl (Nat.le_of_ble_eq_true rfl) dX8_takeNumber_71 rfl rfl ?_
              refine zj_i2l C dX8_takeNumber_74 ?_
              refine zj_ldc2 C dX8_takeNumber_75 tg_980 ?_
              refine zj_ldc2 C dX8_takeNumber_78 tg_991 ?_
              refine zj_callS C (nn := 0) (ws' := (WM cy m (sMs_wr (sMs_sp S p) w))) (st := []) (st1 := [.int (zB (f_X8_in (((f_X8_next (sMs_wr (sMs_sp S p) w))).toInt64) 48 57))]) [] (c_X8_in l D cy (((f_X8_next (sMs_wr (sMs_sp S p) w))).toInt64) 48 57  ) tg_730 tg_728 tg_729 tg_9 hdZ_X8_in ⟨rfl, rfl⟩ ⟨by decide, by decide⟩ rfl (by decide) ⟨rfl, rfl⟩ rfl rfl (Nat.le_of_ble_eq_true rfl) dX8_takeNumber_81 rfl rfl ?_
              refine zj_if_eq C 160 dX8_takeNumber_84 (by decide) (fun c => ?_) (fun c => ?_)
              · have c_84 : (f_X8_in (((f_X8_next (sMs_wr (sMs_sp S p) w))).toInt64) 48 57) = false := (zB_eq c)
                have e_59 : (L_X8_num S high (fuel + 1) w p v) = (w, p, v) := by refine (L_X8_num_s S high fuel w p v).trans ?_; refine (if_pos c_63).trans ?_; refine (if_neg c_67).trans ?_; refine (if_pos c_84).trans ?_; rfl
                rw [e_59] at K_59
                exact K_59 
              · have c_84 : ¬ ((f_X8_in (((f_X8_next (sMs_wr (sMs_sp S p) w))).toInt64) 48 57) = false) := (zB_neq c)
                refine zj_aload_n C dX8_takeNumber_87 0 rfl ?_
                have hlt : p < gMs_pdm S := zdig (X := sMs_wr (sMs_sp S p) w) (zbt c_84) (by decide)
                refine zj_bipush C (v := (nI 10)) dX8_takeNumber_88 (by decide) ?_
                refine zj_iload_n C dX8_takeNumber_90 3 rfl ?_
                refine zj_imul C dX8_takeNumber_91 ?_
                refine zj_aload_n C dX8_takeNumber_92 0 rfl ?_
                refine zj_callV C (nn := 10) (ws' := (WM cy m (sMs_wr (sMs_sp S p) w))) (st := [.int ((nI 10) * v), .ref (m 0)]) (st1 := [.int (f_X8_next (sMs_wr (sMs_sp S p) w)), .int ((nI 10) * v), .ref (m 0)]) 0 8 [0, 1, 2, 3, 4, 5, 6, 7, 8, 9] (c_X8_next l D cy m  (sMs_wr (sMs_sp S p) w) hp (Nat.le_trans hp2 hp)) (zg_V tg_971 tg_968 tg_970 tgp_51 tg_9) ⟨rfl, hdZ_X8_next⟩ ⟨rfl, rfl⟩ ⟨by decide, by decide⟩ rfl rfl rfl (by decide) ⟨rfl, rfl⟩ rfl rfl (Nat.le_of_ble_eq_true rfl) dX8_takeNumber_93 rfl rfl ?_
                refine zj_iadd C dX8_takeNumber_96 ?_
                refine zj_bipush C (v := (nI 48)) dX8_takeNumber_97 (by decide) ?_
                refine zj_isub C dX8_takeNumber_99 ?_
                refine zj_iload_n C dX8_takeNumber_100 2 rfl ?_
                have J_101 : ∀ (x101_0 : Bool), x101_0 = (if ((((nI 10) * v) + (f_X8_next (sMs_wr (sMs_sp S p) w))) - (nI 48)) ≤ high then false else true) → zJ E 4 0 0 (WM cy m (sMs_wr (sMs_sp S p) w)) 109 [(0, .ref (m 0)), (1, .int (nI pl)), (2, .int high), (3, .int v)] [.int (zB x101_0), .ref (m 0)] := by
                  intro x101_0 hx101_0
                  refine zj_put C 0 8 11 (v := .int (zB x101_0)) (ws' := (WM cy m (sMs_wr (sMs_sp S p) x101_0))) tyX8 tyX8_ok nmX8 inZ8 rfl rfl (by decide) tg_688 rfl (zB_n _) (zB_f _) (Nat.le_of_ble_eq_true rfl) dX8_takeNumber_109 rfl ?_
                  refine zj_aload_n C dX8_takeNumber_112 0 rfl ?_
                  refine zj_get C 0 8 11 (v := .int (zB x101_0)) inZ8 rfl rfl (by decide) tg_688 rfl dX8_takeNumber_113 ?_
                  have J_116 : ∀ (x116_0 : Int32), x116_0 = (if x101_0 = false then ((((nI 10) * v) + (f_X8_next (sMs_wr (sMs_sp S p) x101_0))) - (nI 48)) else v) → zJ E 4 0 0 (WM cy m (sMs_wr (sMs_sp S p) x101_0)) 135 [(0, .ref (m 0)), (1, .int (nI pl)), (2, .int high), (3, .int v)] [.int x116_0] := by
                    intro x116_0 hx116_0
                    refine zj_istore_n C (L' := [(3, .int x116_0), (0, .ref (m 0)), (1, .int (nI pl)), (2, .int high)]) dX8_takeNumber_135 rfl (by decide) rfl ?_
                    refine zj_aload_n C dX8_takeNumber_136 1 rfl ?_
                    refine zj_dup C dX8_takeNumber_137 rfl ?_
                    refine zj_get C 0 8 10 (v := .int (nI p)) inZ8 rfl rfl (by decide) tg_687 rfl dX8_takeNumber_138 ?_
                    refine zj_aload_n C dX8_takeNumber_141 1 rfl ?_
                    refine zj_get C 0 8 11 (v := .int (zB x101_0)) inZ8 rfl rfl (by decide) tg_688 rfl dX8_takeNumber_142 ?_
                    have J_145 : ∀ (x145_0 : Nat), x145_0 = (if x101_0 = false then 1 else 0) → zJ E 4 0 0 (WM cy m (sMs_wr (sMs_sp S p) x101_0)) 153 [(3, .int x116_0), (0, .ref (m 0)), (1, .int (nI pl)), (2, .int high)] [.int (nI x145_0), .int (nI p), .ref (m 0)] := by
                      intro x145_0 hx145_0
                      refine zj_iadd C dX8_takeNumber_153 ?_
                      refine zj_topi (nI (p + x145_0)) (nI_add _ _) ?_
                      refine zj_put C 0 8 10 (v := .int (nI (p + x145_0))) (ws' := (WM cy m (sMs_wr (sMs_sp S (p + x145_0)) x101_0))) tyX8 tyX8_ok nmX8 inZ8 rfl rfl (by decide) tg_687 rfl rfl rfl (Nat.le_of_ble_eq_true rfl) dX8_takeNumber_154 rfl ?_
                      refine zj_goto C 59 dX8_takeNumber_157 (by decide) ?_
                      refine zj_sub (L' := [(0, .ref (m 0)), (1, .int (nI pl)), (2, .int high), (3, .int x116_0)]) [1, 2, 3, 0] rfl ?_
                      have hn_hp2 : (p + x145_0) ≤ gMs_pdm S := (by have : x145_0 ≤ 1 := (by rw [hx145_0]; split <;> omega); omega)
                      have hn_mu : (gMs_pdm S - (p + x145_0)) + (1 - x101_0.toNat) < fuel := (by have e0 : w.toNat = 0 := (by rw [c_63]; rfl); cases hq : x101_0; (have e1 : x145_0 = 1 := (by rw [hx145_0, hq]; rfl); show gMs_pdm S - (p + x145_0) + (1 - 0) < fuel; omega); (have e1 : x145_0 = 0 := (by rw [hx145_0, hq]; rfl); show gMs_pdm S - (p + x145_0) + (1 - 1) < fuel; omega))
                      subst hx145_0
                      subst hx116_0
                      subst hx101_0
                      have e_59 : (L_X8_num S high (fuel + 1) w p v) = (L_X8_num S high fuel (if ((((nI 10) * v) + (f_X8_next (sMs_wr (sMs_sp S p) w))) - (nI 48)) ≤ high then false else true) (p + (if (if ((((nI 10) * v) + (f_X8_next (sMs_wr (sMs_sp S p) w))) - (nI 48)) ≤ high then false else true) = false then 1 else 0)) (if (if ((((nI 10) * v) + (f_X8_next (sMs_wr (sMs_sp S p) w))) - (nI 48)) ≤ high then false else true) = false then ((((nI 10) * v) + (f_X8_next (sMs_wr (sMs_sp S p) (if ((((nI 10) * v) + (f_X8_next (sMs_wr (sMs_sp S p) w))) - (nI 48)) ≤ high then false else true)))) - (nI 48)) else v)) := by refine (L_X8_num_s S high fuel w p v).trans ?_; refine (if_pos c_63).trans ?_; refine (if_neg c_67).trans ?_; refine (if_neg c_84).trans ?_; rfl
                      rw [e_59] at K_59
                      exact ih_59 (if ((((nI 10) * v) + (f_X8_next (sMs_wr (sMs_sp S p) w))) - (nI 48)) ≤ high then false else true) (p + (if (if ((((nI 10) * v) + (f_X8_next (sMs_wr (sMs_sp S p) w))) - (nI 48)) ≤ high then false else true) = false then 1 else 0)) (if (if ((((nI 10) * v) + (f_X8_next (sMs_wr (sMs_sp S p) w))) - (nI 48)) ≤ high then false else true) = false then ((((nI 10) * v) + (f_X8_next (sMs_wr (sMs_sp S p) (if ((((nI 10) * v) + (f_X8_next (sMs_wr (sMs_sp S p) w))) - (nI 48)) ≤ high then false else true)))) - (nI 48)) else v) hn_hp2 hn_mu K_59
                    refine zj_if_eq C 152 dX8_takeNumber_145 (by decide) (fun c => ?_) (fun c => ?_)
                    · have c_145 : x101_0 = false := (zB_eq c)
                      refine zj_iconst C (v := (nI 1)) dX8_takeNumber_152 (by decide) ?_
                      exact J_145 1 (by simp only [if_pos c_37, if_pos c_63, if_neg c_67, if_neg c_84, if_pos c_145]; first | done | assumption)
                    · have c_145 : ¬ (x101_0 = false) := (zB_neq c)
                      refine zj_iconst C (v := (nI 0)) dX8_takeNumber_148 (by decide) ?_
                      refine zj_goto C 153 dX8_takeNumber_149 (by decide) ?_
                      exact J_145 0 (by simp only [if_pos c_37, if_pos c_63, if_neg c_67, if_neg c_84, if_neg c_145]; first | done | assumption)
                  refine zj_if_eq C 123 dX8_takeNumber_116 (by decide) (fun c => ?_) (fun c => ?_)
                  · have c_116 : x101_0 = false := (zB_eq c)
                    refine zj_bipush C (v := (nI 10)) dX8_takeNumber_123 (by decide) ?_
                    refine zj_iload_n C dX8_takeNumber_125 3 rfl ?_
                    refine zj_imul C dX8_takeNumber_126 ?_
                    refine zj_aload_n C dX8_takeNumber_127 0 rfl ?_
                    refine zj_callV C (nn := 10) (ws' := (WM cy m (sMs_wr (sMs_sp S p) x101_0))) (st := [.int ((nI 10) * v)]) (st1 := [.int (f_X8_next (sMs_wr (sMs_sp S p) x101_0)), .int ((nI 10) * v)]) 0 8 [0, 1, 2, 3, 4, 5, 6, 7, 8, 9] (c_X8_next l D cy m  (sMs_wr (sMs_sp S p) x101_0) hp (Nat.le_trans hp2 hp)) (zg_V tg_971 tg_968 tg_970 tgp_51 tg_9) ⟨rfl, hdZ_X8_next⟩ ⟨rfl, rfl⟩ ⟨by decide, by decide⟩ rfl rfl rfl (by decide) ⟨rfl, rfl⟩ rfl rfl (Nat.le_of_ble_eq_true rfl) dX8_takeNumber_128 rfl rfl ?_
                    refine zj_iadd C dX8_takeNumber_131 ?_
                    refine zj_bipush C (v := (nI 48)) dX8_takeNumber_132 (by decide) ?_
                    refine zj_isub C dX8_takeNumber_134 ?_
                    exact J_116 ((((nI 10) * v) + (f_X8_next (sMs_wr (sMs_sp S p) x101_0))) - (nI 48)) (by simp only [if_pos c_37, if_pos c_63, if_neg c_67, if_neg c_84, if_pos c_116]; first | done | assumption)
                  · have c_116 : ¬ (x101_0 = false) := (zB_neq c)
                    refine zj_iload_n C dX8_takeNumber_119 3 rfl ?_
                    refine zj_goto C 135 dX8_takeNumber_120 (by decide) ?_
                    exact J_116 v (by simp only [if_pos c_37, if_pos c_63, if_neg c_67, if_neg c_84, if_neg c_116]; first | done | assumption)
                refine zj_icmp_le C 108 dX8_takeNumber_101 (by decide) (fun c => ?_) (fun c => ?_)
                · have c_101 : ((((nI 10) * v) + (f_X8_next (sMs_wr (sMs_sp S p) w))) - (nI 48)) ≤ high := c
                  refine zj_iconst C (v := (nI 0)) dX8_takeNumber_108 (by decide) ?_
                  exact J_101 false (by simp only [if_pos c_37, if_pos c_63, if_neg c_67, if_neg c_84, if_pos c_101]; first | done | assumption)
                · have c_101 : ¬ (((((nI 10) * v) + (f_X8_next (sMs_wr (sMs_sp S p) w))) - (nI 48)) ≤ high) := c
                  refine zj_iconst C (v := (nI 1)) dX8_takeNumber_104 (by decide) ?_
                  refine zj_goto C 109 dX8_takeNumber_105 (by decide) ?_
                  exact J_101 true (by simp only [if_pos c_37, if_pos c_63, if_neg c_67, if_neg c_84, if_neg c_101]; first | done | assumption)
      have K_59 : ∀ (w1 : Bool) (p1 : Nat) (v1 : Int32), w1 = ((L_X8_num S high ((gMs_pdm S - ((gMs_sp S) + 1)) + (1 - x5_0.toNat) + 1) x5_0 ((gMs_sp S) + 1) ((f_X8_next (sMs_wr S x5_0)) - (nI 48))).1) → p1 = ((L_X8_num S high ((gMs_pdm S - ((gMs_sp S) + 1)) + (1 - x5_0.toNat) + 1) x5_0 ((gMs_sp S) + 1) ((f_X8_next (sMs_wr S x5_0)) - (nI 48))).2.1) → v1 = ((L_X8_num S high ((gMs_pdm S - ((gMs_sp S) + 1)) + (1 - x5_0.toNat) + 1) x5_0 ((gMs_sp S) + 1) ((f_X8_next (sMs_wr S x5_0)) - (nI 48))).2.2) → zJ E 4 0 0 (WM cy m (sMs_wr (sMs_sp S p1) w1)) 160 [(0, .ref (m 0)), (1, .int (nI pl)), (2, .int high), (3, .int v1)] [] := by
        intro w1 p1 v1 hw1 hp1 hv1 
        refine zj_aload_n C dX8_takeNumber_160 0 rfl ?_
        refine zj_get C 0 8 14 (v := .ref (m 9)) inZ8 rfl rfl (by decide) tg_691 rfl dX8_takeNumber_161 ?_
        refine zj_iconst C (v := (nI 3)) dX8_takeNumber_164 (by decide) ?_
        refine zj_aload_n C dX8_takeNumber_165 0 rfl ?_
        refine zj_get C 0 8 12 (v := .int (nI (gMs_od S))) inZ8 rfl rfl (by decide) tg_689 rfl dX8_takeNumber_166 ?_
        refine zj_imul C dX8_takeNumber_169 ?_
        refine zj_topi (nI (3 * (gMs_od S))) (pk_mul _ _) ?_
        refine zj_iload_n C dX8_takeNumber_170 1 rfl ?_
        refine zj_iadd C dX8_takeNumber_171 ?_
        refine zj_topi (nI (3 * (gMs_od S) + pl)) (nI_add _ _) ?_
        refine zj_iload_n C dX8_takeNumber_172 3 rfl ?_
        refine zj_iast C 9 (f := (gMs_nu S)) (ws' := (WM cy m (sMs_nu (sMs_wr (sMs_sp S p1) w1) (upd (gMs_nu S) (3 * (gMs_od S) + pl) v1)))) (3 * (gMs_od S) + pl) (nI_clamp (by omega)) (vp_in_nI (by omega) (by omega)) rfl dX8_takeNumber_173 rfl ?_
        subst hv1
        subst hp1
        subst hw1
        subst hx5_0
        have e : f_X8_takeNumber S pl high = (sMs_nu (sMs_wr (sMs_sp S ((L_X8_num S high ((gMs_pdm S - ((gMs_sp S) + 1)) + (1 - (if (gMs_wr S) = false then (if (f_X8_in (((f_X8_next S)).toInt64) 48 57) = false then true else false) else true).toNat) + 1) (if (gMs_wr S) = false then (if (f_X8_in (((f_X8_next S)).toInt64) 48 57) = false then true else false) else true) ((gMs_sp S) + 1) ((f_X8_next (sMs_wr S (if (gMs_wr S) = false then (if (f_X8_in (((f_X8_next S)).toInt64) 48 57) = false then true else false) else true))) - (nI 48))).2.1)) ((L_X8_num S high ((gMs_pdm S - ((gMs_sp S) + 1)) + (1 - (if (gMs_wr S) = false then (if (f_X8_in (((f_X8_next S)).toInt64) 48 57) = false then true else false) else true).toNat) + 1) (if (gMs_wr S) = false then (if (f_X8_in (((f_X8_next S)).toInt64) 48 57) = false then true else false) else true) ((gMs_sp S) + 1) ((f_X8_next (sMs_wr S (if (gMs_wr S) = false then (if (f_X8_in (((f_X8_next S)).toInt64) 48 57) = false then true else false) else true))) - (nI 48))).1)) (upd (gMs_nu S) (3 * (gMs_od S) + pl) ((L_X8_num S high ((gMs_pdm S - ((gMs_sp S) + 1)) + (1 - (if (gMs_wr S) = false then (if (f_X8_in (((f_X8_next S)).toInt64) 48 57) = false then true else false) else true).toNat) + 1) (if (gMs_wr S) = false then (if (f_X8_in (((f_X8_next S)).toInt64) 48 57) = false then true else false) else true) ((gMs_sp S) + 1) ((f_X8_next (sMs_wr S (if (gMs_wr S) = false then (if (f_X8_in (((f_X8_next S)).toInt64) 48 57) = false then true else false) else true))) - (nI 48))).2.2))) := by refine (zsl_e _).trans ?_; refine (if_pos c_37).trans ?_; rfl
        rw [e] at hret
        exact hret _ _ dX8_takeNumber_174
      refine zj_sub (L' := [(0, .ref (m 0)), (1, .int (nI pl)), (2, .int high), (3, .int ((f_X8_next (sMs_wr S x5_0)) - (nI 48)))]) [1, 2, 3, 0] rfl ?_
      exact loop_59 ((gMs_pdm S - ((gMs_sp S) + 1)) + (1 - x5_0.toNat) + 1) x5_0 ((gMs_sp S) + 1) ((f_X8_next (sMs_wr S x5_0)) - (nI 48)) (by omega) (Nat.lt_succ_self _) (K_59 _ _ _ rfl rfl rfl)
    · have c_37 : ¬ (x5_0 = false) := (zB_neq c)
      subst hx5_0
      have e : f_X8_takeNumber S pl high = (sMs_wr S (if (gMs_wr S) = false then (if (f_X8_in (((f_X8_next S)).toInt64) 48 57) = false then true else false) else true)) := by refine (zsl_e _).trans ?_; refine (if_neg c_37).trans ?_; rfl
      rw [e] at hret
      exact hret _ _ dX8_takeNumber_40
  refine zj_if_ne C 25 dX8_takeNumber_5 (by decide) (fun c => ?_) (fun c => ?_)
  · have c_5 : ¬ ((gMs_wr S) = false) := (zB_neq c)
    refine zj_iconst C (v := (nI 1)) dX8_takeNumber_25 (by decide) ?_
    refine zj_goto C 30 dX8_takeNumber_26 (by decide) ?_
    exact J_5 true (by simp only [if_neg c_5]; first | done | assumption)
  · have c_5 : (gMs_wr S) = false := (zB_eq (Classical.not_not.mp c))
    refine zj_aload_n C dX8_takeNumber_8 0 rfl ?_
    refine zj_callV C (nn := 10) (ws' := (WM cy m S)) (st := [.ref (m 0)]) (st1 := [.int (f_X8_next S), .ref (m 0)]) 0 8 [0, 1, 2, 3, 4, 5, 6, 7, 8, 9] (c_X8_next l D cy m  S hp (Nat.le_trans hs hp)) (zg_V tg_971 tg_968 tg_970 tgp_51 tg_9) ⟨rfl, hdZ_X8_next⟩ ⟨rfl, rfl⟩ ⟨by decide, by decide⟩ rfl rfl rfl (by decide) ⟨rfl, rfl⟩ rfl rfl (Nat.le_of_ble_eq_true rfl) dX8_takeNumber_9 rfl rfl ?_
    refine zj_i2l C dX8_takeNumber_12 ?_
    refine zj_ldc2 C dX8_takeNumber_13 tg_980 ?_
    refine zj_ldc2 C dX8_takeNumber_16 tg_991 ?_
    refine zj_callS C (nn := 0) (ws' := (WM cy m S)) (st := [.ref (m 0)]) (st1 := [.int (zB (f_X8_in (((f_X8_next S)).toInt64) 48 57)), .ref (m 0)]) [] (c_X8_in l D cy (((f_X8_next S)).toInt64) 48 57  ) tg_730 tg_728 tg_729 tg_9 hdZ_X8_in ⟨rfl, rfl⟩ ⟨by decide, by decide⟩ rfl (by decide) ⟨rfl, rfl⟩ rfl rfl (Nat.le_of_ble_eq_true rfl) dX8_takeNumber_19 rfl rfl ?_
    have J_22 : ∀ (x22_0 : Bool), x22_0 = (if (f_X8_in (((f_X8_next S)).toInt64) 48 57) = false then true else false) → zJ E 4 0 0 (WM cy m S) 30 [(0, .ref (m 0)), (1, .int (nI pl)), (2, .int high)] [.int (zB x22_0), .ref (m 0)] := by
      intro x22_0 hx22_0
      exact J_5 x22_0 (by simp only [if_pos c_5]; first | done | assumption)
    refine zj_if_ne C 29 dX8_takeNumber_22 (by decide) (fun c => ?_) (fun c => ?_)
    · have c_22 : ¬ ((f_X8_in (((f_X8_next S)).toInt64) 48 57) = false) := (zB_neq c)
      refine zj_iconst C (v := (nI 0)) dX8_takeNumber_29 (by decide) ?_
      exact J_22 false (by simp only [if_pos c_5, if_neg c_22]; first | done | assumption)
    · have c_22 : (f_X8_in (((f_X8_next S)).toInt64) 48 57) = false := (zB_eq (Classical.not_not.mp c))
      refine zj_iconst C (v := (nI 1)) dX8_takeNumber_25 (by decide) ?_
      refine zj_goto C 30 dX8_takeNumber_26 (by decide) ?_
      exact J_22 true (by simp only [if_pos c_5, if_pos c_22]; first | done | assumption)

noncomputable def f_X8_takeHolder (S : zMs) : zMs :=
  let x5_0 : Bool := (if (gMs_wr S) = false then (if (f_X8_in (((f_X8_next S)).toInt64) 48 53) = false then true else false) else true)
  let x37_0 : Nat := (if x5_0 = false then (gMs_sp S) + 1 else (gMs_sp S))
  let x37_1 : Nat → Int32 := (if x5_0 = false then (upd (gMs_nu S) (3 * (gMs_od S)) ((f_X8_next (sMs_wr S x5_0)) - (nI 48))) else (gMs_nu S))
  (sMs_nu (sMs_wr (sMs_sp S x37_0) x5_0) x37_1)
set_option maxHeartbeats 4000000 in
set_option maxRecDepth 100000 in
theorem c_X8_takeHolder (l : Launch) (D : va_G) (cy : Nat → ClassId) (m : Nat → Nat)   (S : zMs) (hz : zpp S) : zC l yX8_takeHolder (zW yX8_takeHolder cX8_takeHolder 1 (Option.none : Option Jvm.ClassFile.FieldType)) { frames := 1, cells := 0, slots := 0, locals := 25 } D cy [.ref (m 0)] (WM cy m S) none (WM cy m (f_X8_takeHolder S)) := by
  refine zC_of rfl (Nat.le_of_ble_eq_true rfl) zOk_v (fun E C hret => ?_)
  obtain ⟨hp, hs, ho⟩ := id hz
  show zJ E 1 0 0 (WM cy m S) 0 [(0, .ref (m 0))] []
  refine zj_aload_n C dX8_takeHolder_0 0 rfl ?_
  refine zj_aload_n C dX8_takeHolder_1 0 rfl ?_
  refine zj_get C 0 8 11 (v := .int (zB (gMs_wr S))) inZ8 rfl rfl (by decide) tg_688 rfl dX8_takeHolder_2 ?_
  have J_5 : ∀ (x5_0 : Bool), x5_0 = (if (gMs_wr S) = false then (if (f_X8_in (((f_X8_next S)).toInt64) 48 53) = false then true else false) else true) → zJ E 1 0 0 (WM cy m S) 30 [(0, .ref (m 0))] [.int (zB x5_0), .ref (m 0)] := by
    intro x5_0 hx5_0
    refine zj_put C 0 8 11 (v := .int (zB x5_0)) (ws' := (WM cy m (sMs_wr S x5_0))) tyX8 tyX8_ok nmX8 inZ8 rfl rfl (by decide) tg_688 rfl (zB_n _) (zB_f _) (Nat.le_of_ble_eq_true rfl) dX8_takeHolder_30 rfl ?_
    refine zj_aload_n C dX8_takeHolder_33 0 rfl ?_
    refine zj_get C 0 8 11 (v := .int (zB x5_0)) inZ8 rfl rfl (by decide) tg_688 rfl dX8_takeHolder_34 ?_
    have J_37 : ∀ (x37_0 : Nat) (x37_1 : Nat → Int32), x37_0 = (if x5_0 = false then (gMs_sp S) + 1 else (gMs_sp S)) → x37_1 = (if x5_0 = false then (upd (gMs_nu S) (3 * (gMs_od S)) ((f_X8_next (sMs_wr S x5_0)) - (nI 48))) else (gMs_nu S)) → zJ E 1 0 0 (WM cy m (sMs_nu (sMs_wr (sMs_sp S x37_0) x5_0) x37_1)) 68 [(0, .ref (m 0))] [] := by
      intro x37_0 x37_1 hx37_0 hx37_1
      subst hx37_1
      subst hx37_0
      subst hx5_0
      have e : f_X8_takeHolder S = (sMs_nu (sMs_wr (sMs_sp S (if (if (gMs_wr S) = false then (if (f_X8_in (((f_X8_next S)).toInt64) 48 53) = false then true else false) else true) = false then (gMs_sp S) + 1 else (gMs_sp S))) (if (gMs_wr S) = false then (if (f_X8_in (((f_X8_next S)).toInt64) 48 53) = false then true else false) else true)) (if (if (gMs_wr S) = false then (if (f_X8_in (((f_X8_next S)).toInt64) 48 53) = false then true else false) else true) = false then (upd (gMs_nu S) (3 * (gMs_od S)) ((f_X8_next (sMs_wr S (if (gMs_wr S) = false then (if (f_X8_in (((f_X8_next S)).toInt64) 48 53) = false then true else false) else true))) - (nI 48))) else (gMs_nu S))) := by rfl
      rw [e] at hret
      exact hret _ _ dX8_takeHolder_68
    refine zj_if_ne C 68 dX8_takeHolder_37 (by decide) (fun c => ?_) (fun c => ?_)
    · have c_37 : ¬ (x5_0 = false) := (zB_neq c)
      exact J_37 (gMs_sp S) (gMs_nu S) (by simp only [if_neg c_37]; first | done | assumption) (by simp only [if_neg c_37]; first | done | assumption)
    · have c_37 : x5_0 = false := (zB_eq (Classical.not_not.mp c))
      refine zj_aload_n C dX8_takeHolder_40 0 rfl ?_
      refine zj_get C 0 8 14 (v := .ref (m 9)) inZ8 rfl rfl (by decide) tg_691 rfl dX8_takeHolder_41 ?_
      refine zj_iconst C (v := (nI 3)) dX8_takeHolder_44 (by decide) ?_
      refine zj_aload_n C dX8_takeHolder_45 0 rfl ?_
      refine zj_get C 0 8 12 (v := .int (nI (gMs_od S))) inZ8 rfl rfl (by decide) tg_689 rfl dX8_takeHolder_46 ?_
      refine zj_imul C dX8_takeHolder_49 ?_
      refine zj_topi (nI (3 * (gMs_od S))) (pk_mul _ _) ?_
      refine zj_aload_n C dX8_takeHolder_50 0 rfl ?_
      refine zj_callV C (nn := 10) (ws' := (WM cy m (sMs_wr S x5_0))) (st := [.int (nI (3 * (gMs_od S))), .ref (m 9)]) (st1 := [.int (f_X8_next (sMs_wr S x5_0)), .int (nI (3 * (gMs_od S))), .ref (m 9)]) 0 8 [0, 1, 2, 3, 4, 5, 6, 7, 8, 9] (c_X8_next l D cy m  (sMs_wr S x5_0) hp (Nat.le_trans hs hp)) (zg_V tg_971 tg_968 tg_970 tgp_51 tg_9) ⟨rfl, hdZ_X8_next⟩ ⟨rfl, rfl⟩ ⟨by decide, by decide⟩ rfl rfl rfl (by decide) ⟨rfl, rfl⟩ rfl rfl (Nat.le_of_ble_eq_true rfl) dX8_takeHolder_51 rfl rfl ?_
      refine zj_bipush C (v := (nI 48)) dX8_takeHolder_54 (by decide) ?_
      refine zj_isub C dX8_takeHolder_56 ?_
      refine zj_iast C 9 (f := (gMs_nu S)) (ws' := (WM cy m (sMs_nu (sMs_wr S x5_0) (upd (gMs_nu S) (3 * (gMs_od S)) ((f_X8_next (sMs_wr S x5_0)) - (nI 48)))))) (3 * (gMs_od S)) (nI_clamp (by omega)) (vp_in_nI (by omega) (by omega)) rfl dX8_takeHolder_57 rfl ?_
      refine zj_aload_n C dX8_takeHolder_58 0 rfl ?_
      refine zj_dup C dX8_takeHolder_59 rfl ?_
      refine zj_get C 0 8 10 (v := .int (nI (gMs_sp S))) inZ8 rfl rfl (by decide) tg_687 rfl dX8_takeHolder_60 ?_
      refine zj_iconst C (v := (nI 1)) dX8_takeHolder_63 (by decide) ?_
      refine zj_iadd C dX8_takeHolder_64 ?_
      refine zj_topi (nI ((gMs_sp S) + 1)) (nI_add _ _) ?_
      refine zj_put C 0 8 10 (v := .int (nI ((gMs_sp S) + 1))) (ws' := (WM cy m (sMs_nu (sMs_wr (sMs_sp S ((gMs_sp S) + 1)) x5_0) (upd (gMs_nu S) (3 * (gMs_od S)) ((f_X8_next (sMs_wr S x5_0)) - (nI 48)))))) tyX8 tyX8_ok nmX8 inZ8 rfl rfl (by decide) tg_687 rfl rfl rfl (Nat.le_of_ble_eq_true rfl) dX8_takeHolder_65 rfl ?_
      exact J_37 ((gMs_sp S) + 1) (upd (gMs_nu S) (3 * (gMs_od S)) ((f_X8_next (sMs_wr S x5_0)) - (nI 48))) (by simp only [if_pos c_37]; first | done | assumption) (by simp only [if_pos c_37]; first | done | assumption)
  refine zj_if_ne C 25 dX8_takeHolder_5 (by decide) (fun c => ?_) (fun c => ?_)
  · have c_5 : ¬ ((gMs_wr S) = false) := (zB_neq c)
    refine zj_iconst C (v := (nI 1)) dX8_takeHolder_25 (by decide) ?_
    refine zj_goto C 30 dX8_takeHolder_26 (by decide) ?_
    exact J_5 true (by simp only [if_neg c_5]; first | done | assumption)
  · have c_5 : (gMs_wr S) = false := (zB_eq (Classical.not_not.mp c))
    refine zj_aload_n C dX8_takeHolder_8 0 rfl ?_
    refine zj_callV C (nn := 10) (ws' := (WM cy m S)) (st := [.ref (m 0)]) (st1 := [.int (f_X8_next S), .ref (m 0)]) 0 8 [0, 1, 2, 3, 4, 5, 6, 7, 8, 9] (c_X8_next l D cy m  S hp (Nat.le_trans hs hp)) (zg_V tg_971 tg_968 tg_970 tgp_51 tg_9) ⟨rfl, hdZ_X8_next⟩ ⟨rfl, rfl⟩ ⟨by decide, by decide⟩ rfl rfl rfl (by decide) ⟨rfl, rfl⟩ rfl rfl (Nat.le_of_ble_eq_true rfl) dX8_takeHolder_9 rfl rfl ?_
    refine zj_i2l C dX8_takeHolder_12 ?_
    refine zj_ldc2 C dX8_takeHolder_13 tg_980 ?_
    refine zj_ldc2 C dX8_takeHolder_16 tg_981 ?_
    refine zj_callS C (nn := 0) (ws' := (WM cy m S)) (st := [.ref (m 0)]) (st1 := [.int (zB (f_X8_in (((f_X8_next S)).toInt64) 48 53)), .ref (m 0)]) [] (c_X8_in l D cy (((f_X8_next S)).toInt64) 48 53  ) tg_730 tg_728 tg_729 tg_9 hdZ_X8_in ⟨rfl, rfl⟩ ⟨by decide, by decide⟩ rfl (by decide) ⟨rfl, rfl⟩ rfl rfl (Nat.le_of_ble_eq_true rfl) dX8_takeHolder_19 rfl rfl ?_
    have J_22 : ∀ (x22_0 : Bool), x22_0 = (if (f_X8_in (((f_X8_next S)).toInt64) 48 53) = false then true else false) → zJ E 1 0 0 (WM cy m S) 30 [(0, .ref (m 0))] [.int (zB x22_0), .ref (m 0)] := by
      intro x22_0 hx22_0
      exact J_5 x22_0 (by simp only [if_pos c_5]; first | done | assumption)
    refine zj_if_ne C 29 dX8_takeHolder_22 (by decide) (fun c => ?_) (fun c => ?_)
    · have c_22 : ¬ ((f_X8_in (((f_X8_next S)).toInt64) 48 53) = false) := (zB_neq c)
      refine zj_iconst C (v := (nI 0)) dX8_takeHolder_29 (by decide) ?_
      exact J_22 false (by simp only [if_pos c_5, if_neg c_22]; first | done | assumption)
    · have c_22 : (f_X8_in (((f_X8_next S)).toInt64) 48 53) = false := (zB_eq (Classical.not_not.mp c))
      refine zj_iconst C (v := (nI 1)) dX8_takeHolder_25 (by decide) ?_
      refine zj_goto C 30 dX8_takeHolder_26 (by decide) ?_
      exact J_22 true (by simp only [if_pos c_5, if_pos c_22]; first | done | assumption)
