theorem zp_order {S : zMs} (hz : zpp S) : zsame S (f_X8_takeOrder S) ∧ gMs_sp S ≤ gMs_sp (f_X8_takeOrder S) ∧ gMs_sp (f_X8_takeOrder S) ≤ gMs_pdm S ∧ ((gMs_wr (f_X8_takeOrder S) = false ∧ gMs_od (f_X8_takeOrder S) = gMs_od S + 1 ∧ gMs_sp S + 1 ≤ gMs_sp (f_X8_takeOrder S)) ∨ (gMs_wr (f_X8_takeOrder S) = true ∧ gMs_od (f_X8_takeOrder S) = gMs_od S)) := by
  unfold f_X8_takeOrder
  rw [zsl_e]
  generalize hx9_0 : (if (f_X8_next S) = (nI 98) then false else (if (f_X8_next S) = (nI 108) then false else (if (f_X8_next S) = (nI 113) then false else (if (f_X8_next S) = (nI 105) then false else (if (f_X8_next S) = (nI 100) then false else (if (f_X8_next S) = (nI 112) then false else true)))))) = x9
  dsimp only
  by_cases c : x9 = false
  · rw [if_pos c]
    have hlt : gMs_sp S < gMs_pdm S := by
      rcases Nat.lt_or_ge (gMs_sp S) (gMs_pdm S) with q | q
      · exact q
      · have e0 : f_X8_next S = nI 0 := if_pos q
        rw [← hx9_0, e0] at c
        exact absurd c (by decide)
    have z1 := zPR_wr1 (T := S) x9 hlt
    have zz1 := zpp_wr1 (w := x9) hz hlt
    have hsp : gMs_sp S + 1 = gMs_sp (sMs_wr (sMs_sp S (gMs_sp S + 1)) x9) := rfl
    generalize hX : (sMs_wr (sMs_sp S (gMs_sp S + 1)) x9) = X at z1 zz1 hsp ⊢
    have key : ∀ T : zMs, zPR X T → zsame S (sMs_so (sMs_od T (if gMs_wr T = false then gMs_od T + 1 else gMs_od T)) (if gMs_wr T = false then upd (gMs_so T) (gMs_od T) (f_X8_next S) else gMs_so T)) ∧ gMs_sp S ≤ gMs_sp T ∧ gMs_sp T ≤ gMs_pdm S ∧ ((gMs_wr T = false ∧ (if gMs_wr T = false then gMs_od T + 1 else gMs_od T) = gMs_od S + 1 ∧ gMs_sp S + 1 ≤ gMs_sp T) ∨ (gMs_wr T = true ∧ (if gMs_wr T = false then gMs_od T + 1 else gMs_od T) = gMs_od S)) := fun T h => by
      have h2 := zp4_t z1 h
      generalize (if gMs_wr T = false then upd (gMs_so T) (gMs_od T) (f_X8_next S) else gMs_so T) = f0
      refine ⟨zsame_t h2.1 rfl, h2.2.2.1, h2.2.2.2, ?_⟩
      by_cases q : gMs_wr T = false
      · rw [if_pos q]
        refine Or.inl ⟨q, by rw [h2.2.1], ?_⟩
        rw [hsp]; exact h.2.2.1
      · rw [if_neg q]
        exact Or.inr ⟨zbt q, h2.2.1⟩
    by_cases q1 : f_X8_next S = nI 98
    · rw [if_pos q1]; exact key _ (zp_ordering zz1)
    rw [if_neg q1]
    by_cases q2 : f_X8_next S = nI 108
    · rw [if_pos q2]; exact key _ (zp_ordering zz1)
    rw [if_neg q2]
    by_cases q3 : f_X8_next S = nI 113
    · rw [if_pos q3]; exact key _ (zp_num zz1)
    rw [if_neg q3]
    by_cases q4 : f_X8_next S = nI 105
    · rw [if_pos q4]; exact key _ (zp_num zz1)
    rw [if_neg q4]
    exact key _ ⟨rfl, rfl, Nat.le_refl _, zz1.2.1⟩
  · rw [if_neg c]
    exact ⟨rfl, Nat.le_refl _, hz.2.1, Or.inr ⟨zbt c, rfl⟩⟩
/-- what the reading of a whole text rests on -/
def zpf (S X : zMs) : Prop := zpp X ∧ zsame S X ∧ (gMs_wr X = false → 2 * gMs_od X ≤ gMs_sp X + 1) ∧ gMs_od X ≤ 40
theorem zpf_start {S : zMs} (hp : gMs_pdm S ≤ 80) : zpf S (f_X8_takeOrder (sMs_od (sMs_wr (sMs_sp S 0) false) 0)) := by
  have z0 : zpp (sMs_od (sMs_wr (sMs_sp S 0) false) 0) := ⟨hp, Nat.zero_le _, Nat.zero_le _⟩
  have s0 : zsame S (sMs_od (sMs_wr (sMs_sp S 0) false) 0) := rfl
  have d0 : gMs_od (sMs_od (sMs_wr (sMs_sp S 0) false) 0) = 0 := rfl
  have e0 : gMs_sp (sMs_od (sMs_wr (sMs_sp S 0) false) 0) = 0 := rfl
  generalize (sMs_od (sMs_wr (sMs_sp S 0) false) 0) = X at z0 s0 d0 e0 ⊢
  obtain ⟨h1, h2, h3, h4⟩ := zp_order z0
  have hpd := zsame_pdm h1
  have hz : gMs_od (f_X8_takeOrder X) ≤ 40 := by rcases h4 with ⟨-, b, -⟩ | ⟨-, b⟩ <;> omega
  refine ⟨⟨by rw [hpd]; exact z0.1, by rw [hpd]; exact h3, hz⟩, zsame_t s0 h1, fun q => ?_, hz⟩
  rcases h4 with ⟨-, b, c⟩ | ⟨b, -⟩
  · omega
  · rw [b] at q; cases q
theorem zpf_step {S X : zMs} (h : zpf S X) (hw : gMs_wr X = false) : zpp (f_X8_takeSign X (nI 59)) ∧ zsame S (f_X8_takeSign X (nI 59)) ∧ (gMs_wr (f_X8_takeSign X (nI 59)) = true → zpf S (f_X8_takeSign X (nI 59))) ∧ gMs_pdm (f_X8_takeSign X (nI 59)) = gMs_pdm X ∧ gMs_sp X ≤ gMs_sp (f_X8_takeSign X (nI 59)) ∧
    (gMs_wr (f_X8_takeSign X (nI 59)) = false → gMs_sp (f_X8_takeSign X (nI 59)) = gMs_sp X + 1 ∧ zpf S (f_X8_takeOrder (f_X8_takeSign X (nI 59))) ∧ gMs_pdm (f_X8_takeOrder (f_X8_takeSign X (nI 59))) = gMs_pdm X ∧ gMs_sp X + 1 ≤ gMs_sp (f_X8_takeOrder (f_X8_takeSign X (nI 59)))) := by
  obtain ⟨hz, hs, ho, ho4⟩ := h
  have z := zp_sign (sg := nI 59) hz (by decide)
  have hz1 := zpp_of hz (zp4 z)
  have ho1 := ho hw
  generalize f_X8_takeSign X (nI 59) = Y at z hz1 ⊢
  obtain ⟨z1, z2, z3, z4, z5⟩ := z
  have hpd := zsame_pdm z1
  refine ⟨hz1, zsame_t hs z1, fun q => ⟨hz1, zsame_t hs z1, (fun r => by rw [q] at r; cases r), by omega⟩, hpd, z3, fun q => ?_⟩
  obtain ⟨-, e⟩ := z5 q
  obtain ⟨h1, h2, h3, h4⟩ := zp_order hz1
  have hpd2 := zsame_pdm h1
  have hpp := hz.1
  have hod : gMs_od (f_X8_takeOrder Y) ≤ 40 := by rcases h4 with ⟨-, b, c⟩ | ⟨-, b⟩ <;> omega
  refine ⟨e, ⟨⟨by rw [hpd2]; exact hz1.1, by rw [hpd2]; exact h3, hod⟩, zsame_t (zsame_t hs z1) h1, fun r => ?_, hod⟩, by rw [hpd2, hpd], by omega⟩
  rcases h4 with ⟨-, b, c⟩ | ⟨b, -⟩
  · omega
  · rw [b] at r; cases r

theorem zfl_dec {S X Y : zMs} {fuel : Nat} (h : zpf S X) (hw : gMs_wr X = false) (hlt : gMs_sp X < gMs_pdm X) (hY : Y = if gMs_wr (f_X8_takeSign X (nI 59)) = false then f_X8_takeOrder (f_X8_takeSign X (nI 59)) else f_X8_takeSign X (nI 59)) (hmu : (gMs_pdm X - gMs_sp X) + (1 - (gMs_wr X).toNat) < fuel + 1) : (gMs_pdm Y - gMs_sp Y) + (1 - (gMs_wr Y).toNat) < fuel := by
  obtain ⟨z1, z2, z3, z4, z5, z6⟩ := zpf_step h hw
  rw [hw] at hmu
  have hmu : (gMs_pdm X - gMs_sp X) + (1 - 0) < fuel + 1 := hmu
  by_cases q : gMs_wr (f_X8_takeSign X (nI 59)) = false
  · rw [if_pos q] at hY
    obtain ⟨e1, e2, e3, e4⟩ := z6 q
    subst hY
    rw [e3]
    have : 1 - (gMs_wr (f_X8_takeOrder (f_X8_takeSign X (nI 59)))).toNat ≤ 1 := Nat.sub_le _ _
    omega
  · rw [if_neg q] at hY
    subst hY
    rw [zbt q, z4]
    show _ + (1 - 1) < fuel
    omega

noncomputable def L_X8_fault  : Nat → (zMs) → (zMs)
  | 0, X => X
  | fuel + 1, X =>
    if (gMs_wr X) = false then
      if (gMs_pdm X) ≤ (gMs_sp X) then
        X
      else
        if (gMs_wr (f_X8_takeSign X (nI 59))) = false then
          L_X8_fault  fuel (f_X8_takeOrder (f_X8_takeSign X (nI 59)))
        else
          L_X8_fault  fuel (f_X8_takeSign X (nI 59))
    else
      X
theorem L_X8_fault_s  (fuel : Nat) (X : zMs) : L_X8_fault  (fuel + 1) X = (
    if (gMs_wr X) = false then
      if (gMs_pdm X) ≤ (gMs_sp X) then
        X
      else
        if (gMs_wr (f_X8_takeSign X (nI 59))) = false then
          L_X8_fault  fuel (f_X8_takeOrder (f_X8_takeSign X (nI 59)))
        else
          L_X8_fault  fuel (f_X8_takeSign X (nI 59))
    else
      X
  ) := rfl
noncomputable def f_X8_fault (S : zMs) : Int32 × zMs := zsl (
  let X1 : zMs := (L_X8_fault  ((gMs_pdm (f_X8_takeOrder (sMs_od (sMs_wr (sMs_sp S 0) false) 0)) - gMs_sp (f_X8_takeOrder (sMs_od (sMs_wr (sMs_sp S 0) false) 0))) + (1 - (gMs_wr (f_X8_takeOrder (sMs_od (sMs_wr (sMs_sp S 0) false) 0))).toNat) + 1) (f_X8_takeOrder (sMs_od (sMs_wr (sMs_sp S 0) false) 0)))
  let x61_0 : Int32 := (if (gMs_wr X1) = false then (-6) else (nI (gMs_sp X1)))
  (x61_0, X1)
  )
set_option maxHeartbeats 4000000 in
set_option maxRecDepth 100000 in
theorem c_X8_fault (l : Launch) (D : va_G) (cy : Nat → ClassId) (m : Nat → Nat)   (S : zMs) (hp : gMs_pdm S ≤ 80) : zC l yX8_fault (zW yX8_fault cX8_fault 1 (Option.some Jvm.ClassFile.FieldType.int)) { frames := 4, cells := 0, slots := 0, locals := 89 } D cy [.ref (m 0)] (WM cy m S) (some (.int ((f_X8_fault S).1))) (WM cy m ((f_X8_fault S).2)) := by
  refine zC_of rfl (Nat.le_of_ble_eq_true rfl) (zOk_i _) (fun E C hret => ?_)
  show zJ E 1 0 0 (WM cy m S) 0 [(0, .ref (m 0))] []
  refine zj_aload_n C dX8_fault_0 0 rfl ?_
  refine zj_iconst C (v := (nI 0)) dX8_fault_1 (by decide) ?_
  refine zj_put C 0 8 10 (v := .int (nI 0)) (ws' := (WM cy m (sMs_sp S 0))) tyX8 tyX8_ok nmX8 inZ8 rfl rfl (by decide) tg_687 rfl rfl rfl (Nat.le_of_ble_eq_true rfl) dX8_fault_2 rfl ?_
  refine zj_aload_n C dX8_fault_5 0 rfl ?_
  refine zj_iconst C (v := (nI 0)) dX8_fault_6 (by decide) ?_
  refine zj_put C 0 8 11 (v := .int (nI 0)) (ws' := (WM cy m (sMs_wr (sMs_sp S 0) false))) tyX8 tyX8_ok nmX8 inZ8 rfl rfl (by decide) tg_688 rfl rfl rfl (Nat.le_of_ble_eq_true rfl) dX8_fault_7 rfl ?_
  refine zj_aload_n C dX8_fault_10 0 rfl ?_
  refine zj_iconst C (v := (nI 0)) dX8_fault_11 (by decide) ?_
  refine zj_put C 0 8 12 (v := .int (nI 0)) (ws' := (WM cy m (sMs_od (sMs_wr (sMs_sp S 0) false) 0))) tyX8 tyX8_ok nmX8 inZ8 rfl rfl (by decide) tg_689 rfl rfl rfl (Nat.le_of_ble_eq_true rfl) dX8_fault_12 rfl ?_
  refine zj_aload_n C dX8_fault_15 0 rfl ?_
  refine zj_callV C (nn := 10) (ws' := (WM cy m (f_X8_takeOrder (sMs_od (sMs_wr (sMs_sp S 0) false) 0)))) (st := []) (st1 := []) 0 8 [0, 1, 2, 3, 4, 5, 6, 7, 8, 9] (c_X8_takeOrder l D cy m  (sMs_od (sMs_wr (sMs_sp S 0) false) 0) ⟨hp, Nat.zero_le _, Nat.zero_le _⟩) (zg_V tg_967 tg_964 tg_966 tgp_50 tg_9) ⟨rfl, hdZ_X8_takeOrder⟩ ⟨rfl, rfl⟩ ⟨by decide, by decide⟩ rfl rfl rfl (by decide) ⟨rfl, rfl⟩ rfl rfl (Nat.le_of_ble_eq_true rfl) dX8_fault_16 rfl rfl ?_
  have loop_19 : ∀ (fuel : Nat) (X : zMs), (hzf : zpf S X) → (gMs_pdm X - gMs_sp X) + (1 - (gMs_wr X).toNat) < fuel → (zpf S (L_X8_fault  fuel X) → zJ E 1 0 0 (WM cy m (L_X8_fault  fuel X)) 57 [(0, .ref (m 0))] []) → zJ E 1 0 0 (WM cy m X) 19 [(0, .ref (m 0))] [] := by
    intro fuel
    induction fuel with
    | zero => intro X hzf hmu; exact absurd hmu (Nat.not_lt_zero _)
    | succ fuel ih_19 =>
      intro X hzf hmu_19 K_19
      have hX1 := hzf.1.1
      have hX2 := hzf.1.2.1
      refine zj_aload_n C dX8_fault_19 0 rfl ?_
      refine zj_get C 0 8 11 (v := .int (zB (gMs_wr X))) inZ8 rfl rfl (by decide) tg_688 rfl dX8_fault_20 ?_
      refine zj_if_ne C 57 dX8_fault_23 (by decide) (fun c => ?_) (fun c => ?_)
      · have c_23 : ¬ ((gMs_wr X) = false) := (zB_neq c)
        have e_19 : (L_X8_fault  (fuel + 1) X) = X := by refine (L_X8_fault_s  fuel X).trans ?_; refine (if_neg c_23).trans ?_; rfl
        rw [e_19] at K_19
        exact K_19 hzf
      · have c_23 : (gMs_wr X) = false := (zB_eq (Classical.not_not.mp c))
        refine zj_aload_n C dX8_fault_26 0 rfl ?_
        refine zj_get C 0 8 10 (v := .int (nI (gMs_sp X))) inZ8 rfl rfl (by decide) tg_687 rfl dX8_fault_27 ?_
        refine zj_aload_n C dX8_fault_30 0 rfl ?_
        refine zj_get C 0 8 9 (v := .int (nI (gMs_pdm X))) inZ8 rfl rfl (by decide) tg_686 rfl dX8_fault_31 ?_
        refine zj_icmp_ge C 57 dX8_fault_34 (by decide) (fun c => ?_) (fun c => ?_)
        · have c_34 : (gMs_pdm X) ≤ (gMs_sp X) := ((nI_leI (by omega) (by omega)).mp c)
          have e_19 : (L_X8_fault  (fuel + 1) X) = X := by refine (L_X8_fault_s  fuel X).trans ?_; refine (if_pos c_23).trans ?_; refine (if_pos c_34).trans ?_; rfl
          rw [e_19] at K_19
          exact K_19 hzf
        · have c_34 : ¬ ((gMs_pdm X) ≤ (gMs_sp X)) := (fun q => c ((nI_leI (by omega) (by omega)).mpr q))
          refine zj_aload_n C dX8_fault_37 0 rfl ?_
          refine zj_bipush C (v := (nI 59)) dX8_fault_38 (by decide) ?_
          refine zj_callV C (nn := 10) (ws' := (WM cy m (f_X8_takeSign X (nI 59)))) (st := []) (st1 := []) 0 8 [0, 1, 2, 3, 4, 5, 6, 7, 8, 9] (c_X8_takeSign l D cy m (nI 59) X hzf.1) (zg_V tg_985 tg_982 tg_984 tgp_54 tg_9) ⟨rfl, hdZ_X8_takeSign⟩ ⟨rfl, rfl⟩ ⟨by decide, by decide⟩ rfl rfl rfl (by decide) ⟨rfl, rfl⟩ rfl rfl (Nat.le_of_ble_eq_true rfl) dX8_fault_40 rfl rfl ?_
          refine zj_aload_n C dX8_fault_43 0 rfl ?_
          refine zj_get C 0 8 11 (v := .int (zB (gMs_wr (f_X8_takeSign X (nI 59))))) inZ8 rfl rfl (by decide) tg_688 rfl dX8_fault_44 ?_
          refine zj_if_ne C 19 dX8_fault_47 (by decide) (fun c => ?_) (fun c => ?_)
          · have c_47 : ¬ ((gMs_wr (f_X8_takeSign X (nI 59))) = false) := (zB_neq c)
            have hn_hzf : zpf S (f_X8_takeSign X (nI 59)) := (by first | exact ((zpf_step hzf c_23).2.2.2.2.2 c_47).2.1 | exact (zpf_step hzf c_23).2.2.1 (zbt c_47))
            have hn_mu : (gMs_pdm (f_X8_takeSign X (nI 59)) - gMs_sp (f_X8_takeSign X (nI 59))) + (1 - (gMs_wr (f_X8_takeSign X (nI 59))).toNat) < fuel := (by first | exact zfl_dec hzf c_23 (Nat.not_le.mp c_34) (if_pos c_47).symm hmu_19 | exact zfl_dec hzf c_23 (Nat.not_le.mp c_34) (if_neg c_47).symm hmu_19)
            have e_19 : (L_X8_fault  (fuel + 1) X) = (L_X8_fault  fuel (f_X8_takeSign X (nI 59))) := by refine (L_X8_fault_s  fuel X).trans ?_; refine (if_pos c_23).trans ?_; refine (if_neg c_34).trans ?_; refine (if_neg c_47).trans ?_; rfl
            rw [e_19] at K_19
            exact ih_19 (f_X8_takeSign X (nI 59)) hn_hzf hn_mu K_19
          · have c_47 : (gMs_wr (f_X8_takeSign X (nI 59))) = false := (zB_eq (Classical.not_not.mp c))
            refine zj_aload_n C dX8_fault_50 0 rfl ?_
            refine zj_callV C (nn := 10) (ws' := (WM cy m (f_X8_takeOrder (f_X8_takeSign X (nI 59))))) (st := []) (st1 := []) 0 8 [0, 1, 2, 3, 4, 5, 6, 7, 8, 9] (c_X8_takeOrder l D cy m  (f_X8_takeSign X (nI 59)) (zpf_step hzf c_23).1) (zg_V tg_967 tg_964 tg_966 tgp_50 tg_9) ⟨rfl, hdZ_X8_takeOrder⟩ ⟨rfl, rfl⟩ ⟨by decide, by decide⟩ rfl rfl rfl (by decide) ⟨rfl, rfl⟩ rfl rfl (Nat.le_of_ble_eq_true rfl) dX8_fault_51 rfl rfl ?_
            refine zj_goto C 19 dX8_fault_54 (by decide) ?_
            have hn_hzf : zpf S (f_X8_takeOrder (f_X8_takeSign X (nI 59))) := (by first | exact ((zpf_step hzf c_23).2.2.2.2.2 c_47).2.1 | exact (zpf_step hzf c_23).2.2.1 (zbt c_47))
            have hn_mu : (gMs_pdm (f_X8_takeOrder (f_X8_takeSign X (nI 59))) - gMs_sp (f_X8_takeOrder (f_X8_takeSign X (nI 59)))) + (1 - (gMs_wr (f_X8_takeOrder (f_X8_takeSign X (nI 59)))).toNat) < fuel := (by first | exact zfl_dec hzf c_23 (Nat.not_le.mp c_34) (if_pos c_47).symm hmu_19 | exact zfl_dec hzf c_23 (Nat.not_le.mp c_34) (if_neg c_47).symm hmu_19)
            have e_19 : (L_X8_fault  (fuel + 1) X) = (L_X8_fault  fuel (f_X8_takeOrder (f_X8_takeSign X (nI 59)))) := by refine (L_X8_fault_s  fuel X).trans ?_; refine (if_pos c_23).trans ?_; refine (if_neg c_34).trans ?_; refine (if_pos c_47).trans ?_; rfl
            rw [e_19] at K_19
            exact ih_19 (f_X8_takeOrder (f_X8_takeSign X (nI 59))) hn_hzf hn_mu K_19
  have K_19 : ∀ (X1 : zMs), X1 = (L_X8_fault  ((gMs_pdm (f_X8_takeOrder (sMs_od (sMs_wr (sMs_sp S 0) false) 0)) - gMs_sp (f_X8_takeOrder (sMs_od (sMs_wr (sMs_sp S 0) false) 0))) + (1 - (gMs_wr (f_X8_takeOrder (sMs_od (sMs_wr (sMs_sp S 0) false) 0))).toNat) + 1) (f_X8_takeOrder (sMs_od (sMs_wr (sMs_sp S 0) false) 0))) → (Pf_e : zpf S X1) → zJ E 1 0 0 (WM cy m X1) 57 [(0, .ref (m 0))] [] := by
    intro X1 hX1 Pf_e
    have hpp1 := Pf_e.1.1
    have hpp2 := Pf_e.1.2.1
    refine zj_aload_n C dX8_fault_57 0 rfl ?_
    refine zj_get C 0 8 11 (v := .int (zB (gMs_wr X1))) inZ8 rfl rfl (by decide) tg_688 rfl dX8_fault_58 ?_
    have J_61 : ∀ (x61_0 : Int32), x61_0 = (if (gMs_wr X1) = false then (-6) else (nI (gMs_sp X1))) → zJ E 1 0 0 (WM cy m X1) 73 [(0, .ref (m 0))] [.int x61_0] := by
      intro x61_0 hx61_0
      subst hx61_0
      subst hX1
      have e : f_X8_fault S = ((if (gMs_wr (L_X8_fault  ((gMs_pdm (f_X8_takeOrder (sMs_od (sMs_wr (sMs_sp S 0) false) 0)) - gMs_sp (f_X8_takeOrder (sMs_od (sMs_wr (sMs_sp S 0) false) 0))) + (1 - (gMs_wr (f_X8_takeOrder (sMs_od (sMs_wr (sMs_sp S 0) false) 0))).toNat) + 1) (f_X8_takeOrder (sMs_od (sMs_wr (sMs_sp S 0) false) 0)))) = false then (-6) else (nI (gMs_sp (L_X8_fault  ((gMs_pdm (f_X8_takeOrder (sMs_od (sMs_wr (sMs_sp S 0) false) 0)) - gMs_sp (f_X8_takeOrder (sMs_od (sMs_wr (sMs_sp S 0) false) 0))) + (1 - (gMs_wr (f_X8_takeOrder (sMs_od (sMs_wr (sMs_sp S 0) false) 0))).toNat) + 1) (f_X8_takeOrder (sMs_od (sMs_wr (sMs_sp S 0) false) 0)))))), (L_X8_fault  ((gMs_pdm (f_X8_takeOrder (sMs_od (sMs_wr (sMs_sp S 0) false) 0)) - gMs_sp (f_X8_takeOrder (sMs_od (sMs_wr (sMs_sp S 0) false) 0))) + (1 - (gMs_wr (f_X8_takeOrder (sMs_od (sMs_wr (sMs_sp S 0) false) 0))).toNat) + 1) (f_X8_takeOrder (sMs_od (sMs_wr (sMs_sp S 0) false) 0)))) := by refine (zsl_e _).trans ?_; rfl
      rw [e] at hret
      exact hret _ _ dX8_fault_73
    refine zj_if_eq C 71 dX8_fault_61 (by decide) (fun c => ?_) (fun c => ?_)
    · have c_61 : (gMs_wr X1) = false := (zB_eq c)
      refine zj_bipush C (v := (-6)) dX8_fault_71 (by decide) ?_
      exact J_61 (-6) (by simp only [if_pos c_61]; first | done | assumption)
    · have c_61 : ¬ ((gMs_wr X1) = false) := (zB_neq c)
      refine zj_aload_n C dX8_fault_64 0 rfl ?_
      refine zj_get C 0 8 10 (v := .int (nI (gMs_sp X1))) inZ8 rfl rfl (by decide) tg_687 rfl dX8_fault_65 ?_
      refine zj_goto C 73 dX8_fault_68 (by decide) ?_
      exact J_61 (nI (gMs_sp X1)) (by simp only [if_neg c_61]; first | done | assumption)
  exact loop_19 ((gMs_pdm (f_X8_takeOrder (sMs_od (sMs_wr (sMs_sp S 0) false) 0)) - gMs_sp (f_X8_takeOrder (sMs_od (sMs_wr (sMs_sp S 0) false) 0))) + (1 - (gMs_wr (f_X8_takeOrder (sMs_od (sMs_wr (sMs_sp S 0) false) 0))).toNat) + 1) (f_X8_takeOrder (sMs_od (sMs_wr (sMs_sp S 0) false) 0)) (zpf_start hp) (Nat.lt_succ_self _) (K_19 _ rfl)
