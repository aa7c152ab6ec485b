/-! pure functions and their rows; out of whole's part of the same name -/
theorem zp_order {S : zMs} (hz : zpp S) : zsame S (f_X8_takeOrder S) ∧ gMs_sp S ≤ gMs_sp (f_X8_takeOrder S) ∧ gMs_sp (f_X8_takeOrder S) ≤ gMs_pdm S ∧ ((gMs_wr (f_X8_takeOrder S) = false ∧ gMs_od (f_X8_takeOrder S) = gMs_od S + 1 ∧ gMs_sp S + 1 ≤ gMs_sp (f_X8_takeOrder S)) ∨ (gMs_wr (f_X8_takeOrder S) = true ∧ gMs_od (f_X8_takeOrder S) = gMs_od S)) := by
  unfold f_X8_takeOrder
  rw [zsl_e]
  generalize hx9_0 : (if (f_X8_next S) = (nI 98) then false else (if (f_X8_next S) = (nI 108) then false else (if (f_X8_next S) = (nI 113) then false else (if (f_X8_next S) = (nI 105) then false else (if (f_X8_next S) = (nI 100) then false else (if (f_X8_next S) = (nI 112) then false else true)))))) = x9
  dsimp only
  by_cases c : x9 = false
  · rw [if_pos c]
    have hlt : gMs_sp S < gMs_pdm S := by
      rcases Nat.lt_or_ge (gMs_sp S) (gMs_pdm S) with q | q
      · exact q
      · have e0 : f_X8_next S = nI 0 := if_pos q
        rw [← hx9_0, e0] at c
        exact absurd c (by decide)
    have z1 := zPR_wr1 (T := S) x9 hlt
    have zz1 := zpp_wr1 (w := x9) hz hlt
    have hsp : gMs_sp S + 1 = gMs_sp (sMs_wr (sMs_sp S (gMs_sp S + 1)) x9) := rfl
    generalize hX : (sMs_wr (sMs_sp S (gMs_sp S + 1)) x9) = X at z1 zz1 hsp ⊢
    have key : ∀ T : zMs, zPR X T → zsame S (sMs_so (sMs_od T (if gMs_wr T = false then gMs_od T + 1 else gMs_od T)) (if gMs_wr T = false then upd (gMs_so T) (gMs_od T) (f_X8_next S) else gMs_so T)) ∧ gMs_sp S ≤ gMs_sp T ∧ gMs_sp T ≤ gMs_pdm S ∧ ((gMs_wr T = false ∧ (if gMs_wr T = false then gMs_od T + 1 else gMs_od T) = gMs_od S + 1 ∧ gMs_sp S + 1 ≤ gMs_sp T) ∨ (gMs_wr T = true ∧ (if gMs_wr T = false then gMs_od T + 1 else gMs_od T) = gMs_od S)) := fun T h => by
      have h2 := zp4_t z1 h
      generalize (if gMs_wr T = false then upd (gMs_so T) (gMs_od T) (f_X8_next S) else gMs_so T) = f0
      refine ⟨zsame_t h2.1 rfl, h2.2.2.1, h2.2.2.2, ?_⟩
      by_cases q : gMs_wr T = false
      · rw [if_pos q]
        refine Or.inl ⟨q, by rw [h2.2.1], ?_⟩
        rw [hsp]; exact h.2.2.1
      · rw [if_neg q]
        exact Or.inr ⟨zbt q, h2.2.1⟩
    by_cases q1 : f_X8_next S = nI 98
    · rw [if_pos q1]; exact key _ (zp_ordering zz1)
    rw [if_neg q1]
    by_cases q2 : f_X8_next S = nI 108
    · rw [if_pos q2]; exact key _ (zp_ordering zz1)
    rw [if_neg q2]
    by_cases q3 : f_X8_next S = nI 113
    · rw [if_pos q3]; exact key _ (zp_num zz1)
    rw [if_neg q3]
    by_cases q4 : f_X8_next S = nI 105
    · rw [if_pos q4]; exact key _ (zp_num zz1)
    rw [if_neg q4]
    exact key _ ⟨rfl, rfl, Nat.le_refl _, zz1.2.1⟩
  · rw [if_neg c]
    exact ⟨rfl, Nat.le_refl _, hz.2.1, Or.inr ⟨zbt c, rfl⟩⟩
/-- what the reading of a whole text rests on -/
def zpf (S X : zMs) : Prop := zpp X ∧ zsame S X ∧ (gMs_wr X = false → 2 * gMs_od X ≤ gMs_sp X + 1) ∧ gMs_od X ≤ 40
theorem zpf_start {S : zMs} (hp : gMs_pdm S ≤ 80) : zpf S (f_X8_takeOrder (sMs_od (sMs_wr (sMs_sp S 0) false) 0)) := by
  have z0 : zpp (sMs_od (sMs_wr (sMs_sp S 0) false) 0) := ⟨hp, Nat.zero_le _, Nat.zero_le _⟩
  have s0 : zsame S (sMs_od (sMs_wr (sMs_sp S 0) false) 0) := rfl
  have d0 : gMs_od (sMs_od (sMs_wr (sMs_sp S 0) false) 0) = 0 := rfl
  have e0 : gMs_sp (sMs_od (sMs_wr (sMs_sp S 0) false) 0) = 0 := rfl
  generalize (sMs_od (sMs_wr (sMs_sp S 0) false) 0) = X at z0 s0 d0 e0 ⊢
  obtain ⟨h1, h2, h3, h4⟩ := zp_order z0
  have hpd := zsame_pdm h1
  have hz : gMs_od (f_X8_takeOrder X) ≤ 40 := by rcases h4 with ⟨-, b, -⟩ | ⟨-, b⟩ <;> omega
  refine ⟨⟨by rw [hpd]; exact z0.1, by rw [hpd]; exact h3, hz⟩, zsame_t s0 h1, fun q => ?_, hz⟩
  rcases h4 with ⟨-, b, c⟩ | ⟨b, -⟩
  · omega
  · rw [b] at q; cases q
theorem zpf_step {S X : zMs} (h : zpf S X) (hw : gMs_wr X = false) : zpp (f_X8_takeSign X (nI 59)) ∧ zsame S (f_X8_takeSign X (nI 59)) ∧ (gMs_wr (f_X8_takeSign X (nI 59)) = true → zpf S (f_X8_takeSign X (nI 59))) ∧ gMs_pdm (f_X8_takeSign X (nI 59)) = gMs_pdm X ∧ gMs_sp X ≤ gMs_sp (f_X8_takeSign X (nI 59)) ∧
    (gMs_wr (f_X8_takeSign X (nI 59)) = false → gMs_sp (f_X8_takeSign X (nI 59)) = gMs_sp X + 1 ∧ zpf S (f_X8_takeOrder (f_X8_takeSign X (nI 59))) ∧ gMs_pdm (f_X8_takeOrder (f_X8_takeSign X (nI 59))) = gMs_pdm X ∧ gMs_sp X + 1 ≤ gMs_sp (f_X8_takeOrder (f_X8_takeSign X (nI 59)))) := by
  obtain ⟨hz, hs, ho, ho4⟩ := h
  have z := zp_sign (sg := nI 59) hz (by decide)
  have hz1 := zpp_of hz (zp4 z)
  have ho1 := ho hw
  generalize f_X8_takeSign X (nI 59) = Y at z hz1 ⊢
  obtain ⟨z1, z2, z3, z4, z5⟩ := z
  have hpd := zsame_pdm z1
  refine ⟨hz1, zsame_t hs z1, fun q => ⟨hz1, zsame_t hs z1, (fun r => by rw [q] at r; cases r), by omega⟩, hpd, z3, fun q => ?_⟩
  obtain ⟨-, e⟩ := z5 q
  obtain ⟨h1, h2, h3, h4⟩ := zp_order hz1
  have hpd2 := zsame_pdm h1
  have hpp := hz.1
  have hod : gMs_od (f_X8_takeOrder Y) ≤ 40 := by rcases h4 with ⟨-, b, c⟩ | ⟨-, b⟩ <;> omega
  refine ⟨e, ⟨⟨by rw [hpd2]; exact hz1.1, by rw [hpd2]; exact h3, hod⟩, zsame_t (zsame_t hs z1) h1, fun r => ?_, hod⟩, by rw [hpd2, hpd], by omega⟩
  rcases h4 with ⟨-, b, c⟩ | ⟨b, -⟩
  · omega
  · rw [b] at r; cases r

theorem zfl_dec {S X Y : zMs} {fuel : Nat} (h : zpf S X) (hw : gMs_wr X = false) (hlt : gMs_sp X < gMs_pdm X) (hY : Y = if gMs_wr (f_X8_takeSign X (nI 59)) = false then f_X8_takeOrder (f_X8_takeSign X (nI 59)) else f_X8_takeSign X (nI 59)) (hmu : (gMs_pdm X - gMs_sp X) + (1 - (gMs_wr X).toNat) < fuel + 1) : (gMs_pdm Y - gMs_sp Y) + (1 - (gMs_wr Y).toNat) < fuel := by
  obtain ⟨z1, z2, z3, z4, z5, z6⟩ := zpf_step h hw
  rw [hw] at hmu
  have hmu : (gMs_pdm X - gMs_sp X) + (1 - 0) < fuel + 1 := hmu
  by_cases q : gMs_wr (f_X8_takeSign X (nI 59)) = false
  · rw [if_pos q] at hY
    obtain ⟨e1, e2, e3, e4⟩ := z6 q
    subst hY
    rw [e3]
    have : 1 - (gMs_wr (f_X8_takeOrder (f_X8_takeSign X (nI 59)))).toNat ≤ 1 := Nat.sub_le _ _
    omega
  · rw [if_neg q] at hY
    subst hY
    rw [zbt q, z4]
    show _ + (1 - 1) < fuel
    omega

noncomputable def L_X8_fault  : Nat → (zMs) → (zMs)
  | 0, X => X
  | fuel + 1, X =>
    if (gMs_wr X) = false then
      if (gMs_pdm X) ≤ (gMs_sp X) then
        X
      else
        if (gMs_wr (f_X8_takeSign X (nI 59))) = false then
          L_X8_fault  fuel (f_X8_takeOrder (f_X8_takeSign X (nI 59)))
        else
          L_X8_fault  fuel (f_X8_takeSign X (nI 59))
    else
      X
theorem L_X8_fault_s  (fuel : Nat) (X : zMs) : L_X8_fault  (fuel + 1) X = (
    if (gMs_wr X) = false then
      if (gMs_pdm X) ≤ (gMs_sp X) then
        X
      else
        if (gMs_wr (f_X8_takeSign X (nI 59))) = false then
          L_X8_fault  fuel (f_X8_takeOrder (f_X8_takeSign X (nI 59)))
        else
          L_X8_fault  fuel (f_X8_takeSign X (nI 59))
    else
      X
  ) := rfl
noncomputable def f_X8_fault (S : zMs) : Int32 × zMs := zsl (
  let X1 : zMs := (L_X8_fault  ((gMs_pdm (f_X8_takeOrder (sMs_od (sMs_wr (sMs_sp S 0) false) 0)) - gMs_sp (f_X8_takeOrder (sMs_od (sMs_wr (sMs_sp S 0) false) 0))) + (1 - (gMs_wr (f_X8_takeOrder (sMs_od (sMs_wr (sMs_sp S 0) false) 0))).toNat) + 1) (f_X8_takeOrder (sMs_od (sMs_wr (sMs_sp S 0) false) 0)))
  let x61_0 : Int32 := (if (gMs_wr X1) = false then (-6) else (nI (gMs_sp X1)))
  (x61_0, X1)
  )
