/-! pure functions and their rows; out of whole's part of the same name -/
/-- only what reading a text changes is other -/
def zsame (S T : zMs) : Prop := T = sMs_sp (sMs_wr (sMs_od (sMs_so (sMs_nu S (gMs_nu T)) (gMs_so T)) (gMs_od T)) (gMs_wr T)) (gMs_sp T)
theorem zsame_t {S T U : zMs} (h1 : zsame S T) (h2 : zsame T U) : zsame S U := by
  unfold zsame at h1 h2 ⊢
  rw [h1] at h2
  exact h2
theorem zsame_pdm {S T : zMs} (h : zsame S T) : gMs_pdm T = gMs_pdm S := by rw [h]
theorem zp_sign {S : zMs} {sg : Int32} (hz : zpp S) (hs : ¬ sg = nI 0) : zsame S (f_X8_takeSign S sg) ∧ gMs_od (f_X8_takeSign S sg) = gMs_od S ∧ gMs_sp S ≤ gMs_sp (f_X8_takeSign S sg) ∧ gMs_sp (f_X8_takeSign S sg) ≤ gMs_pdm S ∧ (gMs_wr (f_X8_takeSign S sg) = false → gMs_wr S = false ∧ gMs_sp (f_X8_takeSign S sg) = gMs_sp S + 1) := by
  obtain ⟨h1, h2, h3⟩ := hz
  refine ⟨rfl, rfl, Nat.le_add_right _ _, ?_, ?_⟩
  · show gMs_sp S + (if (if (gMs_wr S) = false then (if (f_X8_next S) = sg then false else true) else true) = false then 1 else 0) ≤ gMs_pdm S
    by_cases q1 : gMs_wr S = false
    · rw [if_pos q1]
      by_cases q2 : f_X8_next S = sg
      · have := zsgn q2 hs
        rw [if_pos q2, if_pos rfl]; omega
      · rw [if_neg q2, if_neg (by decide)]; omega
    · rw [if_neg q1, if_neg (by decide)]; omega
  · show (if (gMs_wr S) = false then (if (f_X8_next S) = sg then false else true) else true) = false → gMs_wr S = false ∧ gMs_sp S + (if (if (gMs_wr S) = false then (if (f_X8_next S) = sg then false else true) else true) = false then 1 else 0) = gMs_sp S + 1
    intro q
    refine ⟨?_, by rw [if_pos q]⟩
    by_cases q1 : gMs_wr S = false
    · exact q1
    · rw [if_neg q1] at q; cases q
theorem zp_num_l (S : zMs) (high : Int32) (hp : gMs_pdm S ≤ 80) : ∀ (n : Nat) (w : Bool) (p : Nat) (v : Int32), p ≤ gMs_pdm S → p ≤ (L_X8_num S high n w p v).2.1 ∧ (L_X8_num S high n w p v).2.1 ≤ gMs_pdm S
  | 0, w, p, v, h => ⟨Nat.le_refl _, h⟩
  | n + 1, w, p, v, h => by
    rw [L_X8_num_s]
    by_cases c1 : w = false
    · rw [if_pos c1]
      by_cases c2 : v ≤ 0
      · rw [if_pos c2]; exact ⟨Nat.le_refl _, h⟩
      · rw [if_neg c2]
        by_cases c3 : f_X8_in (f_X8_next (sMs_wr (sMs_sp S p) w)).toInt64 48 57 = false
        · rw [if_pos c3]; exact ⟨Nat.le_refl _, h⟩
        · rw [if_neg c3]
          have hlt : p < gMs_pdm S := zdig (X := sMs_wr (sMs_sp S p) w) (zbt c3) (by decide)
          dsimp only
          have key : ∀ (x : Bool) (y : Int32), p ≤ (L_X8_num S high n x (p + if x = false then 1 else 0) y).2.1 ∧ (L_X8_num S high n x (p + if x = false then 1 else 0) y).2.1 ≤ gMs_pdm S := fun x y => by
            have := zp_num_l S high hp n x (p + if x = false then 1 else 0) y (by split <;> omega)
            exact ⟨Nat.le_trans (Nat.le_add_right _ _) this.1, this.2⟩
          exact key _ _
    · rw [if_neg c1]; exact ⟨Nat.le_refl _, h⟩
theorem zp_num {S : zMs} {pl : Nat} {high : Int32} (hz : zpp S) : zsame S (f_X8_takeNumber S pl high) ∧ gMs_od (f_X8_takeNumber S pl high) = gMs_od S ∧ gMs_sp S ≤ gMs_sp (f_X8_takeNumber S pl high) ∧ gMs_sp (f_X8_takeNumber S pl high) ≤ gMs_pdm S := by
  obtain ⟨hp, h2, h3⟩ := hz
  unfold f_X8_takeNumber
  rw [zsl_e]
  generalize hx5_0 : (if (gMs_wr S) = false then (if (f_X8_in (((f_X8_next S)).toInt64) 48 57) = false then true else false) else true) = x
  dsimp only
  by_cases c_37 : x = false
  · rw [if_pos c_37]
    have hlt : gMs_sp S < gMs_pdm S := by
      rw [← hx5_0] at c_37
      by_cases q1 : gMs_wr S = false
      · rw [if_pos q1] at c_37
        by_cases q2 : f_X8_in (f_X8_next S).toInt64 48 57 = false
        · rw [if_pos q2] at c_37; cases c_37
        · exact zdig (zbt q2) (by decide)
      · rw [if_neg q1] at c_37; cases c_37
    have := zp_num_l S high hp ((gMs_pdm S - ((gMs_sp S) + 1)) + (1 - x.toNat) + 1) x (gMs_sp S + 1) (f_X8_next (sMs_wr S x) - nI 48) hlt
    exact ⟨rfl, rfl, Nat.le_trans (Nat.le_succ _) this.1, this.2⟩
  · rw [if_neg c_37]
    exact ⟨rfl, rfl, Nat.le_refl _, h2⟩
theorem zp_holder {S : zMs} (hz : zpp S) : zsame S (f_X8_takeHolder S) ∧ gMs_od (f_X8_takeHolder S) = gMs_od S ∧ gMs_sp S ≤ gMs_sp (f_X8_takeHolder S) ∧ gMs_sp (f_X8_takeHolder S) ≤ gMs_pdm S := by
  obtain ⟨hp, h2, h3⟩ := hz
  unfold f_X8_takeHolder
  generalize hx5_0 : (if (gMs_wr S) = false then (if (f_X8_in (((f_X8_next S)).toInt64) 48 53) = false then true else false) else true) = x
  dsimp only
  by_cases c_37 : x = false
  · rw [if_pos c_37, if_pos c_37]
    have hlt : gMs_sp S < gMs_pdm S := by
      rw [← hx5_0] at c_37
      by_cases q1 : gMs_wr S = false
      · rw [if_pos q1] at c_37
        by_cases q2 : f_X8_in (f_X8_next S).toInt64 48 53 = false
        · rw [if_pos q2] at c_37; cases c_37
        · exact zdig (zbt q2) (by decide)
      · rw [if_neg q1] at c_37; cases c_37
    exact ⟨rfl, rfl, Nat.le_succ _, hlt⟩
  · rw [if_neg c_37, if_neg c_37]
    exact ⟨rfl, rfl, Nat.le_refl _, h2⟩
theorem zpp_of {S T : zMs} (hz : zpp S) (h : zsame S T ∧ gMs_od T = gMs_od S ∧ gMs_sp S ≤ gMs_sp T ∧ gMs_sp T ≤ gMs_pdm S) : zpp T := by
  obtain ⟨h1, h2, h3⟩ := hz
  have e := zsame_pdm h.1
  exact ⟨by rw [e]; exact h1, by rw [e]; exact h.2.2.2, by rw [h.2.1]; exact h3⟩
theorem zp4 {S T : zMs} {P : Prop} (h : zsame S T ∧ gMs_od T = gMs_od S ∧ gMs_sp S ≤ gMs_sp T ∧ gMs_sp T ≤ gMs_pdm S ∧ P) : zsame S T ∧ gMs_od T = gMs_od S ∧ gMs_sp S ≤ gMs_sp T ∧ gMs_sp T ≤ gMs_pdm S := ⟨h.1, h.2.1, h.2.2.1, h.2.2.2.1⟩
theorem zp4_t {S T U : zMs} (h : zsame S T ∧ gMs_od T = gMs_od S ∧ gMs_sp S ≤ gMs_sp T ∧ gMs_sp T ≤ gMs_pdm S) (k : zsame T U ∧ gMs_od U = gMs_od T ∧ gMs_sp T ≤ gMs_sp U ∧ gMs_sp U ≤ gMs_pdm T) : zsame S U ∧ gMs_od U = gMs_od S ∧ gMs_sp S ≤ gMs_sp U ∧ gMs_sp U ≤ gMs_pdm S :=
  ⟨zsame_t h.1 k.1, k.2.1.trans h.2.1, Nat.le_trans h.2.2.1 k.2.2.1, by rw [← zsame_pdm h.1]; exact k.2.2.2⟩

