/-! all days' orders -/
theorem so3_eq {S : zMs} {o : zOd} (hR : RO 122 o (gMs_at S)) (hn : gOd_n o ≤ 20) {day : Int32} (sh : Nat → Int64) {fr : Nat} (hf : fr < f_X4_dueOn o day) : ∀ (m t : Nat), t + m = f_X4_dueOn o day → fr < t → L_X8_so3 S sh fr (zcn S 122 - t + 1) t = L_X0_so2 o (f_X4_dueOn o day) fr (m + 1) t ∧ t ≤ L_X0_so2 o (f_X4_dueOn o day) fr (m + 1) t ∧ L_X0_so2 o (f_X4_dueOn o day) fr (m + 1) t ≤ f_X4_dueOn o day := by
  have hd : f_X4_dueOn o day ≤ gOd_n o := xdue_le
  have hz := zcn_o hR hn
  intro m
  induction m with
  | zero =>
    intro t ht hft
    have ht2 : t = f_X4_dueOn o day := by omega
    rw [L_X0_so2_s, if_pos (by omega), L_X8_so3_s, hz]
    refine ⟨?_, Nat.le_refl _, by omega⟩
    by_cases c : gOd_n o ≤ t
    · rw [if_pos c]
    · rw [if_neg c, if_neg]
      intro e
      have e1 : f_X8_ofOrder (sMs_sh S sh) 122 t 2 = (gOd_dy o t).toInt64 := (ofO_eq hR (by omega)).2.1
      have e2 : f_X8_ofOrder (sMs_sh S sh) 122 fr 2 = (gOd_dy o fr).toInt64 := (ofO_eq hR (by omega)).2.1
      rw [e1, e2, i32_l_eq] at e
      have h1 := (due_spec o day).2 (by omega)
      have h2 := (due_spec o day).1 fr hf
      rw [← ht2, e] at h1
      rw [i32_lt_iff] at h1
      rw [i32_le_iff] at h2
      omega
  | succ m ih =>
    intro t ht hft
    have e1 : f_X8_ofOrder (sMs_sh S sh) 122 t 2 = (gOd_dy o t).toInt64 := (ofO_eq hR (by omega)).2.1
    have e2 : f_X8_ofOrder (sMs_sh S sh) 122 fr 2 = (gOd_dy o fr).toInt64 := (ofO_eq hR (by omega)).2.1
    rw [L_X0_so2_s, if_neg (by omega), L_X8_so3_s, hz, if_neg (by omega), e1, e2]
    by_cases c : gOd_dy o t = gOd_dy o fr
    · rw [if_pos c, if_pos (i32_l_eq.mpr c)]
      obtain ⟨h1, h2, h3⟩ := ih (t + 1) (by omega) (by omega)
      rw [hz] at h1
      rw [show gOd_n o - t = gOd_n o - (t + 1) + 1 by omega]
      exact ⟨h1, by omega, h3⟩
    · rw [if_neg c, if_neg (fun z => c (i32_l_eq.mp z))]
      exact ⟨rfl, Nat.le_refl _, by omega⟩
theorem so_eq {S : zMs} {o : zOd} {x : zDd} {mx : Int} {day : Int32} (hR : RO 122 o (gMs_at S)) (h10 : gMs_at S 10 = day.toInt64) (hO : iO mx o) (ht : sS o 0 (gOd_n o) ≤ 1000000000) : ∀ (k fr fm fc : Nat) (sh sc : Nat → Int64) (left : Int64), f_X4_dueOn o day - fr ≤ k → fr ≤ f_X4_dueOn o day → gOd_n o - fr < fm → f_X4_dueOn o day - fr < fc → 0 ≤ left.toInt →
    (∀ i, i < fr ∨ f_X4_dueOn o day ≤ i → (L_X8_so2 S fm sh left fr).1 i = sh i ∧ (L_X0_so x o (f_X4_dueOn o day) fc sc left fr).1 i = sc i) ∧ (∀ i, fr ≤ i → i < f_X4_dueOn o day → (L_X8_so2 S fm sh left fr).1 i = (L_X0_so x o (f_X4_dueOn o day) fc sc left fr).1 i ∧ 0 ≤ ((L_X0_so x o (f_X4_dueOn o day) fc sc left fr).1 i).toInt ∧ ((L_X0_so x o (f_X4_dueOn o day) fc sc left fr).1 i).toInt ≤ (gOd_sz o i).toInt) := by
  have hd : f_X4_dueOn o day ≤ gOd_n o := xdue_le
  have hz := zcn_o hR hO.1
  intro k
  induction k with
  | zero =>
    intro fr fm fc sh sc left hk hfr hm hc hl
    obtain ⟨fm, rfl⟩ : ∃ n, fm = n + 1 := ⟨fm - 1, by omega⟩
    obtain ⟨fc, rfl⟩ : ∃ n, fc = n + 1 := ⟨fc - 1, by omega⟩
    have e : fr = f_X4_dueOn o day := by omega
    have e1 : L_X0_so x o (f_X4_dueOn o day) (fc + 1) sc left fr = (sc, left, fr) := by rw [L_X0_so_s, if_pos (by omega)]
    have e2 : L_X8_so2 S (fm + 1) sh left fr = (sh, left, fr) := by
      rw [L_X8_so2_s, hz]
      by_cases c : gOd_n o ≤ fr
      · rw [if_pos c]
      · rw [if_neg c, if_pos]
        have e3 : f_X8_ofOrder (sMs_sh S sh) 122 fr 2 = (gOd_dy o fr).toInt64 := (ofO_eq hR (by omega)).2.1
        rw [e3, h10, i32_l_lt, e]
        exact (due_spec o day).2 (by omega)
    rw [e1, e2]
    exact ⟨fun i _ => ⟨rfl, rfl⟩, fun i a b => by omega⟩
  | succ k ih =>
    intro fr fm fc sh sc left hk hfr hm hc hl
    by_cases e : fr = f_X4_dueOn o day
    · exact ih fr fm fc sh sc left (by omega) hfr hm hc hl
    obtain ⟨fm, rfl⟩ : ∃ n, fm = n + 1 := ⟨fm - 1, by omega⟩
    obtain ⟨fc, rfl⟩ : ∃ n, fc = n + 1 := ⟨fc - 1, by omega⟩
    have hf : fr < f_X4_dueOn o day := by omega
    rw [L_X0_so_s, if_neg (by omega), L_X8_so2_s]
    have c1 : ¬ zcn S 122 ≤ fr := by omega
    have c2 : ¬ gMs_at S 10 < f_X8_ofOrder (sMs_sh S sh) 122 fr 2 := by
      have e3 : f_X8_ofOrder (sMs_sh S sh) 122 fr 2 = (gOd_dy o fr).toInt64 := (ofO_eq hR (by omega)).2.1
      rw [e3, h10, i32_l_lt]
      exact Int32.not_lt.mpr ((due_spec o day).1 fr hf)
    rw [if_neg c1, if_neg c2]
    dsimp only
    obtain ⟨t1, t2, t3⟩ := so3_eq hR hO.1 (day := day) sh hf (f_X4_dueOn o day - (fr + 1)) (fr + 1) (by omega) (by omega)
    rw [t1]
    generalize L_X0_so2 o (f_X4_dueOn o day) fr (f_X4_dueOn o day - (fr + 1) + 1) (fr + 1) = t at t2 t3 ⊢
    obtain ⟨sh', sc', d1, d2, d3, d4, d5⟩ := day_eq (x := x) hR hO ht (fr := fr) (to := t) (by omega) (by omega) sh sc hl
    rw [d1, d2]
    have g1 : gMs_sh (sMs_sh S sh') = sh' := rfl
    have g2 : gDd_sh (sDd_sh x sc') = sc' := rfl
    dsimp only
    obtain ⟨r1, r2⟩ := ih t fm fc sh' sc' (left - (if left < f_X4_sum o fr t then left else f_X4_sum o fr t)) (by omega) t3 (by omega) (by omega) d5
    refine ⟨fun i hi => ?_, fun i a b => ?_⟩
    · obtain ⟨a1, a2⟩ := r1 i (by omega)
      obtain ⟨b1, b2⟩ := d3 i (by omega)
      exact ⟨a1.trans b1, a2.trans b2⟩
    · by_cases c : i < t
      · obtain ⟨a1, a2⟩ := r1 i (Or.inl c)
        obtain ⟨b1, b2, b3⟩ := d4 i a c
        refine ⟨a1.trans (b1.trans a2.symm), ?_⟩
        have : (L_X0_so x o (f_X4_dueOn o day) fc sc' (left - (if left < f_X4_sum o fr t then left else f_X4_sum o fr t)) t).1 i = sc' i := a2
        exact ⟨by rw [this]; exact b2, by rw [this]; exact b3⟩
      · exact r2 i (by omega) b
/-- the sharing out: both sides alike -/
theorem share_eq {S : zMs} {o : zOd} {x : zDd} {mx : Int} {day : Int32} (hR : RO 122 o (gMs_at S)) (h10 : gMs_at S 10 = day.toInt64) (hO : iO mx o) (ht : sS o 0 (gOd_n o) ≤ 1000000000) (hl : 0 ≤ (gDd_allowed x).toInt) :
    ∃ sm sc : Nat → Int64, f_X8_shareOut S (gDd_allowed x) = sMs_sh S sm ∧ f_X0_shareOut x o (f_X4_dueOn o day) = sDd_sh x sc ∧ (∀ i, i < f_X4_dueOn o day → sm i = sc i ∧ 0 ≤ (sc i).toInt ∧ (sc i).toInt ≤ (gOd_sz o i).toInt) ∧ ∀ i, f_X4_dueOn o day ≤ i → i < 20 → sm i = 0 := by
  have hd : f_X4_dueOn o day ≤ gOd_n o := xdue_le
  have hz := zcn_o hR hO.1
  have hs0 := L_so1_at S 20 0 (gMs_sh S)
  unfold f_X8_shareOut f_X0_shareOut
  rw [zsl_e]
  dsimp only
  generalize L_X8_so1 S (20 - 0 + 1) (gMs_sh S) 0 = Z at hs0 ⊢
  obtain ⟨r1, r2⟩ := so_eq (x := x) hR h10 hO ht (f_X4_dueOn o day) 0 (zcn S 122 - 0 + 1) (f_X4_dueOn o day - 0 + 1) Z.1 (gDd_sh x) (gDd_allowed x) (by omega) (Nat.zero_le _) (by omega) (by omega) hl
  refine ⟨_, _, rfl, rfl, fun i hi => r2 i (Nat.zero_le _) hi, fun i h1 h2 => ?_⟩
  rw [(r1 i (Or.inr h1)).1]
  have := hs0 i (by omega)
  rw [if_pos (by omega)] at this
  exact this
theorem okShare {S : zMs} {o : zOd} {mx : Int} (hR : RO 122 o (gMs_at S)) (hO : iO mx o) (ht : sS o 0 (gOd_n o) ≤ 1000000000) (x : zDd) : ok_share S := fun sh fr t left h0 h1 h2 => by
  rw [zcn_o hR hO.1] at h2
  obtain ⟨sh', sc', d1, -, -, -, d5⟩ := day_eq (x := x) hR hO ht h1 h2 sh sh (left := left) (by rw [i64_le_iff] at h0; exact h0)
  rw [d1, i64_le_iff]
  exact d5
