/-! the least swing that is fair -/
theorem nI_lN {k : Nat} (hk : k < 2 ^ 31) : (nI k).toInt64 = lN k := i64_eq_iff.mpr (by rw [i32_l, nI_int hk, lN_int (by omega)])
theorem gX_set {D : Int} {U : zTr} {A : Nat → Int64} {k : Nat} (hk : k ≤ 100) (h : gX D U A) : gX D (sTr_st U (upd (gTr_st U) 2 (nI k))) (vp_updL A 2 (lN k)) := by
  have e := nI_lN (k := k) (by omega)
  have hv : 0 ≤ (nI k).toInt ∧ (nI k).toInt ≤ (zGi 2).toInt := by
    rw [nI_int (by omega)]
    have : (zGi 2).toInt = 100 := rfl
    omega
  rw [← e]
  exact ⟨RTr_set (nI k) h.2.1 (by omega) h.1, Inv_set (by omega) hv h.2.1, h.2.2⟩
theorem fair_step8 (S X : zMs) (m k : Nat) (hk : k ≤ 100) : L_X8_fair S (m + 1) X (-6) k = L_X8_fair S m (f_X8_layBack (f_X8_endIt (sMs_at X (vp_updL (gMs_at X) 2 (lN k))))) (if f_X8_middle (f_X8_endIt (sMs_at X (vp_updL (gMs_at X) 2 (lN k)))) < f_X8_middle S then (-6) else nI k) (k + 1) := by
  have h6 : ¬ (0 : Int32) ≤ -6 := by decide
  rw [L_X8_fair_s]
  generalize L_X8_fair S m = F
  rw [if_neg (c := 100 < k) (by omega), if_neg h6]
theorem fair_stop8 (S X : zMs) (m k j : Nat) (h : 0 ≤ nI j) : L_X8_fair S (m + 1) X (nI j) k = (X, nI j, k) := by
  rw [L_X8_fair_s]
  generalize L_X8_fair S m = F
  by_cases c9 : 100 < k
  · rw [if_pos c9]
  · rw [if_neg c9, if_pos h]
theorem fair_step7 (T : zTr) (R : Int64) (Xd : zDd) (U : zTr) (m k : Nat) (hk : k ≤ 100) : L_X7_fair T R (m + 1) Xd U k = (if f_X6_middle (f_X0_run Xd (sTr_st (f_X6_become U T) (upd (gTr_st (f_X6_become U T)) 2 (nI k)))).2.2 < R then L_X7_fair T R m (f_X0_run Xd (sTr_st (f_X6_become U T) (upd (gTr_st (f_X6_become U T)) 2 (nI k)))).2.1 (f_X0_run Xd (sTr_st (f_X6_become U T) (upd (gTr_st (f_X6_become U T)) 2 (nI k)))).2.2 (k + 1) else (true, nI k, (f_X0_run Xd (sTr_st (f_X6_become U T) (upd (gTr_st (f_X6_become U T)) 2 (nI k)))).2.1, (f_X0_run Xd (sTr_st (f_X6_become U T) (upd (gTr_st (f_X6_become U T)) 2 (nI k)))).2.2, k)) := by
  rw [L_X7_fair_s]
  generalize L_X7_fair T R m = F
  rw [if_neg (c := 100 < k) (by omega)]
theorem fair_loop {T : zTr} {S : zMs} {D : Int} (hD : D ≤ 1000000000) (hT : gX D T (gMs_at S)) : ∀ (m k : Nat) (Xd : zDd) (U : zTr) (X : zMs), k + m = 101 → (∀ i, i < 183 → gMs_at X i = gMs_at S i) → (∀ i, i < 183 → gMs_as X i = gMs_at S i) →
    (if (L_X7_fair T (f_X6_middle T) (m + 1) Xd U k).1 = true then (L_X7_fair T (f_X6_middle T) (m + 1) Xd U k).2.1 else (-6)) = (L_X8_fair S (m + 1) X (-6) k).2.1 ∧ sR X (L_X8_fair S (m + 1) X (-6) k).1 ∧ (∀ i, i < 183 → gMs_at (L_X8_fair S (m + 1) X (-6) k).1 i = gMs_at S i)
  | 0, k, Xd, U, X, hk, h1, h2 => by
    have hk1 : k = 101 := by omega
    subst hk1
    have e8 : L_X8_fair S (0 + 1) X (-6) 101 = (X, (-6), 101) := by rw [L_X8_fair_s, if_pos (c := 100 < 101) (by omega)]
    have e7 : L_X7_fair T (f_X6_middle T) (0 + 1) Xd U 101 = (false, 0, Xd, U, 101) := by rw [L_X7_fair_s, if_pos (c := 100 < 101) (by omega)]
    rw [e8, e7]
    exact ⟨rfl, sR_r X, h1⟩
  | m + 1, k, Xd, U, X, hk, h1, h2 => by
    have hm : f_X8_middle S = f_X6_middle T := middle_eq hT.1.1 hT.2.1.1.2.2.2.2
    have g0 : gX D (f_X6_become U T) (gMs_at X) := gX_ext (gX_TE (become_TE U T) hT) h1
    have g1 : gX D (sTr_st (f_X6_become U T) (upd (gTr_st (f_X6_become U T)) 2 (nI k))) (gMs_at (sMs_at X (vp_updL (gMs_at X) 2 (lN k)))) := gX_set (by omega) g0
    obtain ⟨g2, g3, g4⟩ := gX_run Xd g1 (by omega)
    have hm2 := middle_eq g2.1.1 g2.2.1.1.2.2.2.2
    have g4' : sR X (f_X8_endIt (sMs_at X (vp_updL (gMs_at X) 2 (lN k)))) := sR_t (sR_f (sm := gMs_sh X) (A := vp_updL (gMs_at X) 2 (lN k)) rfl) g4
    have hk1 : k ≤ 100 := by omega
    rw [fair_step8 S X (m + 1) k hk1, fair_step7 T _ Xd U (m + 1) k hk1, hm2, hm]
    generalize f_X0_run Xd (sTr_st (f_X6_become U T) (upd (gTr_st (f_X6_become U T)) 2 (nI k))) = r at g2 ⊢
    generalize hY : f_X8_endIt (sMs_at X (vp_updL (gMs_at X) 2 (lN k))) = Y at g2 g4' ⊢
    have b1 : ∀ i, i < 183 → gMs_at (f_X8_layBack Y) i = gMs_at S i := fun i hi => by rw [back_at _ i hi, g4'.1, h2 i hi]
    have b2 : ∀ i, i < 183 → gMs_as (f_X8_layBack Y) i = gMs_at S i := fun i hi => by
      show gMs_as Y i = _
      rw [g4'.1, h2 i hi]
    have b3 : sR X (f_X8_layBack Y) := by
      obtain ⟨k1, k2, k3, k4, k5, k6, k7, k8⟩ := g4'
      exact ⟨k1, k2, k3, k4, k5, k6, k7, k8⟩
    by_cases c : f_X6_middle r.2.2 < f_X6_middle T
    · rw [if_pos c, if_pos c]
      obtain ⟨q1, q2, q3⟩ := fair_loop hD hT m (k + 1) r.2.1 r.2.2 (f_X8_layBack Y) (by omega) b1 b2
      exact ⟨q1, sR_t b3 q2, q3⟩
    · rw [if_neg c, if_neg c]
      have hn : 0 ≤ nI k := by
        rw [i32_le_iff, nI_int (by omega)]
        have z0 : (0 : Int32).toInt = 0 := rfl
        omega
      rw [fair_stop8 S _ m _ k hn]
      exact ⟨rfl, b3, b1⟩
section trials2
variable {c : Nat} {T : zTr} {z : zPd} {y : zHs} {s : zSl} {S : zMs}
theorem fairSwing_FR (hc : c ≤ 512) (h : FR c T z y s S) (u : zTr) (x : zDd) : (f_X7_fairSwing T u x).1 = (f_X8_fairSwing S).1 ∧ FR (c + 1) T z y s (f_X8_fairSwing S).2 := by
  unfold f_X7_fairSwing f_X8_fairSwing
  rw [zsl_e, zsl_e]
  dsimp only
  obtain ⟨q1, q2, q3⟩ := fair_loop (D := 100 * (c : Int)) (by omega) (gX_FR hc h) 101 0 x u (f_X8_layAside S) rfl (fun i hi => rfl) (fun i hi => aside_at S i hi)
  rw [show 101 - 0 + 1 = 101 + 1 from rfl]
  generalize L_X7_fair T (f_X6_middle T) (101 + 1) x u 0 = r7 at q1 ⊢
  generalize L_X8_fair S (101 + 1) (f_X8_layAside S) (-6) 0 = r8 at q1 q2 q3 ⊢
  refine ⟨?_, ?_⟩
  · have e1 : (if r7.1 = true then (r7.2.1, r7.2.2.2.1, r7.2.2.1) else ((-6), r7.2.2.2.1, r7.2.2.1)).1 = if r7.1 = true then r7.2.1 else (-6) := by split <;> rfl
    rw [e1, q1]
  · obtain ⟨k1, k2, k3, k4, k5, k6, k7, k8⟩ := q2
    exact FR_back h q3 k2 k3 k4 k5 k6 k7 k8
theorem fair_P7 (hc : c ≤ 512) (h : FR c T z y s S) (U : zTr) {k : Nat} (hk : k ≤ 100) : okT (sTr_st (f_X6_become U T) (upd (gTr_st (f_X6_become U T)) 2 (nI k))) := Inv_ok (gX_set hk (gX_TE (become_TE U T) (gX_FR hc h))).2.1
theorem fair_P8 (hc : c ≤ 512) (h : FR c T z y s S) : ∃ P : zMs → Prop, P (f_X8_layAside S) ∧ ∀ X (sw : Nat), sw ≤ 100 → P X → ok_endIt (sMs_at X (vp_updL (gMs_at X) 2 (lN sw))) ∧ P (f_X8_layBack (f_X8_endIt (sMs_at X (vp_updL (gMs_at X) 2 (lN sw))))) := by
  refine ⟨fun X => (∀ i, i < 183 → gMs_at X i = gMs_at S i) ∧ (∀ i, i < 183 → gMs_as X i = gMs_at S i), ⟨fun i hi => rfl, fun i hi => aside_at S i hi⟩, fun X k hk ⟨h1, h2⟩ => ?_⟩
  have g0 : gX (100 * (c : Int)) T (gMs_at X) := gX_ext (gX_FR hc h) h1
  have g1 : gX (100 * (c : Int)) (sTr_st T (upd (gTr_st T) 2 (nI k))) (gMs_at (sMs_at X (vp_updL (gMs_at X) 2 (lN k)))) := gX_set hk g0
  obtain ⟨g2, g3, g4⟩ := gX_run ((0, 0, 0, 0, 0, 0, fun _ => 0) : zDd) g1 (by omega)
  have g4' := sR_t (sR_f (sm := gMs_sh X) (A := vp_updL (gMs_at X) 2 (lN k)) rfl) g4
  refine ⟨g3, fun i hi => ?_, fun i hi => ?_⟩
  · rw [back_at _ i hi, g4'.1, h2 i hi]
  · show gMs_as (f_X8_endIt _) i = _
    rw [g4'.1, h2 i hi]
end trials2
