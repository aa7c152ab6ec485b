/-! what the trials of both sides answer -/
/-- what a trial leaves as it was -/
def sR (S X : zMs) : Prop := gMs_as X = gMs_as S ∧ gMs_pm X = gMs_pm S ∧ gMs_pf X = gMs_pf S ∧ gMs_past X = gMs_past S ∧ gMs_sl X = gMs_sl S ∧ gMs_sv X = gMs_sv S ∧ gMs_pd X = gMs_pd S ∧ gMs_pdm X = gMs_pdm S
theorem sR_r (S : zMs) : sR S S := ⟨rfl, rfl, rfl, rfl, rfl, rfl, rfl, rfl⟩
theorem sR_t {S X Y : zMs} (h : sR S X) (k : sR X Y) : sR S Y := by
  obtain ⟨h1, h2, h3, h4, h5, h6, h7, h8⟩ := h
  obtain ⟨k1, k2, k3, k4, k5, k6, k7, k8⟩ := k
  exact ⟨k1.trans h1, k2.trans h2, k3.trans h3, k4.trans h4, k5.trans h5, k6.trans h6, k7.trans h7, k8.trans h8⟩
theorem sR_f {S X : zMs} {A sm : Nat → Int64} (h : X = sMs_sh (sMs_at S A) sm) : sR S X := by
  rw [h]; exact ⟨rfl, rfl, rfl, rfl, rfl, rfl, rfl, rfl⟩
theorem FR_back {c : Nat} {T : zTr} {z : zPd} {y : zHs} {s : zSl} {S S' : zMs} (h : FR c T z y s S) (e : ∀ i, i < 183 → gMs_at S' i = gMs_at S i) (e1 : gMs_pm S' = gMs_pm S) (e2 : gMs_pf S' = gMs_pf S) (e3 : gMs_past S' = gMs_past S) (e4 : gMs_sl S' = gMs_sl S) (e5 : gMs_sv S' = gMs_sv S) (e6 : gMs_pd S' = gMs_pd S) (e7 : gMs_pdm S' = gMs_pdm S) : FR (c + 1) T z y s S' := by
  obtain ⟨h1, h2, h3, h4⟩ := FR_same h
  exact ⟨gT_ext h1 e, HR_S e1 e2 e3 h2, SR_S e5 e4 h3, PR_S e7 e6 h4⟩
/-- a trust at trial on both sides -/
def gX (D : Int) (U : zTr) (A : Nat → Int64) : Prop := RTr U A ∧ Inv D U ∧ gP 50000 U ≤ 10300000000
theorem gX_run {D : Int} {U : zTr} {S : zMs} (x : zDd) (h : gX D U (gMs_at S)) (hD : D ≤ 2000000000) : gX (D + 1) (f_X0_run x U).2.2 (gMs_at (f_X8_endIt S)) ∧ ok_endIt S ∧ sR S (f_X8_endIt S) := by
  obtain ⟨h1, h2, h3⟩ := h
  obtain ⟨x', T', sm, e1, e2, e3, e4, e5, e6, e7, e8⟩ := run_ok x h2 hD (by omega) h1
  rw [e1]
  have hq := h2.1.2.2.1
  have := e5 50000 (by omega)
  exact ⟨⟨e3, e4, by show gP 50000 T' ≤ _; omega⟩, e8, sR_f e7⟩
theorem gX_FR {c : Nat} {T : zTr} {z : zPd} {y : zHs} {s : zSl} {S : zMs} (hc : c ≤ 512) (h : FR c T z y s S) : gX (100 * (c : Int)) T (gMs_at S) := ⟨h.1.1, h.1.2.1, FR_g h hc⟩
theorem gX_TE {D : Int} {t u : zTr} {A : Nat → Int64} (e : TE t u) (h : gX D u A) : gX D t A := ⟨TE_RTr e h.1, TE_Inv e h.2.1, by rw [TE_gP e]; exact h.2.2⟩
theorem gX_ext {D : Int} {t : zTr} {A B : Nat → Int64} (h : gX D t A) (e : ∀ i, i < 183 → B i = A i) : gX D t B := ⟨RTr_ext h.2.1 h.1 e, h.2⟩
theorem aside_at (S : zMs) (i : Nat) (hi : i < 183) : gMs_as (f_X8_layAside S) i = gMs_at S i := by
  show va_cpy (gMs_at S) (gMs_as S) 0 0 183 i = _
  rw [zcpy_in _ _ (by omega)]
  exact congrArg (gMs_at S) (by omega)
theorem back_at (X : zMs) (i : Nat) (hi : i < 183) : gMs_at (f_X8_layBack X) i = gMs_as X i := by
  show va_cpy (gMs_as X) (gMs_at X) 0 0 183 i = _
  rw [zcpy_in _ _ (by omega)]
  exact congrArg (gMs_as X) (by omega)
/-! how many days until none of a holder's units wait -/
theorem sumOf_nn {D : Int} {U : zTr} (hI : Inv D U) (j : Nat) : 0 ≤ (f_X4_sumOf (gTr_le U) (nI j)).toInt := by
  rw [sumOf_int hI.2.2.1.1]
  refine isum_nn _ (fun i hi => ?_)
  have := (hI.2.2.1.2.1 i hi).2.1
  split <;> omega
theorem exit_loop {j : Nat} (hj : j < 6) (R : Bool) (T0 : zTr) {D : Int} (hD : D ≤ 1000000000) : ∀ (m k : Nat) (Xd : zDd) (U : zTr) (X : zMs), k + m = 60 → gX (D + (k : Int)) U (gMs_at X) →
    (if (L_X7_exit (nI j) R T0 (m + 2) Xd U k).1 = true then (L_X7_exit (nI j) R T0 (m + 2) Xd U k).2.1 else (-6)) = (if f_X8_bound (L_X8_exit (nI j) (m + 1) X k).1 j = 0 then nI (L_X8_exit (nI j) (m + 1) X k).2 else (-6)) ∧ sR X (L_X8_exit (nI j) (m + 1) X k).1
  | 0, k, Xd, U, X, hk, h => by
    have hk60 : k = 60 := by omega
    subst hk60
    have e8 : L_X8_exit (nI j) (0 + 1) X 60 = (X, 60) := by
      rw [L_X8_exit_s, if_pos (Nat.le_refl 60)]
    rw [e8]
    have hb := bound_eq h.1.2.2.1 h.2.1.2.2.1.1 hj
    refine ⟨?_, sR_r X⟩
    show _ = if f_X8_bound X j = 0 then nI 60 else (-6)
    rw [hb, L_X7_exit_s, if_neg (c := 60 < 60) (by omega)]
    dsimp only
    by_cases c : f_X4_sumOf (gTr_le U) (nI j) = 0
    · rw [if_pos c, if_pos c]
      rfl
    · rw [if_neg c, if_neg c, L_X7_exit_s, if_pos (c := 60 < 60 + 1) (by omega)]
      rfl
  | m + 1, k, Xd, U, X, hk, h => by
    have hb := bound_eq h.1.2.2.1 h.2.1.2.2.1.1 hj
    have hnn := sumOf_nn h.2.1 j
    have hcl : (nI j).toNatClampNeg = j := nI_clamp (by omega)
    rw [L_X7_exit_s, L_X8_exit_s, if_neg (c := 60 < k) (by omega), if_neg (c := 60 ≤ k) (by omega)]
    dsimp only
    rw [hcl]
    by_cases c : f_X4_sumOf (gTr_le U) (nI j) = 0
    · have c2 : f_X8_bound X j ≤ 0 := by rw [hb, c]; decide
      rw [if_pos c, if_pos c2]
      refine ⟨?_, sR_r X⟩
      show nI k = if f_X8_bound X j = 0 then nI k else (-6)
      rw [hb, if_pos c]
    · have c2 : ¬ f_X8_bound X j ≤ 0 := by
        rw [hb, i64_le_iff]
        intro q
        refine c (i64_eq_iff.mpr ?_)
        have z0 : (0 : Int64).toInt = 0 := rfl
        rw [z0] at q ⊢
        omega
      rw [if_neg c, if_neg c2]
      obtain ⟨g1, g2, g3⟩ := gX_run Xd h (by omega)
      have e : D + (k : Int) + 1 = D + ((k + 1 : Nat) : Int) := by omega
      rw [e] at g1
      obtain ⟨q1, q2⟩ := exit_loop hj R T0 hD m (k + 1) (f_X0_run Xd U).2.1 (f_X0_run Xd U).2.2 (f_X8_endIt X) (by omega) g1
      exact ⟨q1, sR_t g3 q2⟩
section trials
variable {c : Nat} {T : zTr} {z : zPd} {y : zHs} {s : zSl} {S : zMs}
theorem exitIn_FR (hc : c ≤ 512) (h : FR c T z y s S) (hr : Int32) (u : zTr) (x : zDd) : (f_X7_exitIn T u x hr).1 = (f_X8_exitIn S hr).1 ∧ FR (c + 1) T z y s (f_X8_exitIn S hr).2 := by
  unfold f_X7_exitIn f_X8_exitIn
  rw [zsl_e, zsl_e]
  dsimp only
  by_cases ch : f_X8_isHolder hr = false
  · have ch2 := ch
    rw [holder_eq] at ch2
    rw [if_pos ch, if_pos ch2]
    exact ⟨rfl, FR_same h⟩
  have ch2 := ch
  rw [holder_eq] at ch2
  rw [if_neg ch, if_neg ch2]
  have hlt := zh_lt ch
  have heq := zh_eq ch
  generalize hr.toNatClampNeg = j at hlt heq
  subst heq
  have hcl : (nI j).toNatClampNeg = j := nI_clamp (by omega)
  have hg : gX (100 * (c : Int) + ((0 : Nat) : Int)) (f_X6_become u T) (gMs_at (f_X8_layAside S)) := by
    have q := gX_TE (become_TE u T) (gX_FR hc h)
    have e : 100 * (c : Int) + ((0 : Nat) : Int) = 100 * (c : Int) := by omega
    rw [e]
    exact q
  obtain ⟨q1, q2⟩ := exit_loop hlt (f_X7_isHolder (nI j)) (f_X6_become u T) (by omega) 60 0 x (f_X6_become u T) (f_X8_layAside S) rfl hg
  rw [show 61 - 0 + 1 = 60 + 2 from rfl, show 60 - 0 + 1 = 60 + 1 from rfl]
  generalize L_X7_exit (nI j) (f_X7_isHolder (nI j)) (f_X6_become u T) (60 + 2) x (f_X6_become u T) 0 = r7 at q1 ⊢
  generalize L_X8_exit (nI j) (60 + 1) (f_X8_layAside S) 0 = r8 at q1 q2 ⊢
  refine ⟨?_, ?_⟩
  · have e1 : (if r7.1 = true then (r7.2.1, r7.2.2.2.1, r7.2.2.1) else ((-6), r7.2.2.2.1, r7.2.2.1)).1 = if r7.1 = true then r7.2.1 else (-6) := by split <;> rfl
    rw [e1, q1]
    show _ = if (if f_X8_bound r8.1 j = 0 then true else false) = false then (-6) else nI r8.2
    by_cases cb : f_X8_bound r8.1 j = 0
    · rw [if_pos cb, if_pos cb, if_neg (by decide)]
    · rw [if_neg cb, if_neg cb, if_pos rfl]
  · show FR (c + 1) T z y s (f_X8_layBack r8.1)
    obtain ⟨k1, k2, k3, k4, k5, k6, k7, k8⟩ := q2
    refine FR_back h (fun i hi => ?_) k2 k3 k4 k5 k6 k7 k8
    rw [back_at _ i hi, k1, aside_at S i hi]
theorem exitIn_P7 (hc : c ≤ 512) (h : FR c T z y s S) (u : zTr) (x : zDd) : ∃ P : zDd → zTr → Nat → Prop, P x (f_X6_become u T) 0 ∧ ∀ X U k, k ≤ 60 → P X U k → okT U ∧ P (f_X0_run X U).2.1 (f_X0_run X U).2.2 (k + 1) := by
  refine ⟨fun _ U k => ∃ X : zMs, gX (100 * (c : Int) + (k : Int)) U (gMs_at X), ⟨S, ?_⟩, fun X U k hk ⟨Y, hY⟩ => ⟨Inv_ok hY.2.1, f_X8_endIt Y, ?_⟩⟩
  · have e : 100 * (c : Int) + ((0 : Nat) : Int) = 100 * (c : Int) := by omega
    rw [e]
    exact gX_TE (become_TE u T) (gX_FR hc h)
  · have g1 := (gX_run X hY (by omega)).1
    have e : 100 * (c : Int) + (k : Int) + 1 = 100 * (c : Int) + ((k + 1 : Nat) : Int) := by omega
    rw [e] at g1
    exact g1
theorem exitIn_P8 (hc : c ≤ 512) (h : FR c T z y s S) : ∃ P : zMs → Nat → Prop, P (f_X8_layAside S) 0 ∧ ∀ X dd, dd ≤ 60 → P X dd → zCk X 122 ∧ (dd < 60 → ok_endIt X ∧ P (f_X8_endIt X) (dd + 1)) := by
  refine ⟨fun X k => ∃ U : zTr, gX (100 * (c : Int) + (k : Int)) U (gMs_at X), ⟨T, ?_⟩, fun X k hk ⟨U, hY⟩ => ⟨zCk_o hY.1.2.2.1 hY.2.1.2.2.1.1, fun _ => ?_⟩⟩
  · have e : 100 * (c : Int) + ((0 : Nat) : Int) = 100 * (c : Int) := by omega
    rw [e]
    exact gX_FR hc h
  · obtain ⟨g1, g2, g3⟩ := gX_run ((0, 0, 0, 0, 0, 0, fun _ => 0) : zDd) hY (by omega)
    have e : 100 * (c : Int) + (k : Int) + 1 = 100 * (c : Int) + ((k + 1 : Nat) : Int) := by omega
    rw [e] at g1
    exact ⟨g2, _, g1⟩
end trials
