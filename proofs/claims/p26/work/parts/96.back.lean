/-! undo, save, restore -/
theorem L_undo_at (S : zMs) : ∀ (m k : Nat) (A : Nat → Int64), k + m = 183 → ∀ i, (L_X8_undo S (m + 1) A k).1 i = if k ≤ i ∧ i < 183 then gMs_past S (183 * ((gMs_pf S + (gMs_pm S - 1)) % 6) + i) else A i
  | 0, k, A, hk, i => by
    have e : L_X8_undo S (0 + 1) A k = (A, k) := by rw [L_X8_undo_s, if_pos (by omega)]
    rw [e, if_neg (by omega)]
  | m + 1, k, A, hk, i => by
    have e : L_X8_undo S (m + 1 + 1) A k = L_X8_undo S (m + 1) (vp_updL A k (gMs_past S ((183 * ((gMs_pf S + (gMs_pm S - 1)) % 6)) + k))) (k + 1) := by rw [L_X8_undo_s, if_neg (by omega)]
    rw [e, L_undo_at S m (k + 1) _ (by omega) i, vp_updL_at]
    by_cases c1 : i = k
    · subst c1; rw [if_neg (by omega), if_pos rfl, if_pos (by omega)]
    · rw [if_neg c1]
      by_cases c2 : k + 1 ≤ i ∧ i < 183
      · rw [if_pos c2, if_pos (by omega)]
      · rw [if_neg c2, if_neg (by omega)]
theorem L_save_at (S : zMs) (sl : Int32) : ∀ (m k : Nat) (A : Nat → Int64), k + m = 183 → ∀ i, (L_X8_save S sl (m + 1) A k).1 i = if 183 * sl.toNatClampNeg + k ≤ i ∧ i < 183 * sl.toNatClampNeg + 183 then gMs_at S (i - 183 * sl.toNatClampNeg) else A i
  | 0, k, A, hk, i => by
    have e : L_X8_save S sl (0 + 1) A k = (A, k) := by rw [L_X8_save_s, if_pos (by omega)]
    rw [e, if_neg (by omega)]
  | m + 1, k, A, hk, i => by
    have e : L_X8_save S sl (m + 1 + 1) A k = L_X8_save S sl (m + 1) (vp_updL A (183 * sl.toNatClampNeg + k) ((gMs_at S) k)) (k + 1) := by rw [L_X8_save_s, if_neg (by omega)]
    rw [e, L_save_at S sl m (k + 1) _ (by omega) i, vp_updL_at]
    by_cases c1 : i = 183 * sl.toNatClampNeg + k
    · subst c1
      rw [if_neg (by omega), if_pos rfl, if_pos (by omega)]
      exact congrArg (gMs_at S) (by omega)
    · rw [if_neg c1]
      by_cases c2 : 183 * sl.toNatClampNeg + (k + 1) ≤ i ∧ i < 183 * sl.toNatClampNeg + 183
      · rw [if_pos c2, if_pos (by omega)]
      · rw [if_neg c2, if_neg (by omega)]
theorem L_restore_at (S : zMs) (sl : Int32) : ∀ (m k : Nat) (A : Nat → Int64), k + m = 183 → ∀ i, (L_X8_restore S sl (m + 1) A k).1 i = if k ≤ i ∧ i < 183 then gMs_sl S (183 * sl.toNatClampNeg + i) else A i
  | 0, k, A, hk, i => by
    have e : L_X8_restore S sl (0 + 1) A k = (A, k) := by rw [L_X8_restore_s, if_pos (by omega)]
    rw [e, if_neg (by omega)]
  | m + 1, k, A, hk, i => by
    have e : L_X8_restore S sl (m + 1 + 1) A k = L_X8_restore S sl (m + 1) (vp_updL A k (gMs_sl S (183 * sl.toNatClampNeg + k))) (k + 1) := by rw [L_X8_restore_s, if_neg (by omega)]; rfl
    rw [e, L_restore_at S sl m (k + 1) _ (by omega) i, vp_updL_at]
    by_cases c1 : i = k
    · subst c1; rw [if_neg (by omega), if_pos rfl, if_pos (by omega)]
    · rw [if_neg c1]
      by_cases c2 : k + 1 ≤ i ∧ i < 183
      · rw [if_pos c2, if_pos (by omega)]
      · rw [if_neg c2, if_neg (by omega)]
section backs
variable {c : Nat} {T T' : zTr} {z : zPd} {y : zHs} {s : zSl} {S : zMs}
theorem FR_yes {A sm : Nat → Int64} {r : Int32} (h : FR c T z y s S) (hr : ¬ r < 0) (hT : gT (bP (c + 1) (gPd_n z)) (100 * ((c + 1 : Nat) : Int)) T' A) : FR (c + 1) T' z (hist2 y T r) s (sMs_sh (sMs_at (f_X8_keep S) A) sm) := by
  obtain ⟨h1, h2, h3, h4⟩ := h
  have e := bP_step c (gPd_n z)
  exact ⟨hT, HR_mono (by omega) (by omega) (HR_S rfl rfl rfl (HR_yes h2 h1 hr)), SR_mono (by omega) (by omega) (SR_S rfl rfl h3), PR_S rfl rfl h4⟩
theorem undo_FR (h : FR c T z y s S) : (f_X7_undo T y).1 = (f_X8_undo S).1 ∧ FR (c + 1) (f_X7_undo T y).2.1 z (f_X7_undo T y).2.2 s (f_X8_undo S).2 := by
  have hs := FR_same h
  obtain ⟨g1, g2, g3, g4⟩ := h
  obtain ⟨p1, p2, p3, p4, p5, p6⟩ := g2
  have eb := bP_step c (gPd_n z)
  unfold f_X7_undo f_X8_undo
  by_cases c0 : gHs_count y = 0
  · rw [if_pos c0, if_pos (p3.trans c0)]
    exact ⟨rfl, hs⟩
  rw [if_neg c0, if_neg (fun q => c0 (p3.symm.trans q))]
  dsimp only
  have e1 : f_X1_takeBack y T = (sHs_count y (gHs_count y - 1), f_X6_become T (gHs_st y ((gHs_first y + (gHs_count y - 1)) % 7))) := by
    unfold f_X1_takeBack
    dsimp only
    rw [if_neg c0, if_neg c0]
  rw [e1]
  refine ⟨?_, gT_mono (by omega) (by omega) (gT_TE (become_TE _ _) (gT_ext (p6 (gHs_count y - 1) (by omega)) (fun k hk => ?_))), HR_mono (b := bP c (gPd_n z)) (D := 100 * (c : Int)) (by omega) (by omega) ⟨p1, by show gHs_count y - 1 ≤ 6; omega, by show gMs_pm S - 1 = gHs_count y - 1; omega, p4, p5, fun i hi => ?_⟩, SR_mono (by omega) (by omega) (SR_S rfl rfl g3), PR_S rfl rfl g4⟩
  · show nI (gHs_count y - 1) = nI (gMs_pm S - 1)
    rw [p3]
  · show (L_X8_undo S (183 - 0 + 1) (gMs_at S) 0).1 k = _
    rw [show 183 - 0 + 1 = 183 + 1 from rfl, L_undo_at S 183 0 _ rfl k, if_pos (by omega), p3]
  · have hi2 : i < gHs_count y - 1 := hi
    exact p6 i (by omega)
theorem slot_row {so : Int32} (c1 : ¬ so < 0) (c2 : so < nI 2) : ∃ j, j < 2 ∧ so = nI j := by
  rw [sw_0] at c1
  rw [sw_lt (by decide)] at c2
  exact sw_of (by decide) ⟨by omega, c2⟩
theorem slot_in (so : Int32) : f_X8_in so.toInt64 0 1 = false ↔ (so < 0 ∨ ¬ so < nI 2) := by
  rw [in_false, i32_l, sw_0, sw_lt (by decide)]
  have z0 : (0 : Int64).toInt = 0 := rfl
  have z1 : (1 : Int64).toInt = 1 := rfl
  rw [z0, z1]
  omega
theorem save_FR (h : FR c T z y s S) (so : Int32) : (f_X7_save T s so).1 = (f_X8_save S so).1 ∧ FR (c + 1) T z y (f_X7_save T s so).2 (f_X8_save S so).2 := by
  have hs := FR_same h
  unfold f_X7_save f_X8_save
  by_cases c1 : so < 0
  · rw [if_pos c1, if_pos ((slot_in so).mpr (Or.inl c1))]
    exact ⟨rfl, hs⟩
  rw [if_neg c1]
  by_cases c2 : so < nI 2
  · rw [if_pos c2, if_neg (fun q => ((slot_in so).mp q).elim (fun a => c1 a) (fun a => a c2))]
    obtain ⟨j, hj, rfl⟩ := slot_row c1 c2
    have cl : (nI j).toNatClampNeg = j := nI_clamp (by omega)
    dsimp only
    have hA : ∀ i, (L_X8_save S (nI j) (183 - 0 + 1) (gMs_sl S) 0).1 i = if 183 * j ≤ i ∧ i < 183 * j + 183 then gMs_at S (i - 183 * j) else gMs_sl S i := fun i => by
      rw [show 183 - 0 + 1 = 183 + 1 from rfl, L_save_at S (nI j) 183 0 _ rfl i, cl]
      rfl
    rw [cl]
    generalize (L_X8_save S (nI j) (183 - 0 + 1) (gMs_sl S) 0).1 = A1 at hA ⊢
    obtain ⟨g1, g2, g3, g4⟩ := hs
    refine ⟨?_, g1, HR_S rfl rfl rfl g2, fun i hi => ?_, PR_S rfl rfl g4⟩
    · show gTr_day T = (gMs_at S 10).toInt32
      rw [g1.1.1.2.2.2.2.2.2.1, i_l_i]
    · show upd (gSl_sv s) j (nI 1) i = upd (gMs_sv S) j (nI 1) i ∧ oN (zup (gSl_st s) j (f_X6_become (gSl_st s j) T) i) ∧ (¬ upd (gSl_sv s) j (nI 1) i = 0 → gT _ _ (zup (gSl_st s) j (f_X6_become (gSl_st s j) T) i) (fun k => A1 (183 * i + k)))
      obtain ⟨k1, k2, k3⟩ := g3 i hi
      rw [upd_at, upd_at, zup_at]
      by_cases ci : i = j
      · subst ci
        rw [if_pos rfl, if_pos rfl, if_pos rfl]
        refine ⟨rfl, TE_oN (become_TE _ _) (gT_n g1), fun _ => gT_TE (become_TE _ _) (gT_ext g1 (fun k hk => ?_))⟩
        show A1 (183 * i + k) = _
        rw [hA, if_pos (by omega)]
        exact congrArg (gMs_at S) (by omega)
      · rw [if_neg ci, if_neg ci, if_neg ci]
        refine ⟨k1, k2, fun q => gT_ext (k3 q) (fun k hk => ?_)⟩
        show A1 (183 * i + k) = _
        rw [hA, if_neg (by omega)]
  · rw [if_neg c2, if_pos ((slot_in so).mpr (Or.inr c2))]
    exact ⟨rfl, hs⟩
theorem restore_FR (h : FR c T z y s S) (so : Int32) : (f_X7_restore T y s so).1 = (f_X8_restore S so).1 ∧ FR (c + 1) (f_X7_restore T y s so).2.1 z (f_X7_restore T y s so).2.2 s (f_X8_restore S so).2 := by
  have hs := FR_same h
  unfold f_X7_restore f_X8_restore
  by_cases c1 : so < 0
  · rw [if_pos c1, if_pos ((slot_in so).mpr (Or.inl c1))]
    exact ⟨rfl, hs⟩
  rw [if_neg c1]
  by_cases c2 : so < nI 2
  · rw [if_pos c2, if_neg (c := f_X8_in so.toInt64 0 1 = false) (fun q => ((slot_in so).mp q).elim (fun a => c1 a) (fun a => a c2))]
    obtain ⟨j, hj, rfl⟩ := slot_row c1 c2
    have cl : (nI j).toNatClampNeg = j := nI_clamp (by omega)
    obtain ⟨k1, k2, k3⟩ := h.2.2.1 j hj
    dsimp only
    rw [cl]
    by_cases c3 : gSl_sv s j = 0
    · rw [if_pos c3, if_pos (k1.symm.trans c3)]
      exact ⟨rfl, hs⟩
    rw [if_neg c3, if_neg (fun q => c3 (k1.trans q))]
    have hA : ∀ i, i < 183 → (L_X8_restore S (nI j) (183 - 0 + 1) (gMs_at (f_X8_keep S)) 0).1 i = gMs_sl S (183 * j + i) := fun i hi => by
      rw [show 183 - 0 + 1 = 183 + 1 from rfl, L_restore_at S (nI j) 183 0 _ rfl i, cl, if_pos (by omega)]
    generalize (L_X8_restore S (nI j) (183 - 0 + 1) (gMs_at (f_X8_keep S)) 0).1 = A1 at hA ⊢
    have e := bP_step c (gPd_n z)
    have hT := gT_mono (b' := bP (c + 1) (gPd_n z)) (D' := 100 * ((c + 1 : Nat) : Int)) (by omega) (by omega) (gT_TE (become_TE T (gSl_st s j)) (gT_ext (k3 c3) hA))
    have hd := hT.2.1.2.2.2.2.1.1
    have hr : ¬ gTr_day (f_X6_become T (gSl_st s j)) < 0 := by rw [sw_0]; omega
    rw [keep_1]
    refine ⟨?_, FR_yes (sm := gMs_sh (f_X8_keep S)) h hr hT⟩
    show gTr_day (f_X6_become T (gSl_st s j)) = (A1 10).toInt32
    rw [hT.1.1.2.2.2.2.2.2.1, i_l_i]
  · rw [if_neg c2, if_pos ((slot_in so).mpr (Or.inr c2))]
    exact ⟨rfl, hs⟩
end backs
