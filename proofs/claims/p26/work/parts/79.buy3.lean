theorem buy_loop {S S0 : zMs} {T0 T1 : zTr} {x : zDd} {sm : Nat → Int64} {day : Int32} (hc : ctxB T0 T1 x day) (hp : f_X8_priceNow S = gDd_price x) (hi : f_X8_incomeOfUnit S = gDd_ui x) : ∀ (m k f : Nat) (T : zTr) (X : zMs), k + m = f_X4_dueOn (gTr_bu T0) day → gOd_n (gTr_bu T0) - k < f → BS S0 T0 T1 x sm T k X →
    BS S0 T0 T1 x sm (L_X0_buy x (f_X4_dueOn (gTr_bu T0) day) (m + 1) T k).1 (f_X4_dueOn (gTr_bu T0) day) (L_X8_buys S f X) := by
  have hd : f_X4_dueOn (gTr_bu T0) day ≤ gOd_n (gTr_bu T0) := xdue_le
  have hn20 := hc.2.2.2.1.1
  intro m
  induction m with
  | zero =>
    intro k f T X hk hf h
    have hke : k = f_X4_dueOn (gTr_bu T0) day := by omega
    obtain ⟨f, rfl⟩ : ∃ n, f = n + 1 := ⟨f - 1, by omega⟩
    have hzn : zcn X 61 = gOd_n (gTr_bu T0) - k := by unfold zcn; rw [h.1.2.2.2.2.1, lN_int (by omega)]; rfl
    rw [L_X0_buy_s, if_pos (by omega), L_X8_buys_s]
    have e : (if zcn X 61 = 0 then X else if gMs_at X 10 < f_X8_ofOrder X 61 0 2 then X else L_X8_buys S f (f_X8_takeOut (f_X8_buyFor X (zhb X) (f_X8_ofOrder X 61 0 1) (f_X8_priceNow S) (f_X8_incomeOfUnit S)) 61 0)) = X := by
      by_cases c : zcn X 61 = 0
      · rw [if_pos c]
      · rw [if_neg c]
        obtain ⟨-, g1, g2, -⟩ := BS_step hc h (by omega)
        rw [if_pos]
        rw [g1, g2, i32_l_lt, hke]
        exact (due_spec (gTr_bu T0) day).2 (by omega)
    rw [e, ← hke]
    exact h
  | succ m ih =>
    intro k f T X hk hf h
    obtain ⟨f, rfl⟩ : ∃ n, f = n + 1 := ⟨f - 1, by omega⟩
    have hzn : zcn X 61 = gOd_n (gTr_bu T0) - k := by unfold zcn; rw [h.1.2.2.2.2.1, lN_int (by omega)]; rfl
    obtain ⟨g0, g1, g2, -⟩ := BS_step hc h (show k < gOd_n (gTr_bu T0) by omega)
    have c2 : ¬ gMs_at X 10 < f_X8_ofOrder X 61 0 2 := by
      rw [g1, g2, i32_l_lt]
      exact Int32.not_lt.mpr ((due_spec (gTr_bu T0) day).1 k (by omega))
    have c1 : ¬ zcn X 61 = 0 := by omega
    have c3 : ¬ f_X4_dueOn (gTr_bu T0) day ≤ k := by omega
    rw [L_X0_buy_s, if_neg c3, L_X8_buys_s, if_neg c1, if_neg c2, hp, hi]
    exact ih (k + 1) f _ _ (by omega) (by omega) g0
theorem BS_okp {S0 : zMs} {T0 T1 : zTr} {x : zDd} {sm : Nat → Int64} {T : zTr} {k : Nat} {X : zMs} {day : Int32} (hc : ctxB T0 T1 x day) (h : BS S0 T0 T1 x sm T k X) : okp_buy X := by
  have hn20 := hc.2.2.2.1.1
  have hzn : zcn X 61 = gOd_n (gTr_bu T0) - k := by unfold zcn; rw [h.1.2.2.2.2.1, lN_int (by omega)]; rfl
  refine ⟨⟨by rw [hzn]; exact h.1.2.2.2.2.1, by omega⟩, fun h0 _ => ?_⟩
  obtain ⟨-, -, -, g3⟩ := BS_step hc h (show k < gOd_n (gTr_bu T0) by omega)
  exact g3
theorem BS_one {S S0 : zMs} {T0 T1 : zTr} {x : zDd} {sm : Nat → Int64} {T : zTr} {k : Nat} {X : zMs} {day : Int32} (hc : ctxB T0 T1 x day) (hp : f_X8_priceNow S = gDd_price x) (hi : f_X8_incomeOfUnit S = gDd_ui x) (h : BS S0 T0 T1 x sm T k X) : ∃ T' k', BS S0 T0 T1 x sm T' k' (L_X8_buys S (0 + 1) X) := by
  have hn20 := hc.2.2.2.1.1
  have hzn : zcn X 61 = gOd_n (gTr_bu T0) - k := by unfold zcn; rw [h.1.2.2.2.2.1, lN_int (by omega)]; rfl
  rw [L_X8_buys_s]
  by_cases c : zcn X 61 = 0
  · rw [if_pos c]; exact ⟨T, k, h⟩
  · rw [if_neg c]
    by_cases c2 : gMs_at X 10 < f_X8_ofOrder X 61 0 2
    · rw [if_pos c2]; exact ⟨T, k, h⟩
    · rw [if_neg c2, hp, hi]
      obtain ⟨g0, -⟩ := BS_step hc h (show k < gOd_n (gTr_bu T0) by omega)
      exact ⟨_, _, g0⟩
/-- behind the buying: the done orders are dropped -/
theorem drop_buys {T0 T1 T : zTr} {k : Nat} (hO : iO 1000000 (gTr_bu T0)) (h : iW T0 T1 T k) (hk : k ≤ gOd_n (gTr_bu T0)) : oL (f_X4_dropEmpty (gTr_bu T)) = (oL (gTr_bu T0)).drop k := by
  obtain ⟨⟨-, -, -, -, -, e6, e7, e8⟩, -, -, -, -, hz⟩ := h
  rw [drop_oL]
  have hsplit := List.take_append_drop k (oL (gTr_bu T))
  rw [← hsplit, List.filter_append]
  have h1 : ((oL (gTr_bu T)).take k).filter pO = [] := by
    rw [List.filter_eq_nil_iff]
    intro t ht hp
    obtain ⟨i, hi, e⟩ := List.mem_iff_getElem.mp ht
    rw [List.length_take, oL_len] at hi
    rw [List.getElem_take, oL_get] at e
    have := pO_iff.mp hp
    rw [← e] at this
    have h2 : gOd_sz (gTr_bu T) i = 0 := (hz i (by omega)).2 (by omega)
    have h3 : (trO (gTr_bu T) i).2.1 = gOd_sz (gTr_bu T) i := rfl
    rw [h3, h2] at this
    exact absurd this (by decide)
  have h2 : (oL (gTr_bu T)).drop k = (oL (gTr_bu T0)).drop k := by
    apply List.ext_getElem?
    intro i
    rw [List.getElem?_drop, List.getElem?_drop]
    unfold oL
    rw [List.getElem?_map, List.getElem?_map, e6]
    by_cases c : k + i < gOd_n (gTr_bu T0)
    · rw [List.getElem?_range c]
      show some _ = some _
      congr 1
      show (_, _, _) = (_, _, _)
      rw [e7, e8, (hz (k + i) c).1 (by omega)]
    · rw [List.getElem?_eq_none (by rw [List.length_range]; omega)]
      rfl
  rw [h1, List.nil_append, h2]
  refine List.filter_eq_self.mpr (fun t ht => ?_)
  obtain ⟨i, hi, e⟩ := oL_mem.mp (List.mem_of_mem_drop ht)
  rw [pO_iff, ← e]
  have := (hO.2.1 i hi).2.1
  show 0 < (gOd_sz (gTr_bu T0) i).toInt
  omega
theorem okL_drop {mx : Int} {l : List (Int32 × Int32 × Int32)} (h : okL mx l) (k : Nat) : okL mx (l.drop k) :=
  ⟨by rw [List.length_drop]; have := h.1; omega, fun t ht => h.2.1 t (List.mem_of_mem_drop ht), h.2.2.drop⟩
theorem lT_drop {o : zOd} : ∀ k, k ≤ gOd_n o → lT ((oL o).drop k) = pS o k := by
  intro k hk
  obtain ⟨m, hm⟩ : ∃ m, k + m = gOd_n o := ⟨gOd_n o - k, by omega⟩
  induction m generalizing k with
  | zero =>
    rw [List.drop_of_length_le (by rw [oL_len]; omega)]
    unfold pS sS
    rw [show gOd_n o - k = 0 by omega]
    rfl
  | succ m ih =>
    rw [pS_step (by omega), ← ih (k + 1) (by omega) (by omega), List.drop_eq_getElem_cons (by rw [oL_len]; omega), oL_get]
    rfl
theorem pS_oL {o : zOd} : pS o 0 = lT (oL o) := by
  rw [← lT_drop 0 (Nat.zero_le _), List.drop_zero]
