/-! what the going and the making of units keep -/
theorem uU_zup {T T' : zTr} {h : Nat} {x : zHd} (e : gTr_hd T' = zup (gTr_hd T) h x) : (∀ j, j ≠ h → uO T' j = uO T j ∧ uN T' j = uN T j) ∧ uO T' h = (gHd_old x).toInt ∧ uN T' h = (gHd_new x).toInt := by
  refine ⟨fun j hj => ?_, ?_, ?_⟩
  · show (gHd_old (gTr_hd T' j)).toInt = _ ∧ (gHd_new (gTr_hd T' j)).toInt = _
    rw [e, zup_n _ _ hj]
    exact ⟨rfl, rfl⟩
  · show (gHd_old (gTr_hd T' h)).toInt = _
    rw [e, zup_s]
  · show (gHd_new (gTr_hd T' h)).toInt = _
    rw [e, zup_s]
theorem take_inv {T : zTr} (hH : iH T) {h : Nat} (hh : h < 6) {un am ofu : Int64} (hu : 0 ≤ un.toInt ∧ un.toInt ≤ uU T h) (hc : 0 ≤ am.toInt ∧ am.toInt ≤ (gTr_cash T).toInt) :
    iH (f_X6_takeUnits T h un am ofu) ∧ uU (f_X6_takeUnits T h un am ofu) h = uU T h - un.toInt ∧ (∀ j, j ≠ h → uU (f_X6_takeUnits T h un am ofu) j = uU T j) ∧ (gTr_cash (f_X6_takeUnits T h un am ofu)).toInt = (gTr_cash T).toInt - am.toInt ∧ 0 ≤ (gTr_pool (f_X6_takeUnits T h un am ofu)).toInt ∧ (gTr_pool (f_X6_takeUnits T h un am ofu)).toInt ≤ (gTr_cash (f_X6_takeUnits T h un am ofu)).toInt := by
  have h1 := hH.1 h hh
  have h4 : uU T h = uO T h + uN T h := rfl
  have h5 := uU_le hH hh
  have h6 := hH.2
  have hg := gOld_int (o := gHd_old (gTr_hd T h)) (m := un)
  have ho : (gHd_old (gTr_hd T h)).toInt = uO T h := rfl
  have hw : (gHd_new (gTr_hd T h)).toInt = uN T h := rfl
  rw [ho] at hg
  have hgb : 0 ≤ (gOld (gHd_old (gTr_hd T h)) un).toInt ∧ (gOld (gHd_old (gTr_hd T h)) un).toInt ≤ un.toInt ∧ un.toInt - (gOld (gHd_old (gTr_hd T h)) un).toInt ≤ uN T h ∧ (gOld (gHd_old (gTr_hd T h)) un).toInt ≤ uO T h := by
    rw [hg]; split <;> omega
  have hf : (un - gOld (gHd_old (gTr_hd T h)) un).toInt = un.toInt - (gOld (gHd_old (gTr_hd T h)) un).toInt := i64_sub rfl rfl (by omega) (by omega)
  obtain ⟨z1, z2, z3⟩ := uU_zup (T := T) (T' := f_X6_takeUnits T h un am ofu) (h := h) (x := sHd_paid (sHd_new (sHd_old (gTr_hd T h) (gHd_old (gTr_hd T h) - gOld (gHd_old (gTr_hd T h)) un)) (gHd_new (gTr_hd T h) - (un - gOld (gHd_old (gTr_hd T h)) un))) (gHd_paid (gTr_hd T h) + am)) rfl
  have o1 : uO (f_X6_takeUnits T h un am ofu) h = uO T h - (gOld (gHd_old (gTr_hd T h)) un).toInt := z2.trans (i64_sub ho rfl (by omega) (by omega))
  have n1 : uN (f_X6_takeUnits T h un am ofu) h = uN T h - (un.toInt - (gOld (gHd_old (gTr_hd T h)) un).toInt) := z3.trans (i64_sub hw hf (by omega) (by omega))
  have u1 : uU (f_X6_takeUnits T h un am ofu) h = uU T h - un.toInt := by
    show uO _ h + uN _ h = _
    rw [o1, n1]; omega
  have u2 : ∀ j, j ≠ h → uU (f_X6_takeUnits T h un am ofu) j = uU T j := fun j hj => by
    show uO _ j + uN _ j = _
    rw [(z1 j hj).1, (z1 j hj).2]; rfl
  have hcash : (gTr_cash (f_X6_takeUnits T h un am ofu)).toInt = (gTr_cash T).toInt - am.toInt := by
    have := i64_lt (a := gTr_cash T)
    exact i64_sub (a := gTr_cash T) (b := am) rfl rfl (by omega) (by omega)
  have hpool : gTr_pool (f_X6_takeUnits T h un am ofu) = (if gTr_cash (f_X6_takeUnits T h un am ofu) < (if 0 < gTr_pool T - un * ofu / 1000 then gTr_pool T - un * ofu / 1000 else 0) then gTr_cash (f_X6_takeUnits T h un am ofu) else (if 0 < gTr_pool T - un * ofu / 1000 then gTr_pool T - un * ofu / 1000 else 0)) := rfl
  have hm : 0 ≤ (if 0 < gTr_pool T - un * ofu / 1000 then gTr_pool T - un * ofu / 1000 else (0 : Int64)).toInt := by
    by_cases c : 0 < gTr_pool T - un * ofu / 1000
    · rw [if_pos c]; rw [i64_lt_iff] at c; exact Int.le_of_lt c
    · rw [if_neg c]; exact Int.le_refl _
  refine ⟨⟨fun j hj => ?_, ?_⟩, u1, u2, hcash, ?_⟩
  · by_cases e : j = h
    · subst e; rw [o1, n1]; omega
    · rw [(z1 j e).1, (z1 j e).2]; exact hH.1 j hj
  · show isum (uU _) 6 ≤ _
    rw [isum_upd (f := uU T) 6 h hh (fun j _ hj => u2 j hj), u1]
    have : uAll T = isum (uU T) 6 := rfl
    omega
  · rw [hpool]
    generalize (if 0 < gTr_pool T - un * ofu / 1000 then gTr_pool T - un * ofu / 1000 else (0 : Int64)) = m at hm
    split
    · omega
    · rename_i c
      rw [i64_lt_iff] at c; omega
theorem make_at (S : zMs) {h : Nat} (hh : h < 6) (many inc : Int64) :
    gMs_at (f_X8_makeUnits S h many inc) (19 + 7 * h + 1) = gMs_at S (19 + 7 * h + 1) + many ∧
    gMs_at (f_X8_makeUnits S h many inc) 8 = (if gMs_at S 5 < gMs_at S 8 + many * inc / 1000 then gMs_at S 5 else gMs_at S 8 + many * inc / 1000) ∧
    gMs_at (f_X8_makeUnits S h many inc) 9 = gMs_at S 9 + many * inc / 1000 ∧
    (∀ i, i ≠ 8 → i ≠ 9 → i ≠ 19 + 7 * h + 1 → gMs_at (f_X8_makeUnits S h many inc) i = gMs_at S i) := by
  unfold f_X8_makeUnits
  rw [zsl_e]
  generalize hA : f_X8_add S h 1 many = A
  have a8 : gMs_at A 8 = gMs_at S 8 := by rw [← hA, f_add_at _ (by omega)]
  have a9 : gMs_at A 9 = gMs_at S 9 := by rw [← hA, f_add_at _ (by omega)]
  have a5 : gMs_at A 5 = gMs_at S 5 := by rw [← hA, f_add_at _ (by omega)]
  generalize hB : sMs_at A (vp_updL (vp_updL (gMs_at A) 8 (gMs_at A 8 + many * inc / 1000)) 9 (vp_updL (gMs_at A) 8 (gMs_at A 8 + many * inc / 1000) 9 + many * inc / 1000)) = B
  have b8 : gMs_at B 8 = gMs_at S 8 + many * inc / 1000 := by
    rw [← hB, ← a8]
    show vp_updL (vp_updL (gMs_at A) 8 (gMs_at A 8 + many * inc / 1000)) 9 (vp_updL (gMs_at A) 8 (gMs_at A 8 + many * inc / 1000) 9 + many * inc / 1000) 8 = _
    rw [vp_updL_n _ _ (by decide), vp_updL_s]
  have b9 : gMs_at B 9 = gMs_at S 9 + many * inc / 1000 := by
    rw [← hB, ← a9]
    show vp_updL (vp_updL (gMs_at A) 8 (gMs_at A 8 + many * inc / 1000)) 9 (vp_updL (gMs_at A) 8 (gMs_at A 8 + many * inc / 1000) 9 + many * inc / 1000) 9 = _
    rw [vp_updL_s, vp_updL_n _ _ (by decide)]
  have bo : ∀ i, i ≠ 8 → i ≠ 9 → gMs_at B i = gMs_at A i := fun i h1 h2 => by
    rw [← hB]
    show vp_updL (vp_updL _ _ _) _ _ _ = _
    rw [vp_updL_n _ _ h2, vp_updL_n _ _ h1]
  refine ⟨?_, ?_, ?_, fun i h1 h2 h3 => ?_⟩
  · rw [f_hold_at _ (by omega), bo _ (by omega) (by omega), ← hA, f_add_s]
  · show vp_updL (gMs_at B) 8 (if gMs_at B 8 ≤ gMs_at B 5 then gMs_at B 8 else gMs_at B 5) 8 = _
    rw [vp_updL_s, b8, bo 5 (by decide) (by decide), a5, i64_min_le]
  · rw [f_hold_at _ (by omega), b9]
  · rw [f_hold_at _ h1, bo _ h1 h2, ← hA, f_add_at _ h3]
/-- units are made for cash: both sides alike -/
theorem make_eq {T : zTr} {S : zMs} (hR : RC T (gMs_at S)) {h : Nat} (hh : h < 6) (un am ofu : Int64) :
    RC (f_X6_makeUnits T h un am ofu) (gMs_at (f_X8_add (f_X8_makeUnits (sMs_at S (vp_updL (gMs_at S) 5 (gMs_at S 5 + am))) h un ofu) h 2 am)) ∧
    ∀ i, (11 ≤ i ∧ i ≤ 18 ∨ 61 ≤ i) → gMs_at (f_X8_add (f_X8_makeUnits (sMs_at S (vp_updL (gMs_at S) 5 (gMs_at S 5 + am))) h un ofu) h 2 am) i = gMs_at S i := by
  obtain ⟨r1, r5, r6, r7, r8, r9, r10, rh⟩ := hR
  generalize hS1 : sMs_at S (vp_updL (gMs_at S) 5 (gMs_at S 5 + am)) = S1
  have s5 : gMs_at S1 5 = gTr_cash T + am := by
    rw [← hS1]
    show vp_updL (gMs_at S) 5 (gMs_at S 5 + am) 5 = _
    rw [vp_updL_s, r5]
  have so : ∀ i, i ≠ 5 → gMs_at S1 i = gMs_at S i := fun i hi => by rw [← hS1]; exact vp_updL_n _ _ hi
  obtain ⟨g1, g8, g9, go⟩ := make_at S1 hh un ofu
  have e1 : gMs_at S1 (19 + 7 * h + 1) = gHd_new (gTr_hd T h) := (so _ (by omega)).trans (rh h hh).2.1
  rw [e1] at g1
  rw [s5, so 8 (by decide), r8] at g8
  rw [so 9 (by decide), r9] at g9
  generalize hG : f_X8_makeUnits S1 h un ofu = G at g1 g8 g9 go ⊢
  have hU : f_X6_makeUnits T h un am ofu = sTr_hd (sTr_even (sTr_pool (sTr_cash T (gTr_cash T + am)) (gMs_at G 8)) (gMs_at G 9)) (zup (gTr_hd T) h (sHd_bought (sHd_new (gTr_hd T h) (gHd_new (gTr_hd T h) + un)) (gHd_bought (gTr_hd T h) + am))) := by
    rw [g8, g9]; rfl
  rw [hU]
  refine ⟨⟨fun k hk => ?_, ?_, ?_, ?_, ?_, ?_, ?_, fun j hj => ?_⟩, fun i hi => ?_⟩
  · rw [f_add_at _ (by omega), go _ (by omega) (by omega) (by omega), so _ (by omega)]; exact r1 k hk
  · rw [f_add_at _ (by omega), go _ (by omega) (by omega) (by omega)]; exact s5
  · rw [f_add_at _ (by omega), go _ (by omega) (by omega) (by omega), so _ (by omega)]; exact r6
  · rw [f_add_at _ (by omega), go _ (by omega) (by omega) (by omega), so _ (by omega)]; exact r7
  · rw [f_add_at _ (by omega)]
  · rw [f_add_at _ (by omega)]
  · rw [f_add_at _ (by omega), go _ (by omega) (by omega) (by omega), so _ (by omega)]; exact r10
  · by_cases e : j = h
    · subst e
      obtain ⟨h0, h1, h2, h3, h4, h5, h6⟩ := rh j hj
      show _ = gHd_old (zup _ j _ j) ∧ _ = gHd_new (zup _ j _ j) ∧ _ = gHd_bought (zup _ j _ j) ∧ _ = gHd_paid (zup _ j _ j) ∧ _ = gHd_inc (zup _ j _ j) ∧ _ = gHd_eve (zup _ j _ j) ∧ _ = gHd_lots (zup _ j _ j)
      rw [zup_s]
      refine ⟨?_, ?_, ?_, ?_, ?_, ?_, ?_⟩
      · rw [f_add_at _ (by omega), go _ (by omega) (by omega) (by omega), so _ (by omega)]; exact h0
      · rw [f_add_at _ (by omega)]; exact g1
      · rw [f_add_s, go _ (by omega) (by omega) (by omega), so _ (by omega), h2]
      · rw [f_add_at _ (by omega), go _ (by omega) (by omega) (by omega), so _ (by omega)]; exact h3
      · rw [f_add_at _ (by omega), go _ (by omega) (by omega) (by omega), so _ (by omega)]; exact h4
      · rw [f_add_at _ (by omega), go _ (by omega) (by omega) (by omega), so _ (by omega)]; exact h5
      · rw [f_add_at _ (by omega), go _ (by omega) (by omega) (by omega), so _ (by omega)]; exact h6
    · show _ = gHd_old (zup _ h _ j) ∧ _ = gHd_new (zup _ h _ j) ∧ _ = gHd_bought (zup _ h _ j) ∧ _ = gHd_paid (zup _ h _ j) ∧ _ = gHd_inc (zup _ h _ j) ∧ _ = gHd_eve (zup _ h _ j) ∧ _ = gHd_lots (zup _ h _ j)
      rw [zup_n _ _ e]
      have q : ∀ w, w < 7 → gMs_at (f_X8_add G h 2 am) (19 + 7 * j + w) = gMs_at S (19 + 7 * j + w) := fun w hw => by
        rw [f_add_at _ (by omega), go _ (by omega) (by omega) (by omega), so _ (by omega)]
      rw [q 0 (by omega), q 1 (by omega), q 2 (by omega), q 3 (by omega), q 4 (by omega), q 5 (by omega), q 6 (by omega)]
      exact rh j hj
  · rw [f_add_at _ (by omega), go _ (by omega) (by omega) (by omega), so _ (by omega)]
theorem make_inv {T : zTr} (hH : iH T) {h : Nat} (hh : h < 6) {un am ofu : Int64} (hu : 0 ≤ un.toInt ∧ uAll T + un.toInt ≤ 1000000000) (hc : 0 ≤ (gTr_pool T).toInt ∧ (gTr_pool T).toInt ≤ (gTr_cash T).toInt ∧ (gTr_cash T).toInt ≤ 100000000000) (ha : 0 ≤ am.toInt ∧ am.toInt ≤ 1000000000) (hby : 0 ≤ (un * ofu).toInt) :
    iH (f_X6_makeUnits T h un am ofu) ∧ uU (f_X6_makeUnits T h un am ofu) h = uU T h + un.toInt ∧ (∀ j, j ≠ h → uU (f_X6_makeUnits T h un am ofu) j = uU T j) ∧ (gTr_cash (f_X6_makeUnits T h un am ofu)).toInt = (gTr_cash T).toInt + am.toInt ∧ 0 ≤ (gTr_pool (f_X6_makeUnits T h un am ofu)).toInt ∧ (gTr_pool (f_X6_makeUnits T h un am ofu)).toInt ≤ (gTr_cash (f_X6_makeUnits T h un am ofu)).toInt := by
  have h1 := hH.1 h hh
  have h4 : uU T h = uO T h + uN T h := rfl
  have h5 := uU_le hH hh
  have h6 := uAll_nn hH
  have hw : (gHd_new (gTr_hd T h)).toInt = uN T h := rfl
  obtain ⟨z1, z2, z3⟩ := uU_zup (T := T) (T' := f_X6_makeUnits T h un am ofu) (h := h) (x := sHd_bought (sHd_new (gTr_hd T h) (gHd_new (gTr_hd T h) + un)) (gHd_bought (gTr_hd T h) + am)) rfl
  have o1 : uO (f_X6_makeUnits T h un am ofu) h = uO T h := z2
  have n1 : uN (f_X6_makeUnits T h un am ofu) h = uN T h + un.toInt := z3.trans (i64_add hw rfl (by omega) (by omega))
  have u1 : uU (f_X6_makeUnits T h un am ofu) h = uU T h + un.toInt := by
    show uO _ h + uN _ h = _
    rw [o1, n1]; omega
  have u2 : ∀ j, j ≠ h → uU (f_X6_makeUnits T h un am ofu) j = uU T j := fun j hj => by
    show uO _ j + uN _ j = _
    rw [(z1 j hj).1, (z1 j hj).2]; rfl
  have hcash : (gTr_cash (f_X6_makeUnits T h un am ofu)).toInt = (gTr_cash T).toInt + am.toInt := i64_add (a := gTr_cash T) (b := am) rfl rfl (by omega) (by omega)
  have hpool : gTr_pool (f_X6_makeUnits T h un am ofu) = (if gTr_cash (f_X6_makeUnits T h un am ofu) < gTr_pool T + un * ofu / 1000 then gTr_cash (f_X6_makeUnits T h un am ofu) else gTr_pool T + un * ofu / 1000) := rfl
  have hb : (un * ofu / 1000).toInt = (un * ofu).toInt / 1000 := i64_div rfl rfl hby (by decide)
  have hbl := i64_lt (a := un * ofu)
  have hs : (gTr_pool T + un * ofu / 1000).toInt = (gTr_pool T).toInt + (un * ofu).toInt / 1000 := i64_add rfl hb (by omega) (by omega)
  refine ⟨⟨fun j hj => ?_, ?_⟩, u1, u2, hcash, ?_⟩
  · by_cases e : j = h
    · subst e; rw [o1, n1]; omega
    · rw [(z1 j e).1, (z1 j e).2]; exact hH.1 j hj
  · show isum (uU _) 6 ≤ _
    rw [isum_upd (f := uU T) 6 h hh (fun j _ hj => u2 j hj), u1]
    have : uAll T = isum (uU T) 6 := rfl
    omega
  · rw [hpool]
    split
    · omega
    · rename_i c
      rw [i64_lt_iff] at c; omega
