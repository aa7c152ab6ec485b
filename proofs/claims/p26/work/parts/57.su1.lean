abbrev zSl : Type := (Nat → zTr) × (Nat → Int32)
abbrev gSl_st (S : zSl) : Nat → zTr := S.1
abbrev gSl_sv (S : zSl) : Nat → Int32 := S.2
abbrev sSl_st (S : zSl) (v : Nat → zTr) : zSl := (v, S.2)
abbrev sSl_sv (S : zSl) (v : Nat → Int32) : zSl := (S.1, v)
theorem WXT_h {cy : Nat → ClassId} {X : Nat × va_E} {a : Nat → Nat} {t : zTr} {h : Nat} (hh : h < 6) : ([[X], WT cy a t] : List va_W).flatten[1 + (12 + h)]? = some (a (12 + h), .inr (2, vHd (gTr_hd t h))) := by
  rcases (show h = 0 ∨ h = 1 ∨ h = 2 ∨ h = 3 ∨ h = 4 ∨ h = 5 by omega) with rfl | rfl | rfl | rfl | rfl | rfl <;> rfl
theorem WXT_hC {cy : Nat → ClassId} {X : Nat × va_E} {a : Nat → Nat} {t : zTr} {h : Nat} (hh : h < 6) : ([1 + (12 + h)] : List Nat).map (fun i => ([[X], WT cy a t] : List va_W).flatten[i]?) = (WH (a (12 + h)) (gTr_hd t h)).map some := by
  show [([[X], WT cy a t] : List va_W).flatten[1 + (12 + h)]?] = _
  rw [WXT_h hh]; rfl
theorem WXT_set {cy : Nat → ClassId} {X : Nat × va_E} {a : Nat → Nat} {t : zTr} {h : Nat} (hh : h < 6) : zS ([[X], WT cy a t] : List va_W).flatten [1 + (12 + h)] (WH (a (12 + h)) (gTr_hd t h)) = ([[X], WT cy a t] : List va_W).flatten := by
  rcases (show h = 0 ∨ h = 1 ∨ h = 2 ∨ h = 3 ∨ h = 4 ∨ h = 5 by omega) with rfl | rfl | rfl | rfl | rfl | rfl <;> rfl
theorem xw19 {x : Int32} {P : Prop} (h0 : ¬ x < 0) (h1 : x < nI 19) (k0 : ¬ x = nI 0) (k1 : ¬ x = nI 1) (k2 : ¬ x = nI 2) (k3 : ¬ x = nI 3) (k4 : ¬ x = nI 4) (k5 : ¬ x = nI 5) (k6 : ¬ x = nI 6) (k7 : ¬ x = nI 7) (k8 : ¬ x = nI 8) (k9 : ¬ x = nI 9) (k10 : ¬ x = nI 10) (k11 : ¬ x = nI 11) (k12 : ¬ x = nI 12) (k13 : ¬ x = nI 13) (k14 : ¬ x = nI 14) (k15 : ¬ x = nI 15) (k16 : ¬ x = nI 16) (k17 : ¬ x = nI 17) (k18 : ¬ x = nI 18) : P := by
  obtain ⟨j, hj, rfl⟩ := nI_of h0
  rw [nI_ltI hj (by decide)] at h1
  rcases (show j = 0 ∨ j = 1 ∨ j = 2 ∨ j = 3 ∨ j = 4 ∨ j = 5 ∨ j = 6 ∨ j = 7 ∨ j = 8 ∨ j = 9 ∨ j = 10 ∨ j = 11 ∨ j = 12 ∨ j = 13 ∨ j = 14 ∨ j = 15 ∨ j = 16 ∨ j = 17 ∨ j = 18 by omega) with rfl | rfl | rfl | rfl | rfl | rfl | rfl | rfl | rfl | rfl | rfl | rfl | rfl | rfl | rfl | rfl | rfl | rfl | rfl <;> exact absurd rfl (by assumption)
theorem xidx {o : Int32} {n N : Nat} (h0 : ¬ o < 0) (h1 : o < nI n) (hn : n ≤ N) (hN : N < 2 ^ 31) : vp_in o N := by
  obtain ⟨j, hj, rfl⟩ := nI_of h0
  rw [nI_ltI hj (by omega)] at h1
  exact vp_in_nI (by omega) hN
theorem L_cnt_le : ∀ (n : Nat) (r : Int64) (k : Nat), k ≤ 8 → (L_X5_cnt n r k).2.2.2 ≤ 8
  | 0, r, k, h => h
  | n + 1, r, k, h => by
    rw [L_X5_cnt_s]
    by_cases c1 : 8 ≤ k
    · rw [if_pos c1]; exact h
    rw [if_neg c1]
    by_cases c2 : r = 0
    · rw [if_pos c2]; exact h
    rw [if_neg c2]
    by_cases c3 : r &&& 255 < 33
    · rw [if_pos c3]; exact h
    rw [if_neg c3]
    by_cases c4 : r &&& 255 ≤ 126
    · rw [if_pos c4]; exact L_cnt_le n _ (k + 1) (by omega)
    · rw [if_neg c4]; exact h
theorem L_cnt_rv : ∀ (n : Nat) (r : Int64) (k : Nat), (L_X5_cnt n r k).2.1 = 0
  | 0, r, k => rfl
  | n + 1, r, k => by
    rw [L_X5_cnt_s]
    by_cases c1 : 8 ≤ k
    · rw [if_pos c1]
    rw [if_neg c1]
    by_cases c2 : r = 0
    · rw [if_pos c2]
    rw [if_neg c2]
    by_cases c3 : r &&& 255 < 33
    · rw [if_pos c3]
    rw [if_neg c3]
    by_cases c4 : r &&& 255 ≤ 126
    · rw [if_pos c4]; exact L_cnt_rv n _ (k + 1)
    · rw [if_neg c4]
theorem xcnt_le (ch : Int64) : f_X5_countCharacters ch ≤ 8 := by
  unfold f_X5_countCharacters
  dsimp only
  split
  · rw [L_cnt_rv]; omega
  · exact L_cnt_le _ _ _ (by omega)

noncomputable def f_X7_set (t : zTr) (y : zHs) (se : Int32) (v : Int32) : Int32 × zTr × zHs :=
  let T_8 : zHs := (f_X1_hold y t)
  let T_21 : zTr := ((f_X6_changeSetting t se v).2)
  let R_21_1 : Int32 := ((f_X6_changeSetting t se v).1)
  let T_24 : zHs := ((f_X1_keep T_8 R_21_1).2)
  let R_24_1 : Int32 := ((f_X1_keep T_8 R_21_1).1)
  (R_24_1, T_21, (sHs_count (sHs_first T_8 (gHs_first T_24)) (gHs_count T_24)))
set_option maxHeartbeats 4000000 in
set_option maxRecDepth 100000 in
theorem c_X7_set (l : Launch) (D : va_G) (cy : Nat → ClassId) (x0 x1 x2 d0 d1 p0 p1 h0 h1 : Nat) (a b : Nat → Nat) (hs sl : Nat → Nat → Nat) (se : Int32) (v : Int32) (t : zTr) (y : zHs) (hf : gHs_first y < 7) (hc : gHs_count y ≤ 6) (hb : gOd_n (gTr_bu t) ≤ 20) (hl : gOd_n (gTr_le t) ≤ 20) : zC l yX7_set (zW yX7_set cX7_set 3 (Option.some Jvm.ClassFile.FieldType.int)) { frames := 4, cells := 0, slots := 0, locals := 89 } D cy [.ref x0, .int se, .int v] (([(WX0 x0 x1 x2 a b d0 p0 h0), (WT cy a t), (WHo cy h0 h1 hs (gHs_first y) (gHs_count y))] : List va_W) ++ WHL cy hs (gHs_st y)).flatten (some (.int ((f_X7_set t y se v).1))) (([(WX0 x0 x1 x2 a b d0 p0 h0), (WT cy a ((f_X7_set t y se v).2.1)), (WHo cy h0 h1 hs (gHs_first ((f_X7_set t y se v).2.2)) (gHs_count ((f_X7_set t y se v).2.2)))] : List va_W) ++ WHL cy hs (gHs_st ((f_X7_set t y se v).2.2))).flatten := by
  refine zC_of rfl (Nat.le_of_ble_eq_true rfl) (zOk_i _) (fun E C hret => ?_)
  show zJ E 3 0 0 (([(WX0 x0 x1 x2 a b d0 p0 h0), (WT cy a t), (WHo cy h0 h1 hs (gHs_first y) (gHs_count y))] : List va_W) ++ WHL cy hs (gHs_st y)).flatten 0 [(0, .ref x0), (1, .int se), (2, .int v)] []
  refine zj_aload_n C dX7_set_0 0 rfl ?_
  refine zj_get C 0 7 4 (v := .ref h0) inZ7 rfl rfl (by decide) tg_281 rfl dX7_set_1 ?_
  refine zj_aload_n C dX7_set_4 0 rfl ?_
  refine zj_get C 0 7 0 (v := .ref (a 0)) inZ7 rfl rfl (by decide) tg_277 rfl dX7_set_5 ?_
  have M_8 := c_X1_hold l D cy h0 h1 hs a  y t hf hc hb hl
  obtain ⟨T_8, hT_8⟩ : ∃ g : zHs, g = (f_X1_hold y t) := ⟨_, rfl⟩
  rw [← hT_8] at M_8
  refine zj_callVF C (nn := 146) (Bs' := (([(WX0 x0 x1 x2 a b d0 p0 h0), (WT cy a t), (WHo cy h0 h1 hs (gHs_first T_8) (gHs_count T_8))] : List va_W) ++ WHL cy hs (gHs_st T_8))) (st := []) (st1 := []) ([(WHo cy h0 h1 hs (gHs_first y) (gHs_count y)), (WT cy a t)] ++ WHL cy hs (gHs_st y)) ([(WHo cy h0 h1 hs (gHs_first T_8) (gHs_count T_8)), (WT cy a t)] ++ WHL cy hs (gHs_st T_8)) [2, 1, 3, 4, 5, 6, 7, 8, 9] 0 1 (M_8) rfl rfl (zg_V tg_307 tg_304 tg_305 tg_306 tg_8) ⟨rfl, hdZ_X1_hold⟩ ⟨rfl, rfl⟩ ⟨by decide, by decide⟩ rfl rfl rfl (by decide) ⟨rfl, rfl⟩ rfl rfl rfl (Nat.le_of_ble_eq_true rfl) dX7_set_8 rfl rfl ?_
  have hf8 : gHs_first T_8 < 7 := by { rw [hT_8]; exact hf }; have hc8 : gHs_count T_8 ≤ 6 := by { rw [hT_8]; exact hc }
  refine zj_aload_n C dX7_set_11 0 rfl ?_
  refine zj_get C 0 7 4 (v := .ref h0) inZ7 rfl rfl (by decide) tg_281 rfl dX7_set_12 ?_
  refine zj_aload_n C dX7_set_15 0 rfl ?_
  refine zj_get C 0 7 0 (v := .ref (a 0)) inZ7 rfl rfl (by decide) tg_277 rfl dX7_set_16 ?_
  refine zj_iload_n C dX7_set_19 1 rfl ?_
  refine zj_iload_n C dX7_set_20 2 rfl ?_
  have M_21 := c_X6_changeSetting l D cy a se v t 
  obtain ⟨T_21, hT_21⟩ : ∃ g : zTr, g = ((f_X6_changeSetting t se v).2) := ⟨_, rfl⟩
  rw [← hT_21] at M_21
  obtain ⟨R_21_1, hR_21_1⟩ : ∃ g : Int32, g = ((f_X6_changeSetting t se v).1) := ⟨_, rfl⟩
  rw [← hR_21_1] at M_21
  refine zj_callVF1 C (nn := 18) (Bs' := (([(WX0 x0 x1 x2 a b d0 p0 h0), (WT cy a T_21), (WHo cy h0 h1 hs (gHs_first T_8) (gHs_count T_8))] : List va_W) ++ WHL cy hs (gHs_st T_8))) (st := [.ref h0]) (st1 := [.int R_21_1, .ref h0]) 1 0 6 (M_21) (zg_V tg_331 tg_328 tg_329 tg_330 tg_2) ⟨rfl, hdZ_X6_changeSetting⟩ ⟨rfl, rfl⟩ ⟨by decide, by decide⟩ rfl rfl rfl ⟨rfl, rfl⟩ rfl rfl (Nat.le_of_ble_eq_true rfl) dX7_set_21 rfl rfl ?_
  have M_24 := c_X1_keep l D cy h0 h1 hs R_21_1 T_8 hf8 hc8
  obtain ⟨T_24, hT_24⟩ : ∃ g : zHs, g = ((f_X1_keep T_8 R_21_1).2) := ⟨_, rfl⟩
  rw [← hT_24] at M_24
  obtain ⟨R_24_1, hR_24_1⟩ : ∃ g : Int32, g = ((f_X1_keep T_8 R_21_1).1) := ⟨_, rfl⟩
  rw [← hR_24_1] at M_24
  refine zj_callVF1 C (nn := 2) (Bs' := (([(WX0 x0 x1 x2 a b d0 p0 h0), (WT cy a T_21), (WHo cy h0 h1 hs (gHs_first T_24) (gHs_count T_24))] : List va_W) ++ WHL cy hs (gHs_st T_8))) (st := []) (st1 := [.int R_24_1]) 2 0 1 (M_24) (zg_V tg_337 tg_334 tg_335 tg_336 tg_8) ⟨rfl, hdZ_X1_keep⟩ ⟨rfl, rfl⟩ ⟨by decide, by decide⟩ rfl rfl rfl ⟨rfl, rfl⟩ rfl rfl (Nat.le_of_ble_eq_true rfl) dX7_set_24 rfl rfl ?_
  subst hR_24_1
  subst hT_24
  subst hR_21_1
  subst hT_21
  subst hT_8
  have e : f_X7_set t y se v = (((f_X1_keep (f_X1_hold y t) ((f_X6_changeSetting t se v).1)).1), ((f_X6_changeSetting t se v).2), (sHs_count (sHs_first (f_X1_hold y t) (gHs_first ((f_X1_keep (f_X1_hold y t) ((f_X6_changeSetting t se v).1)).2))) (gHs_count ((f_X1_keep (f_X1_hold y t) ((f_X6_changeSetting t se v).1)).2)))) := by rfl
  rw [e] at hret
  exact hret _ _ dX7_set_27

noncomputable def f_X7_buy (t : zTr) (y : zHs) (h : Int32) (am : Int32) (hour : Int32) : Int32 × zTr × zHs :=
  let T_8 : zHs := (f_X1_hold y t)
  let T_22 : zTr := ((f_X6_orderToBuy t h am hour).2)
  let R_22_1 : Int32 := ((f_X6_orderToBuy t h am hour).1)
  let T_25 : zHs := ((f_X1_keep T_8 R_22_1).2)
  let R_25_1 : Int32 := ((f_X1_keep T_8 R_22_1).1)
  (R_25_1, T_22, (sHs_count (sHs_first T_8 (gHs_first T_25)) (gHs_count T_25)))
set_option maxHeartbeats 4000000 in
set_option maxRecDepth 100000 in
theorem c_X7_buy (l : Launch) (D : va_G) (cy : Nat → ClassId) (x0 x1 x2 d0 d1 p0 p1 h0 h1 : Nat) (a b : Nat → Nat) (hs sl : Nat → Nat → Nat) (h : Int32) (am : Int32) (hour : Int32) (t : zTr) (y : zHs) (hf : gHs_first y < 7) (hc : gHs_count y ≤ 6) (hb : gOd_n (gTr_bu t) ≤ 20) (hl : gOd_n (gTr_le t) ≤ 20) : zC l yX7_buy (zW yX7_buy cX7_buy 4 (Option.some Jvm.ClassFile.FieldType.int)) { frames := 4, cells := 0, slots := 0, locals := 89 } D cy [.ref x0, .int h, .int am, .int hour] (([(WX0 x0 x1 x2 a b d0 p0 h0), (WT cy a t), (WHo cy h0 h1 hs (gHs_first y) (gHs_count y))] : List va_W) ++ WHL cy hs (gHs_st y)).flatten (some (.int ((f_X7_buy t y h am hour).1))) (([(WX0 x0 x1 x2 a b d0 p0 h0), (WT cy a ((f_X7_buy t y h am hour).2.1)), (WHo cy h0 h1 hs (gHs_first ((f_X7_buy t y h am hour).2.2)) (gHs_count ((f_X7_buy t y h am hour).2.2)))] : List va_W) ++ WHL cy hs (gHs_st ((f_X7_buy t y h am hour).2.2))).flatten := by
  refine zC_of rfl (Nat.le_of_ble_eq_true rfl) (zOk_i _) (fun E C hret => ?_)
  show zJ E 4 0 0 (([(WX0 x0 x1 x2 a b d0 p0 h0), (WT cy a t), (WHo cy h0 h1 hs (gHs_first y) (gHs_count y))] : List va_W) ++ WHL cy hs (gHs_st y)).flatten 0 [(0, .ref x0), (1, .int h), (2, .int am), (3, .int hour)] []
  refine zj_aload_n C dX7_buy_0 0 rfl ?_
  refine zj_get C 0 7 4 (v := .ref h0) inZ7 rfl rfl (by decide) tg_281 rfl dX7_buy_1 ?_
  refine zj_aload_n C dX7_buy_4 0 rfl ?_
  refine zj_get C 0 7 0 (v := .ref (a 0)) inZ7 rfl rfl (by decide) tg_277 rfl dX7_buy_5 ?_
  have M_8 := c_X1_hold l D cy h0 h1 hs a  y t hf hc hb hl
  obtain ⟨T_8, hT_8⟩ : ∃ g : zHs, g = (f_X1_hold y t) := ⟨_, rfl⟩
  rw [← hT_8] at M_8
  refine zj_callVF C (nn := 146) (Bs' := (([(WX0 x0 x1 x2 a b d0 p0 h0), (WT cy a t), (WHo cy h0 h1 hs (gHs_first T_8) (gHs_count T_8))] : List va_W) ++ WHL cy hs (gHs_st T_8))) (st := []) (st1 := []) ([(WHo cy h0 h1 hs (gHs_first y) (gHs_count y)), (WT cy a t)] ++ WHL cy hs (gHs_st y)) ([(WHo cy h0 h1 hs (gHs_first T_8) (gHs_count T_8)), (WT cy a t)] ++ WHL cy hs (gHs_st T_8)) [2, 1, 3, 4, 5, 6, 7, 8, 9] 0 1 (M_8) rfl rfl (zg_V tg_307 tg_304 tg_305 tg_306 tg_8) ⟨rfl, hdZ_X1_hold⟩ ⟨rfl, rfl⟩ ⟨by decide, by decide⟩ rfl rfl rfl (by decide) ⟨rfl, rfl⟩ rfl rfl rfl (Nat.le_of_ble_eq_true rfl) dX7_buy_8 rfl rfl ?_
  have hf8 : gHs_first T_8 < 7 := by { rw [hT_8]; exact hf }; have hc8 : gHs_count T_8 ≤ 6 := by { rw [hT_8]; exact hc }
  refine zj_aload_n C dX7_buy_11 0 rfl ?_
  refine zj_get C 0 7 4 (v := .ref h0) inZ7 rfl rfl (by decide) tg_281 rfl dX7_buy_12 ?_
  refine zj_aload_n C dX7_buy_15 0 rfl ?_
  refine zj_get C 0 7 0 (v := .ref (a 0)) inZ7 rfl rfl (by decide) tg_277 rfl dX7_buy_16 ?_
  refine zj_iload_n C dX7_buy_19 1 rfl ?_
  refine zj_iload_n C dX7_buy_20 2 rfl ?_
  refine zj_iload_n C dX7_buy_21 3 rfl ?_
  have M_22 := c_X6_orderToBuy l D cy a h am hour t hb
  obtain ⟨T_22, hT_22⟩ : ∃ g : zTr, g = ((f_X6_orderToBuy t h am hour).2) := ⟨_, rfl⟩
  rw [← hT_22] at M_22
  obtain ⟨R_22_1, hR_22_1⟩ : ∃ g : Int32, g = ((f_X6_orderToBuy t h am hour).1) := ⟨_, rfl⟩
  rw [← hR_22_1] at M_22
  refine zj_callVF1 C (nn := 18) (Bs' := (([(WX0 x0 x1 x2 a b d0 p0 h0), (WT cy a T_22), (WHo cy h0 h1 hs (gHs_first T_8) (gHs_count T_8))] : List va_W) ++ WHL cy hs (gHs_st T_8))) (st := [.ref h0]) (st1 := [.int R_22_1, .ref h0]) 1 0 6 (M_22) (zg_V tg_345 tg_342 tg_343 tg_344 tg_2) ⟨rfl, hdZ_X6_orderToBuy⟩ ⟨rfl, rfl⟩ ⟨by decide, by decide⟩ rfl rfl rfl ⟨rfl, rfl⟩ rfl rfl (Nat.le_of_ble_eq_true rfl) dX7_buy_22 rfl rfl ?_
  have M_25 := c_X1_keep l D cy h0 h1 hs R_22_1 T_8 hf8 hc8
  obtain ⟨T_25, hT_25⟩ : ∃ g : zHs, g = ((f_X1_keep T_8 R_22_1).2) := ⟨_, rfl⟩
  rw [← hT_25] at M_25
  obtain ⟨R_25_1, hR_25_1⟩ : ∃ g : Int32, g = ((f_X1_keep T_8 R_22_1).1) := ⟨_, rfl⟩
  rw [← hR_25_1] at M_25
  refine zj_callVF1 C (nn := 2) (Bs' := (([(WX0 x0 x1 x2 a b d0 p0 h0), (WT cy a T_22), (WHo cy h0 h1 hs (gHs_first T_25) (gHs_count T_25))] : List va_W) ++ WHL cy hs (gHs_st T_8))) (st := []) (st1 := [.int R_25_1]) 2 0 1 (M_25) (zg_V tg_337 tg_334 tg_335 tg_336 tg_8) ⟨rfl, hdZ_X1_keep⟩ ⟨rfl, rfl⟩ ⟨by decide, by decide⟩ rfl rfl rfl ⟨rfl, rfl⟩ rfl rfl (Nat.le_of_ble_eq_true rfl) dX7_buy_25 rfl rfl ?_
  subst hR_25_1
  subst hT_25
  subst hR_22_1
  subst hT_22
  subst hT_8
  have e : f_X7_buy t y h am hour = (((f_X1_keep (f_X1_hold y t) ((f_X6_orderToBuy t h am hour).1)).1), ((f_X6_orderToBuy t h am hour).2), (sHs_count (sHs_first (f_X1_hold y t) (gHs_first ((f_X1_keep (f_X1_hold y t) ((f_X6_orderToBuy t h am hour).1)).2))) (gHs_count ((f_X1_keep (f_X1_hold y t) ((f_X6_orderToBuy t h am hour).1)).2)))) := by rfl
  rw [e] at hret
  exact hret _ _ dX7_buy_28

noncomputable def f_X7_leave (t : zTr) (y : zHs) (h : Int32) (un : Int32) (hour : Int32) : Int32 × zTr × zHs :=
  let T_8 : zHs := (f_X1_hold y t)
  let T_22 : zTr := ((f_X6_orderToLeave t h un hour).2)
  let R_22_1 : Int32 := ((f_X6_orderToLeave t h un hour).1)
  let T_25 : zHs := ((f_X1_keep T_8 R_22_1).2)
  let R_25_1 : Int32 := ((f_X1_keep T_8 R_22_1).1)
  (R_25_1, T_22, (sHs_count (sHs_first T_8 (gHs_first T_25)) (gHs_count T_25)))
set_option maxHeartbeats 4000000 in
set_option maxRecDepth 100000 in
theorem c_X7_leave (l : Launch) (D : va_G) (cy : Nat → ClassId) (x0 x1 x2 d0 d1 p0 p1 h0 h1 : Nat) (a b : Nat → Nat) (hs sl : Nat → Nat → Nat) (h : Int32) (un : Int32) (hour : Int32) (t : zTr) (y : zHs) (hf : gHs_first y < 7) (hc : gHs_count y ≤ 6) (hb : gOd_n (gTr_bu t) ≤ 20) (hl : gOd_n (gTr_le t) ≤ 20) : zC l yX7_leave (zW yX7_leave cX7_leave 4 (Option.some Jvm.ClassFile.FieldType.int)) { frames := 4, cells := 0, slots := 0, locals := 89 } D cy [.ref x0, .int h, .int un, .int hour] (([(WX0 x0 x1 x2 a b d0 p0 h0), (WT cy a t), (WHo cy h0 h1 hs (gHs_first y) (gHs_count y))] : List va_W) ++ WHL cy hs (gHs_st y)).flatten (some (.int ((f_X7_leave t y h un hour).1))) (([(WX0 x0 x1 x2 a b d0 p0 h0), (WT cy a ((f_X7_leave t y h un hour).2.1)), (WHo cy h0 h1 hs (gHs_first ((f_X7_leave t y h un hour).2.2)) (gHs_count ((f_X7_leave t y h un hour).2.2)))] : List va_W) ++ WHL cy hs (gHs_st ((f_X7_leave t y h un hour).2.2))).flatten := by
  refine zC_of rfl (Nat.le_of_ble_eq_true rfl) (zOk_i _) (fun E C hret => ?_)
  show zJ E 4 0 0 (([(WX0 x0 x1 x2 a b d0 p0 h0), (WT cy a t), (WHo cy h0 h1 hs (gHs_first y) (gHs_count y))] : List va_W) ++ WHL cy hs (gHs_st y)).flatten 0 [(0, .ref x0), (1, .int h), (2, .int un), (3, .int hour)] []
  refine zj_aload_n C dX7_leave_0 0 rfl ?_
  refine zj_get C 0 7 4 (v := .ref h0) inZ7 rfl rfl (by decide) tg_281 rfl dX7_leave_1 ?_
  refine zj_aload_n C dX7_leave_4 0 rfl ?_
  refine zj_get C 0 7 0 (v := .ref (a 0)) inZ7 rfl rfl (by decide) tg_277 rfl dX7_leave_5 ?_
  have M_8 := c_X1_hold l D cy h0 h1 hs a  y t hf hc hb hl
  obtain ⟨T_8, hT_8⟩ : ∃ g : zHs, g = (f_X1_hold y t) := ⟨_, rfl⟩
  rw [← hT_8] at M_8
  refine zj_callVF C (nn := 146) (Bs' := (([(WX0 x0 x1 x2 a b d0 p0 h0), (WT cy a t), (WHo cy h0 h1 hs (gHs_first T_8) (gHs_count T_8))] : List va_W) ++ WHL cy hs (gHs_st T_8))) (st := []) (st1 := []) ([(WHo cy h0 h1 hs (gHs_first y) (gHs_count y)), (WT cy a t)] ++ WHL cy hs (gHs_st y)) ([(WHo cy h0 h1 hs (gHs_first T_8) (gHs_count T_8)), (WT cy a t)] ++ WHL cy hs (gHs_st T_8)) [2, 1, 3, 4, 5, 6, 7, 8, 9] 0 1 (M_8) rfl rfl (zg_V tg_307 tg_304 tg_305 tg_306 tg_8) ⟨rfl, hdZ_X1_hold⟩ ⟨rfl, rfl⟩ ⟨by decide, by decide⟩ rfl rfl rfl (by decide) ⟨rfl, rfl⟩ rfl rfl rfl (Nat.le_of_ble_eq_true rfl) dX7_leave_8 rfl rfl ?_
  have hf8 : gHs_first T_8 < 7 := by { rw [hT_8]; exact hf }; have hc8 : gHs_count T_8 ≤ 6 := by { rw [hT_8]; exact hc }
  refine zj_aload_n C dX7_leave_11 0 rfl ?_
  refine zj_get C 0 7 4 (v := .ref h0) inZ7 rfl rfl (by decide) tg_281 rfl dX7_leave_12 ?_
  refine zj_aload_n C dX7_leave_15 0 rfl ?_
  refine zj_get C 0 7 0 (v := .ref (a 0)) inZ7 rfl rfl (by decide) tg_277 rfl dX7_leave_16 ?_
  refine zj_iload_n C dX7_leave_19 1 rfl ?_
  refine zj_iload_n C dX7_leave_20 2 rfl ?_
  refine zj_iload_n C dX7_leave_21 3 rfl ?_
  have M_22 := c_X6_orderToLeave l D cy a h un hour t hl
  obtain ⟨T_22, hT_22⟩ : ∃ g : zTr, g = ((f_X6_orderToLeave t h un hour).2) := ⟨_, rfl⟩
  rw [← hT_22] at M_22
  obtain ⟨R_22_1, hR_22_1⟩ : ∃ g : Int32, g = ((f_X6_orderToLeave t h un hour).1) := ⟨_, rfl⟩
  rw [← hR_22_1] at M_22
  refine zj_callVF1 C (nn := 18) (Bs' := (([(WX0 x0 x1 x2 a b d0 p0 h0), (WT cy a T_22), (WHo cy h0 h1 hs (gHs_first T_8) (gHs_count T_8))] : List va_W) ++ WHL cy hs (gHs_st T_8))) (st := [.ref h0]) (st1 := [.int R_22_1, .ref h0]) 1 0 6 (M_22) (zg_V tg_373 tg_370 tg_371 tg_372 tg_2) ⟨rfl, hdZ_X6_orderToLeave⟩ ⟨rfl, rfl⟩ ⟨by decide, by decide⟩ rfl rfl rfl ⟨rfl, rfl⟩ rfl rfl (Nat.le_of_ble_eq_true rfl) dX7_leave_22 rfl rfl ?_
  have M_25 := c_X1_keep l D cy h0 h1 hs R_22_1 T_8 hf8 hc8
  obtain ⟨T_25, hT_25⟩ : ∃ g : zHs, g = ((f_X1_keep T_8 R_22_1).2) := ⟨_, rfl⟩
  rw [← hT_25] at M_25
  obtain ⟨R_25_1, hR_25_1⟩ : ∃ g : Int32, g = ((f_X1_keep T_8 R_22_1).1) := ⟨_, rfl⟩
  rw [← hR_25_1] at M_25
  refine zj_callVF1 C (nn := 2) (Bs' := (([(WX0 x0 x1 x2 a b d0 p0 h0), (WT cy a T_22), (WHo cy h0 h1 hs (gHs_first T_25) (gHs_count T_25))] : List va_W) ++ WHL cy hs (gHs_st T_8))) (st := []) (st1 := [.int R_25_1]) 2 0 1 (M_25) (zg_V tg_337 tg_334 tg_335 tg_336 tg_8) ⟨rfl, hdZ_X1_keep⟩ ⟨rfl, rfl⟩ ⟨by decide, by decide⟩ rfl rfl rfl ⟨rfl, rfl⟩ rfl rfl (Nat.le_of_ble_eq_true rfl) dX7_leave_25 rfl rfl ?_
  subst hR_25_1
  subst hT_25
  subst hR_22_1
  subst hT_22
  subst hT_8
  have e : f_X7_leave t y h un hour = (((f_X1_keep (f_X1_hold y t) ((f_X6_orderToLeave t h un hour).1)).1), ((f_X6_orderToLeave t h un hour).2), (sHs_count (sHs_first (f_X1_hold y t) (gHs_first ((f_X1_keep (f_X1_hold y t) ((f_X6_orderToLeave t h un hour).1)).2))) (gHs_count ((f_X1_keep (f_X1_hold y t) ((f_X6_orderToLeave t h un hour).1)).2)))) := by rfl
  rw [e] at hret
  exact hret _ _ dX7_leave_28

noncomputable def f_X7_inKind (t : zTr) (y : zHs) (h : Int32) (un : Int32) : Int32 × zTr × zHs :=
  let T_8 : zHs := (f_X1_hold y t)
  let T_21 : zTr := ((f_X6_exitInKind t h un).2)
  let R_21_1 : Int32 := ((f_X6_exitInKind t h un).1)
  let T_24 : zHs := ((f_X1_keep T_8 R_21_1).2)
  let R_24_1 : Int32 := ((f_X1_keep T_8 R_21_1).1)
  (R_24_1, T_21, (sHs_count (sHs_first T_8 (gHs_first T_24)) (gHs_count T_24)))
set_option maxHeartbeats 4000000 in
set_option maxRecDepth 100000 in
theorem c_X7_inKind (l : Launch) (D : va_G) (cy : Nat → ClassId) (x0 x1 x2 d0 d1 p0 p1 h0 h1 : Nat) (a b : Nat → Nat) (hs sl : Nat → Nat → Nat) (h : Int32) (un : Int32) (t : zTr) (y : zHs) (hf : gHs_first y < 7) (hc : gHs_count y ≤ 6) (hb : gOd_n (gTr_bu t) ≤ 20) (hl : gOd_n (gTr_le t) ≤ 20) : zC l yX7_inKind (zW yX7_inKind cX7_inKind 3 (Option.some Jvm.ClassFile.FieldType.int)) { frames := 4, cells := 0, slots := 0, locals := 92 } D cy [.ref x0, .int h, .int un] (([(WX0 x0 x1 x2 a b d0 p0 h0), (WT cy a t), (WHo cy h0 h1 hs (gHs_first y) (gHs_count y))] : List va_W) ++ WHL cy hs (gHs_st y)).flatten (some (.int ((f_X7_inKind t y h un).1))) (([(WX0 x0 x1 x2 a b d0 p0 h0), (WT cy a ((f_X7_inKind t y h un).2.1)), (WHo cy h0 h1 hs (gHs_first ((f_X7_inKind t y h un).2.2)) (gHs_count ((f_X7_inKind t y h un).2.2)))] : List va_W) ++ WHL cy hs (gHs_st ((f_X7_inKind t y h un).2.2))).flatten := by
  refine zC_of rfl (Nat.le_of_ble_eq_true rfl) (zOk_i _) (fun E C hret => ?_)
  show zJ E 3 0 0 (([(WX0 x0 x1 x2 a b d0 p0 h0), (WT cy a t), (WHo cy h0 h1 hs (gHs_first y) (gHs_count y))] : List va_W) ++ WHL cy hs (gHs_st y)).flatten 0 [(0, .ref x0), (1, .int h), (2, .int un)] []
  refine zj_aload_n C dX7_inKind_0 0 rfl ?_
  refine zj_get C 0 7 4 (v := .ref h0) inZ7 rfl rfl (by decide) tg_281 rfl dX7_inKind_1 ?_
  refine zj_aload_n C dX7_inKind_4 0 rfl ?_
  refine zj_get C 0 7 0 (v := .ref (a 0)) inZ7 rfl rfl (by decide) tg_277 rfl dX7_inKind_5 ?_
  have M_8 := c_X1_hold l D cy h0 h1 hs a  y t hf hc hb hl
  obtain ⟨T_8, hT_8⟩ : ∃ g : zHs, g = (f_X1_hold y t) := ⟨_, rfl⟩
  rw [← hT_8] at M_8
  refine zj_callVF C (nn := 146) (Bs' := (([(WX0 x0 x1 x2 a b d0 p0 h0), (WT cy a t), (WHo cy h0 h1 hs (gHs_first T_8) (gHs_count T_8))] : List va_W) ++ WHL cy hs (gHs_st T_8))) (st := []) (st1 := []) ([(WHo cy h0 h1 hs (gHs_first y) (gHs_count y)), (WT cy a t)] ++ WHL cy hs (gHs_st y)) ([(WHo cy h0 h1 hs (gHs_first T_8) (gHs_count T_8)), (WT cy a t)] ++ WHL cy hs (gHs_st T_8)) [2, 1, 3, 4, 5, 6, 7, 8, 9] 0 1 (M_8) rfl rfl (zg_V tg_307 tg_304 tg_305 tg_306 tg_8) ⟨rfl, hdZ_X1_hold⟩ ⟨rfl, rfl⟩ ⟨by decide, by decide⟩ rfl rfl rfl (by decide) ⟨rfl, rfl⟩ rfl rfl rfl (Nat.le_of_ble_eq_true rfl) dX7_inKind_8 rfl rfl ?_
  have hf8 : gHs_first T_8 < 7 := by { rw [hT_8]; exact hf }; have hc8 : gHs_count T_8 ≤ 6 := by { rw [hT_8]; exact hc }
  refine zj_aload_n C dX7_inKind_11 0 rfl ?_
  refine zj_get C 0 7 4 (v := .ref h0) inZ7 rfl rfl (by decide) tg_281 rfl dX7_inKind_12 ?_
  refine zj_aload_n C dX7_inKind_15 0 rfl ?_
  refine zj_get C 0 7 0 (v := .ref (a 0)) inZ7 rfl rfl (by decide) tg_277 rfl dX7_inKind_16 ?_
  refine zj_iload_n C dX7_inKind_19 1 rfl ?_
  refine zj_iload_n C dX7_inKind_20 2 rfl ?_
  have M_21 := c_X6_exitInKind l D cy a h un t hl
  obtain ⟨T_21, hT_21⟩ : ∃ g : zTr, g = ((f_X6_exitInKind t h un).2) := ⟨_, rfl⟩
  rw [← hT_21] at M_21
  obtain ⟨R_21_1, hR_21_1⟩ : ∃ g : Int32, g = ((f_X6_exitInKind t h un).1) := ⟨_, rfl⟩
  rw [← hR_21_1] at M_21
  refine zj_callVF1 C (nn := 18) (Bs' := (([(WX0 x0 x1 x2 a b d0 p0 h0), (WT cy a T_21), (WHo cy h0 h1 hs (gHs_first T_8) (gHs_count T_8))] : List va_W) ++ WHL cy hs (gHs_st T_8))) (st := [.ref h0]) (st1 := [.int R_21_1, .ref h0]) 1 0 6 (M_21) (zg_V tg_393 tg_390 tg_391 tg_392 tg_2) ⟨rfl, hdZ_X6_exitInKind⟩ ⟨rfl, rfl⟩ ⟨by decide, by decide⟩ rfl rfl rfl ⟨rfl, rfl⟩ rfl rfl (Nat.le_of_ble_eq_true rfl) dX7_inKind_21 rfl rfl ?_
  have M_24 := c_X1_keep l D cy h0 h1 hs R_21_1 T_8 hf8 hc8
  obtain ⟨T_24, hT_24⟩ : ∃ g : zHs, g = ((f_X1_keep T_8 R_21_1).2) := ⟨_, rfl⟩
  rw [← hT_24] at M_24
  obtain ⟨R_24_1, hR_24_1⟩ : ∃ g : Int32, g = ((f_X1_keep T_8 R_21_1).1) := ⟨_, rfl⟩
  rw [← hR_24_1] at M_24
  refine zj_callVF1 C (nn := 2) (Bs' := (([(WX0 x0 x1 x2 a b d0 p0 h0), (WT cy a T_21), (WHo cy h0 h1 hs (gHs_first T_24) (gHs_count T_24))] : List va_W) ++ WHL cy hs (gHs_st T_8))) (st := []) (st1 := [.int R_24_1]) 2 0 1 (M_24) (zg_V tg_337 tg_334 tg_335 tg_336 tg_8) ⟨rfl, hdZ_X1_keep⟩ ⟨rfl, rfl⟩ ⟨by decide, by decide⟩ rfl rfl rfl ⟨rfl, rfl⟩ rfl rfl (Nat.le_of_ble_eq_true rfl) dX7_inKind_24 rfl rfl ?_
  subst hR_24_1
  subst hT_24
  subst hR_21_1
  subst hT_21
  subst hT_8
  have e : f_X7_inKind t y h un = (((f_X1_keep (f_X1_hold y t) ((f_X6_exitInKind t h un).1)).1), ((f_X6_exitInKind t h un).2), (sHs_count (sHs_first (f_X1_hold y t) (gHs_first ((f_X1_keep (f_X1_hold y t) ((f_X6_exitInKind t h un).1)).2))) (gHs_count ((f_X1_keep (f_X1_hold y t) ((f_X6_exitInKind t h un).1)).2)))) := by rfl
  rw [e] at hret
  exact hret _ _ dX7_inKind_27

noncomputable def f_X7_quote (t : zTr) (y : zHs) (q : Int32) : Int32 × zTr × zHs :=
  let T_8 : zHs := (f_X1_hold y t)
  let T_20 : zTr := ((f_X6_changeQuote t q).2)
  let R_20_1 : Int32 := ((f_X6_changeQuote t q).1)
  let T_23 : zHs := ((f_X1_keep T_8 R_20_1).2)
  let R_23_1 : Int32 := ((f_X1_keep T_8 R_20_1).1)
  (R_23_1, T_20, (sHs_count (sHs_first T_8 (gHs_first T_23)) (gHs_count T_23)))
set_option maxHeartbeats 4000000 in
set_option maxRecDepth 100000 in
theorem c_X7_quote (l : Launch) (D : va_G) (cy : Nat → ClassId) (x0 x1 x2 d0 d1 p0 p1 h0 h1 : Nat) (a b : Nat → Nat) (hs sl : Nat → Nat → Nat) (q : Int32) (t : zTr) (y : zHs) (hf : gHs_first y < 7) (hc : gHs_count y ≤ 6) (hb : gOd_n (gTr_bu t) ≤ 20) (hl : gOd_n (gTr_le t) ≤ 20) : zC l yX7_quote (zW yX7_quote cX7_quote 2 (Option.some Jvm.ClassFile.FieldType.int)) { frames := 4, cells := 0, slots := 0, locals := 89 } D cy [.ref x0, .int q] (([(WX0 x0 x1 x2 a b d0 p0 h0), (WT cy a t), (WHo cy h0 h1 hs (gHs_first y) (gHs_count y))] : List va_W) ++ WHL cy hs (gHs_st y)).flatten (some (.int ((f_X7_quote t y q).1))) (([(WX0 x0 x1 x2 a b d0 p0 h0), (WT cy a ((f_X7_quote t y q).2.1)), (WHo cy h0 h1 hs (gHs_first ((f_X7_quote t y q).2.2)) (gHs_count ((f_X7_quote t y q).2.2)))] : List va_W) ++ WHL cy hs (gHs_st ((f_X7_quote t y q).2.2))).flatten := by
  refine zC_of rfl (Nat.le_of_ble_eq_true rfl) (zOk_i _) (fun E C hret => ?_)
  show zJ E 2 0 0 (([(WX0 x0 x1 x2 a b d0 p0 h0), (WT cy a t), (WHo cy h0 h1 hs (gHs_first y) (gHs_count y))] : List va_W) ++ WHL cy hs (gHs_st y)).flatten 0 [(0, .ref x0), (1, .int q)] []
  refine zj_aload_n C dX7_quote_0 0 rfl ?_
  refine zj_get C 0 7 4 (v := .ref h0) inZ7 rfl rfl (by decide) tg_281 rfl dX7_quote_1 ?_
  refine zj_aload_n C dX7_quote_4 0 rfl ?_
  refine zj_get C 0 7 0 (v := .ref (a 0)) inZ7 rfl rfl (by decide) tg_277 rfl dX7_quote_5 ?_
  have M_8 := c_X1_hold l D cy h0 h1 hs a  y t hf hc hb hl
  obtain ⟨T_8, hT_8⟩ : ∃ g : zHs, g = (f_X1_hold y t) := ⟨_, rfl⟩
  rw [← hT_8] at M_8
  refine zj_callVF C (nn := 146) (Bs' := (([(WX0 x0 x1 x2 a b d0 p0 h0), (WT cy a t), (WHo cy h0 h1 hs (gHs_first T_8) (gHs_count T_8))] : List va_W) ++ WHL cy hs (gHs_st T_8))) (st := []) (st1 := []) ([(WHo cy h0 h1 hs (gHs_first y) (gHs_count y)), (WT cy a t)] ++ WHL cy hs (gHs_st y)) ([(WHo cy h0 h1 hs (gHs_first T_8) (gHs_count T_8)), (WT cy a t)] ++ WHL cy hs (gHs_st T_8)) [2, 1, 3, 4, 5, 6, 7, 8, 9] 0 1 (M_8) rfl rfl (zg_V tg_307 tg_304 tg_305 tg_306 tg_8) ⟨rfl, hdZ_X1_hold⟩ ⟨rfl, rfl⟩ ⟨by decide, by decide⟩ rfl rfl rfl (by decide) ⟨rfl, rfl⟩ rfl rfl rfl (Nat.le_of_ble_eq_true rfl) dX7_quote_8 rfl rfl ?_
  have hf8 : gHs_first T_8 < 7 := by { rw [hT_8]; exact hf }; have hc8 : gHs_count T_8 ≤ 6 := by { rw [hT_8]; exact hc }
  refine zj_aload_n C dX7_quote_11 0 rfl ?_
  refine zj_get C 0 7 4 (v := .ref h0) inZ7 rfl rfl (by decide) tg_281 rfl dX7_quote_12 ?_
  refine zj_aload_n C dX7_quote_15 0 rfl ?_
  refine zj_get C 0 7 0 (v := .ref (a 0)) inZ7 rfl rfl (by decide) tg_277 rfl dX7_quote_16 ?_
  refine zj_iload_n C dX7_quote_19 1 rfl ?_
  have M_20 := c_X6_changeQuote l D cy a q t 
  obtain ⟨T_20, hT_20⟩ : ∃ g : zTr, g = ((f_X6_changeQuote t q).2) := ⟨_, rfl⟩
  rw [← hT_20] at M_20
  obtain ⟨R_20_1, hR_20_1⟩ : ∃ g : Int32, g = ((f_X6_changeQuote t q).1) := ⟨_, rfl⟩
  rw [← hR_20_1] at M_20
  refine zj_callVF1 C (nn := 18) (Bs' := (([(WX0 x0 x1 x2 a b d0 p0 h0), (WT cy a T_20), (WHo cy h0 h1 hs (gHs_first T_8) (gHs_count T_8))] : List va_W) ++ WHL cy hs (gHs_st T_8))) (st := [.ref h0]) (st1 := [.int R_20_1, .ref h0]) 1 0 6 (M_20) (zg_V tg_504 tg_501 tg_502 tg_503 tg_2) ⟨rfl, hdZ_X6_changeQuote⟩ ⟨rfl, rfl⟩ ⟨by decide, by decide⟩ rfl rfl rfl ⟨rfl, rfl⟩ rfl rfl (Nat.le_of_ble_eq_true rfl) dX7_quote_20 rfl rfl ?_
  have M_23 := c_X1_keep l D cy h0 h1 hs R_20_1 T_8 hf8 hc8
  obtain ⟨T_23, hT_23⟩ : ∃ g : zHs, g = ((f_X1_keep T_8 R_20_1).2) := ⟨_, rfl⟩
  rw [← hT_23] at M_23
  obtain ⟨R_23_1, hR_23_1⟩ : ∃ g : Int32, g = ((f_X1_keep T_8 R_20_1).1) := ⟨_, rfl⟩
  rw [← hR_23_1] at M_23
  refine zj_callVF1 C (nn := 2) (Bs' := (([(WX0 x0 x1 x2 a b d0 p0 h0), (WT cy a T_20), (WHo cy h0 h1 hs (gHs_first T_23) (gHs_count T_23))] : List va_W) ++ WHL cy hs (gHs_st T_8))) (st := []) (st1 := [.int R_23_1]) 2 0 1 (M_23) (zg_V tg_337 tg_334 tg_335 tg_336 tg_8) ⟨rfl, hdZ_X1_keep⟩ ⟨rfl, rfl⟩ ⟨by decide, by decide⟩ rfl rfl rfl ⟨rfl, rfl⟩ rfl rfl (Nat.le_of_ble_eq_true rfl) dX7_quote_23 rfl rfl ?_
  subst hR_23_1
  subst hT_23
  subst hR_20_1
  subst hT_20
  subst hT_8
  have e : f_X7_quote t y q = (((f_X1_keep (f_X1_hold y t) ((f_X6_changeQuote t q).1)).1), ((f_X6_changeQuote t q).2), (sHs_count (sHs_first (f_X1_hold y t) (gHs_first ((f_X1_keep (f_X1_hold y t) ((f_X6_changeQuote t q).1)).2))) (gHs_count ((f_X1_keep (f_X1_hold y t) ((f_X6_changeQuote t q).1)).2)))) := by rfl
  rw [e] at hret
  exact hret _ _ dX7_quote_26

noncomputable def f_X7_trade (t : zTr) (y : zHs) (bought : Int32) : Int32 × zTr × zHs :=
  let T_8 : zHs := (f_X1_hold y t)
  let T_20 : zTr := ((f_X6_tradeLots t bought).2)
  let R_20_1 : Int32 := ((f_X6_tradeLots t bought).1)
  let T_23 : zHs := ((f_X1_keep T_8 R_20_1).2)
  let R_23_1 : Int32 := ((f_X1_keep T_8 R_20_1).1)
  (R_23_1, T_20, (sHs_count (sHs_first T_8 (gHs_first T_23)) (gHs_count T_23)))
set_option maxHeartbeats 4000000 in
set_option maxRecDepth 100000 in
theorem c_X7_trade (l : Launch) (D : va_G) (cy : Nat → ClassId) (x0 x1 x2 d0 d1 p0 p1 h0 h1 : Nat) (a b : Nat → Nat) (hs sl : Nat → Nat → Nat) (bought : Int32) (t : zTr) (y : zHs) (hf : gHs_first y < 7) (hc : gHs_count y ≤ 6) (hb : gOd_n (gTr_bu t) ≤ 20) (hl : gOd_n (gTr_le t) ≤ 20) : zC l yX7_trade (zW yX7_trade cX7_trade 2 (Option.some Jvm.ClassFile.FieldType.int)) { frames := 4, cells := 0, slots := 0, locals := 89 } D cy [.ref x0, .int bought] (([(WX0 x0 x1 x2 a b d0 p0 h0), (WT cy a t), (WHo cy h0 h1 hs (gHs_first y) (gHs_count y))] : List va_W) ++ WHL cy hs (gHs_st y)).flatten (some (.int ((f_X7_trade t y bought).1))) (([(WX0 x0 x1 x2 a b d0 p0 h0), (WT cy a ((f_X7_trade t y bought).2.1)), (WHo cy h0 h1 hs (gHs_first ((f_X7_trade t y bought).2.2)) (gHs_count ((f_X7_trade t y bought).2.2)))] : List va_W) ++ WHL cy hs (gHs_st ((f_X7_trade t y bought).2.2))).flatten := by
  refine zC_of rfl (Nat.le_of_ble_eq_true rfl) (zOk_i _) (fun E C hret => ?_)
  show zJ E 2 0 0 (([(WX0 x0 x1 x2 a b d0 p0 h0), (WT cy a t), (WHo cy h0 h1 hs (gHs_first y) (gHs_count y))] : List va_W) ++ WHL cy hs (gHs_st y)).flatten 0 [(0, .ref x0), (1, .int bought)] []
  refine zj_aload_n C dX7_trade_0 0 rfl ?_
  refine zj_get C 0 7 4 (v := .ref h0) inZ7 rfl rfl (by decide) tg_281 rfl dX7_trade_1 ?_
  refine zj_aload_n C dX7_trade_4 0 rfl ?_
  refine zj_get C 0 7 0 (v := .ref (a 0)) inZ7 rfl rfl (by decide) tg_277 rfl dX7_trade_5 ?_
  have M_8 := c_X1_hold l D cy h0 h1 hs a  y t hf hc hb hl
  obtain ⟨T_8, hT_8⟩ : ∃ g : zHs, g = (f_X1_hold y t) := ⟨_, rfl⟩
  rw [← hT_8] at M_8
  refine zj_callVF C (nn := 146) (Bs' := (([(WX0 x0 x1 x2 a b d0 p0 h0), (WT cy a t), (WHo cy h0 h1 hs (gHs_first T_8) (gHs_count T_8))] : List va_W) ++ WHL cy hs (gHs_st T_8))) (st := []) (st1 := []) ([(WHo cy h0 h1 hs (gHs_first y) (gHs_count y)), (WT cy a t)] ++ WHL cy hs (gHs_st y)) ([(WHo cy h0 h1 hs (gHs_first T_8) (gHs_count T_8)), (WT cy a t)] ++ WHL cy hs (gHs_st T_8)) [2, 1, 3, 4, 5, 6, 7, 8, 9] 0 1 (M_8) rfl rfl (zg_V tg_307 tg_304 tg_305 tg_306 tg_8) ⟨rfl, hdZ_X1_hold⟩ ⟨rfl, rfl⟩ ⟨by decide, by decide⟩ rfl rfl rfl (by decide) ⟨rfl, rfl⟩ rfl rfl rfl (Nat.le_of_ble_eq_true rfl) dX7_trade_8 rfl rfl ?_
  have hf8 : gHs_first T_8 < 7 := by { rw [hT_8]; exact hf }; have hc8 : gHs_count T_8 ≤ 6 := by { rw [hT_8]; exact hc }
  refine zj_aload_n C dX7_trade_11 0 rfl ?_
  refine zj_get C 0 7 4 (v := .ref h0) inZ7 rfl rfl (by decide) tg_281 rfl dX7_trade_12 ?_
  refine zj_aload_n C dX7_trade_15 0 rfl ?_
  refine zj_get C 0 7 0 (v := .ref (a 0)) inZ7 rfl rfl (by decide) tg_277 rfl dX7_trade_16 ?_
  refine zj_iload_n C dX7_trade_19 1 rfl ?_
  have M_20 := c_X6_tradeLots l D cy a bought t 
  obtain ⟨T_20, hT_20⟩ : ∃ g : zTr, g = ((f_X6_tradeLots t bought).2) := ⟨_, rfl⟩
  rw [← hT_20] at M_20
  obtain ⟨R_20_1, hR_20_1⟩ : ∃ g : Int32, g = ((f_X6_tradeLots t bought).1) := ⟨_, rfl⟩
  rw [← hR_20_1] at M_20
  refine zj_callVF1 C (nn := 18) (Bs' := (([(WX0 x0 x1 x2 a b d0 p0 h0), (WT cy a T_20), (WHo cy h0 h1 hs (gHs_first T_8) (gHs_count T_8))] : List va_W) ++ WHL cy hs (gHs_st T_8))) (st := [.ref h0]) (st1 := [.int R_20_1, .ref h0]) 1 0 6 (M_20) (zg_V tg_512 tg_509 tg_510 tg_511 tg_2) ⟨rfl, hdZ_X6_tradeLots⟩ ⟨rfl, rfl⟩ ⟨by decide, by decide⟩ rfl rfl rfl ⟨rfl, rfl⟩ rfl rfl (Nat.le_of_ble_eq_true rfl) dX7_trade_20 rfl rfl ?_
  have M_23 := c_X1_keep l D cy h0 h1 hs R_20_1 T_8 hf8 hc8
  obtain ⟨T_23, hT_23⟩ : ∃ g : zHs, g = ((f_X1_keep T_8 R_20_1).2) := ⟨_, rfl⟩
  rw [← hT_23] at M_23
  obtain ⟨R_23_1, hR_23_1⟩ : ∃ g : Int32, g = ((f_X1_keep T_8 R_20_1).1) := ⟨_, rfl⟩
  rw [← hR_23_1] at M_23
  refine zj_callVF1 C (nn := 2) (Bs' := (([(WX0 x0 x1 x2 a b d0 p0 h0), (WT cy a T_20), (WHo cy h0 h1 hs (gHs_first T_23) (gHs_count T_23))] : List va_W) ++ WHL cy hs (gHs_st T_8))) (st := []) (st1 := [.int R_23_1]) 2 0 1 (M_23) (zg_V tg_337 tg_334 tg_335 tg_336 tg_8) ⟨rfl, hdZ_X1_keep⟩ ⟨rfl, rfl⟩ ⟨by decide, by decide⟩ rfl rfl rfl ⟨rfl, rfl⟩ rfl rfl (Nat.le_of_ble_eq_true rfl) dX7_trade_23 rfl rfl ?_
  subst hR_23_1
  subst hT_23
  subst hR_20_1
  subst hT_20
  subst hT_8
  have e : f_X7_trade t y bought = (((f_X1_keep (f_X1_hold y t) ((f_X6_tradeLots t bought).1)).1), ((f_X6_tradeLots t bought).2), (sHs_count (sHs_first (f_X1_hold y t) (gHs_first ((f_X1_keep (f_X1_hold y t) ((f_X6_tradeLots t bought).1)).2))) (gHs_count ((f_X1_keep (f_X1_hold y t) ((f_X6_tradeLots t bought).1)).2)))) := by rfl
  rw [e] at hret
  exact hret _ _ dX7_trade_26

noncomputable def f_X7_income (t : zTr) (y : zHs) (am : Int32) : Int32 × zTr × zHs :=
  let T_8 : zHs := (f_X1_hold y t)
  let T_20 : zTr := ((f_X6_takeIncome t am).2)
  let R_20_1 : Int32 := ((f_X6_takeIncome t am).1)
  let T_23 : zHs := ((f_X1_keep T_8 R_20_1).2)
  let R_23_1 : Int32 := ((f_X1_keep T_8 R_20_1).1)
  (R_23_1, T_20, (sHs_count (sHs_first T_8 (gHs_first T_23)) (gHs_count T_23)))
set_option maxHeartbeats 4000000 in
set_option maxRecDepth 100000 in
theorem c_X7_income (l : Launch) (D : va_G) (cy : Nat → ClassId) (x0 x1 x2 d0 d1 p0 p1 h0 h1 : Nat) (a b : Nat → Nat) (hs sl : Nat → Nat → Nat) (am : Int32) (t : zTr) (y : zHs) (hf : gHs_first y < 7) (hc : gHs_count y ≤ 6) (hb : gOd_n (gTr_bu t) ≤ 20) (hl : gOd_n (gTr_le t) ≤ 20) : zC l yX7_income (zW yX7_income cX7_income 2 (Option.some Jvm.ClassFile.FieldType.int)) { frames := 4, cells := 0, slots := 0, locals := 89 } D cy [.ref x0, .int am] (([(WX0 x0 x1 x2 a b d0 p0 h0), (WT cy a t), (WHo cy h0 h1 hs (gHs_first y) (gHs_count y))] : List va_W) ++ WHL cy hs (gHs_st y)).flatten (some (.int ((f_X7_income t y am).1))) (([(WX0 x0 x1 x2 a b d0 p0 h0), (WT cy a ((f_X7_income t y am).2.1)), (WHo cy h0 h1 hs (gHs_first ((f_X7_income t y am).2.2)) (gHs_count ((f_X7_income t y am).2.2)))] : List va_W) ++ WHL cy hs (gHs_st ((f_X7_income t y am).2.2))).flatten := by
  refine zC_of rfl (Nat.le_of_ble_eq_true rfl) (zOk_i _) (fun E C hret => ?_)
  show zJ E 2 0 0 (([(WX0 x0 x1 x2 a b d0 p0 h0), (WT cy a t), (WHo cy h0 h1 hs (gHs_first y) (gHs_count y))] : List va_W) ++ WHL cy hs (gHs_st y)).flatten 0 [(0, .ref x0), (1, .int am)] []
  refine zj_aload_n C dX7_income_0 0 rfl ?_
  refine zj_get C 0 7 4 (v := .ref h0) inZ7 rfl rfl (by decide) tg_281 rfl dX7_income_1 ?_
  refine zj_aload_n C dX7_income_4 0 rfl ?_
  refine zj_get C 0 7 0 (v := .ref (a 0)) inZ7 rfl rfl (by decide) tg_277 rfl dX7_income_5 ?_
  have M_8 := c_X1_hold l D cy h0 h1 hs a  y t hf hc hb hl
  obtain ⟨T_8, hT_8⟩ : ∃ g : zHs, g = (f_X1_hold y t) := ⟨_, rfl⟩
  rw [← hT_8] at M_8
  refine zj_callVF C (nn := 146) (Bs' := (([(WX0 x0 x1 x2 a b d0 p0 h0), (WT cy a t), (WHo cy h0 h1 hs (gHs_first T_8) (gHs_count T_8))] : List va_W) ++ WHL cy hs (gHs_st T_8))) (st := []) (st1 := []) ([(WHo cy h0 h1 hs (gHs_first y) (gHs_count y)), (WT cy a t)] ++ WHL cy hs (gHs_st y)) ([(WHo cy h0 h1 hs (gHs_first T_8) (gHs_count T_8)), (WT cy a t)] ++ WHL cy hs (gHs_st T_8)) [2, 1, 3, 4, 5, 6, 7, 8, 9] 0 1 (M_8) rfl rfl (zg_V tg_307 tg_304 tg_305 tg_306 tg_8) ⟨rfl, hdZ_X1_hold⟩ ⟨rfl, rfl⟩ ⟨by decide, by decide⟩ rfl rfl rfl (by decide) ⟨rfl, rfl⟩ rfl rfl rfl (Nat.le_of_ble_eq_true rfl) dX7_income_8 rfl rfl ?_
  have hf8 : gHs_first T_8 < 7 := by { rw [hT_8]; exact hf }; have hc8 : gHs_count T_8 ≤ 6 := by { rw [hT_8]; exact hc }
  refine zj_aload_n C dX7_income_11 0 rfl ?_
  refine zj_get C 0 7 4 (v := .ref h0) inZ7 rfl rfl (by decide) tg_281 rfl dX7_income_12 ?_
  refine zj_aload_n C dX7_income_15 0 rfl ?_
  refine zj_get C 0 7 0 (v := .ref (a 0)) inZ7 rfl rfl (by decide) tg_277 rfl dX7_income_16 ?_
  refine zj_iload_n C dX7_income_19 1 rfl ?_
  have M_20 := c_X6_takeIncome l D cy a am t 
  obtain ⟨T_20, hT_20⟩ : ∃ g : zTr, g = ((f_X6_takeIncome t am).2) := ⟨_, rfl⟩
  rw [← hT_20] at M_20
  obtain ⟨R_20_1, hR_20_1⟩ : ∃ g : Int32, g = ((f_X6_takeIncome t am).1) := ⟨_, rfl⟩
  rw [← hR_20_1] at M_20
  refine zj_callVF1 C (nn := 18) (Bs' := (([(WX0 x0 x1 x2 a b d0 p0 h0), (WT cy a T_20), (WHo cy h0 h1 hs (gHs_first T_8) (gHs_count T_8))] : List va_W) ++ WHL cy hs (gHs_st T_8))) (st := [.ref h0]) (st1 := [.int R_20_1, .ref h0]) 1 0 6 (M_20) (zg_V tg_520 tg_517 tg_518 tg_519 tg_2) ⟨rfl, hdZ_X6_takeIncome⟩ ⟨rfl, rfl⟩ ⟨by decide, by decide⟩ rfl rfl rfl ⟨rfl, rfl⟩ rfl rfl (Nat.le_of_ble_eq_true rfl) dX7_income_20 rfl rfl ?_
  have M_23 := c_X1_keep l D cy h0 h1 hs R_20_1 T_8 hf8 hc8
  obtain ⟨T_23, hT_23⟩ : ∃ g : zHs, g = ((f_X1_keep T_8 R_20_1).2) := ⟨_, rfl⟩
  rw [← hT_23] at M_23
  obtain ⟨R_23_1, hR_23_1⟩ : ∃ g : Int32, g = ((f_X1_keep T_8 R_20_1).1) := ⟨_, rfl⟩
  rw [← hR_23_1] at M_23
  refine zj_callVF1 C (nn := 2) (Bs' := (([(WX0 x0 x1 x2 a b d0 p0 h0), (WT cy a T_20), (WHo cy h0 h1 hs (gHs_first T_23) (gHs_count T_23))] : List va_W) ++ WHL cy hs (gHs_st T_8))) (st := []) (st1 := [.int R_23_1]) 2 0 1 (M_23) (zg_V tg_337 tg_334 tg_335 tg_336 tg_8) ⟨rfl, hdZ_X1_keep⟩ ⟨rfl, rfl⟩ ⟨by decide, by decide⟩ rfl rfl rfl ⟨rfl, rfl⟩ rfl rfl (Nat.le_of_ble_eq_true rfl) dX7_income_23 rfl rfl ?_
  subst hR_23_1
  subst hT_23
  subst hR_20_1
  subst hT_20
  subst hT_8
  have e : f_X7_income t y am = (((f_X1_keep (f_X1_hold y t) ((f_X6_takeIncome t am).1)).1), ((f_X6_takeIncome t am).2), (sHs_count (sHs_first (f_X1_hold y t) (gHs_first ((f_X1_keep (f_X1_hold y t) ((f_X6_takeIncome t am).1)).2))) (gHs_count ((f_X1_keep (f_X1_hold y t) ((f_X6_takeIncome t am).1)).2)))) := by rfl
  rw [e] at hret
  exact hret _ _ dX7_income_26

noncomputable def f_X7_pay (t : zTr) (y : zHs) : Int32 × zTr × zHs :=
  let T_8 : zHs := (f_X1_hold y t)
  let T_19 : zTr := ((f_X6_payIncome t).2)
  let R_19_1 : Int32 := ((f_X6_payIncome t).1)
  let T_22 : zHs := ((f_X1_keep T_8 R_19_1).2)
  let R_22_1 : Int32 := ((f_X1_keep T_8 R_19_1).1)
  (R_22_1, T_19, (sHs_count (sHs_first T_8 (gHs_first T_22)) (gHs_count T_22)))
set_option maxHeartbeats 4000000 in
set_option maxRecDepth 100000 in
theorem c_X7_pay (l : Launch) (D : va_G) (cy : Nat → ClassId) (x0 x1 x2 d0 d1 p0 p1 h0 h1 : Nat) (a b : Nat → Nat) (hs sl : Nat → Nat → Nat)  (t : zTr) (y : zHs) (hf : gHs_first y < 7) (hc : gHs_count y ≤ 6) (hb : gOd_n (gTr_bu t) ≤ 20) (hl : gOd_n (gTr_le t) ≤ 20) : zC l yX7_pay (zW yX7_pay cX7_pay 1 (Option.some Jvm.ClassFile.FieldType.int)) { frames := 4, cells := 0, slots := 0, locals := 97 } D cy [.ref x0] (([(WX0 x0 x1 x2 a b d0 p0 h0), (WT cy a t), (WHo cy h0 h1 hs (gHs_first y) (gHs_count y))] : List va_W) ++ WHL cy hs (gHs_st y)).flatten (some (.int ((f_X7_pay t y).1))) (([(WX0 x0 x1 x2 a b d0 p0 h0), (WT cy a ((f_X7_pay t y).2.1)), (WHo cy h0 h1 hs (gHs_first ((f_X7_pay t y).2.2)) (gHs_count ((f_X7_pay t y).2.2)))] : List va_W) ++ WHL cy hs (gHs_st ((f_X7_pay t y).2.2))).flatten := by
  refine zC_of rfl (Nat.le_of_ble_eq_true rfl) (zOk_i _) (fun E C hret => ?_)
  show zJ E 1 0 0 (([(WX0 x0 x1 x2 a b d0 p0 h0), (WT cy a t), (WHo cy h0 h1 hs (gHs_first y) (gHs_count y))] : List va_W) ++ WHL cy hs (gHs_st y)).flatten 0 [(0, .ref x0)] []
  refine zj_aload_n C dX7_pay_0 0 rfl ?_
  refine zj_get C 0 7 4 (v := .ref h0) inZ7 rfl rfl (by decide) tg_281 rfl dX7_pay_1 ?_
  refine zj_aload_n C dX7_pay_4 0 rfl ?_
  refine zj_get C 0 7 0 (v := .ref (a 0)) inZ7 rfl rfl (by decide) tg_277 rfl dX7_pay_5 ?_
  have M_8 := c_X1_hold l D cy h0 h1 hs a  y t hf hc hb hl
  obtain ⟨T_8, hT_8⟩ : ∃ g : zHs, g = (f_X1_hold y t) := ⟨_, rfl⟩
  rw [← hT_8] at M_8
  refine zj_callVF C (nn := 146) (Bs' := (([(WX0 x0 x1 x2 a b d0 p0 h0), (WT cy a t), (WHo cy h0 h1 hs (gHs_first T_8) (gHs_count T_8))] : List va_W) ++ WHL cy hs (gHs_st T_8))) (st := []) (st1 := []) ([(WHo cy h0 h1 hs (gHs_first y) (gHs_count y)), (WT cy a t)] ++ WHL cy hs (gHs_st y)) ([(WHo cy h0 h1 hs (gHs_first T_8) (gHs_count T_8)), (WT cy a t)] ++ WHL cy hs (gHs_st T_8)) [2, 1, 3, 4, 5, 6, 7, 8, 9] 0 1 (M_8) rfl rfl (zg_V tg_307 tg_304 tg_305 tg_306 tg_8) ⟨rfl, hdZ_X1_hold⟩ ⟨rfl, rfl⟩ ⟨by decide, by decide⟩ rfl rfl rfl (by decide) ⟨rfl, rfl⟩ rfl rfl rfl (Nat.le_of_ble_eq_true rfl) dX7_pay_8 rfl rfl ?_
  have hf8 : gHs_first T_8 < 7 := by { rw [hT_8]; exact hf }; have hc8 : gHs_count T_8 ≤ 6 := by { rw [hT_8]; exact hc }
  refine zj_aload_n C dX7_pay_11 0 rfl ?_
  refine zj_get C 0 7 4 (v := .ref h0) inZ7 rfl rfl (by decide) tg_281 rfl dX7_pay_12 ?_
  refine zj_aload_n C dX7_pay_15 0 rfl ?_
  refine zj_get C 0 7 0 (v := .ref (a 0)) inZ7 rfl rfl (by decide) tg_277 rfl dX7_pay_16 ?_
  have M_19 := c_X6_payIncome l D cy a  t 
  obtain ⟨T_19, hT_19⟩ : ∃ g : zTr, g = ((f_X6_payIncome t).2) := ⟨_, rfl⟩
  rw [← hT_19] at M_19
  obtain ⟨R_19_1, hR_19_1⟩ : ∃ g : Int32, g = ((f_X6_payIncome t).1) := ⟨_, rfl⟩
  rw [← hR_19_1] at M_19
  refine zj_callVF1 C (nn := 18) (Bs' := (([(WX0 x0 x1 x2 a b d0 p0 h0), (WT cy a T_19), (WHo cy h0 h1 hs (gHs_first T_8) (gHs_count T_8))] : List va_W) ++ WHL cy hs (gHs_st T_8))) (st := [.ref h0]) (st1 := [.int R_19_1, .ref h0]) 1 0 6 (M_19) (zg_V tg_528 tg_525 tg_526 tg_527 tg_2) ⟨rfl, hdZ_X6_payIncome⟩ ⟨rfl, rfl⟩ ⟨by decide, by decide⟩ rfl rfl rfl ⟨rfl, rfl⟩ rfl rfl (Nat.le_of_ble_eq_true rfl) dX7_pay_19 rfl rfl ?_
  have M_22 := c_X1_keep l D cy h0 h1 hs R_19_1 T_8 hf8 hc8
  obtain ⟨T_22, hT_22⟩ : ∃ g : zHs, g = ((f_X1_keep T_8 R_19_1).2) := ⟨_, rfl⟩
  rw [← hT_22] at M_22
  obtain ⟨R_22_1, hR_22_1⟩ : ∃ g : Int32, g = ((f_X1_keep T_8 R_19_1).1) := ⟨_, rfl⟩
  rw [← hR_22_1] at M_22
  refine zj_callVF1 C (nn := 2) (Bs' := (([(WX0 x0 x1 x2 a b d0 p0 h0), (WT cy a T_19), (WHo cy h0 h1 hs (gHs_first T_22) (gHs_count T_22))] : List va_W) ++ WHL cy hs (gHs_st T_8))) (st := []) (st1 := [.int R_22_1]) 2 0 1 (M_22) (zg_V tg_337 tg_334 tg_335 tg_336 tg_8) ⟨rfl, hdZ_X1_keep⟩ ⟨rfl, rfl⟩ ⟨by decide, by decide⟩ rfl rfl rfl ⟨rfl, rfl⟩ rfl rfl (Nat.le_of_ble_eq_true rfl) dX7_pay_22 rfl rfl ?_
  subst hR_22_1
  subst hT_22
  subst hR_19_1
  subst hT_19
  subst hT_8
  have e : f_X7_pay t y = (((f_X1_keep (f_X1_hold y t) ((f_X6_payIncome t).1)).1), ((f_X6_payIncome t).2), (sHs_count (sHs_first (f_X1_hold y t) (gHs_first ((f_X1_keep (f_X1_hold y t) ((f_X6_payIncome t).1)).2))) (gHs_count ((f_X1_keep (f_X1_hold y t) ((f_X6_payIncome t).1)).2)))) := by rfl
  rw [e] at hret
  exact hret _ _ dX7_pay_25

noncomputable def f_X7_endDay (t : zTr) (x : zDd) (y : zHs) : Int32 × zTr × zDd × zHs :=
  let T_8 : zHs := (f_X1_hold y t)
  let T_23 : zDd := ((f_X0_run x t).2.1)
  let T_23_1 : zTr := ((f_X0_run x t).2.2)
  let R_23_2 : Int32 := ((f_X0_run x t).1)
  let T_26 : zHs := ((f_X1_keep T_8 R_23_2).2)
  let R_26_1 : Int32 := ((f_X1_keep T_8 R_23_2).1)
  (R_26_1, T_23_1, T_23, (sHs_count (sHs_first T_8 (gHs_first T_26)) (gHs_count T_26)))
set_option maxHeartbeats 4000000 in
set_option maxRecDepth 100000 in
theorem c_X7_endDay (l : Launch) (D : va_G) (cy : Nat → ClassId) (x0 x1 x2 d0 d1 p0 p1 h0 h1 : Nat) (a b : Nat → Nat) (hs sl : Nat → Nat → Nat)  (t : zTr) (x : zDd) (y : zHs) (hf : gHs_first y < 7) (hc : gHs_count y ≤ 6) (hb : gOd_n (gTr_bu t) ≤ 20) (hl : gOd_n (gTr_le t) ≤ 20) (hvb : ∀ i, i < gOd_n (gTr_bu t) → vp_in (gOd_ho (gTr_bu t) i) 6) (hvl : ∀ i, i < gOd_n (gTr_le t) → vp_in (gOd_ho (gTr_le t) i) 6) : zC l yX7_endDay (zW yX7_endDay cX7_endDay 1 (Option.some Jvm.ClassFile.FieldType.int)) { frames := 5, cells := 0, slots := 0, locals := 127 } D cy [.ref x0] (([(WX0 x0 x1 x2 a b d0 p0 h0), (WT cy a t), (WD cy d0 d1 x), (WHo cy h0 h1 hs (gHs_first y) (gHs_count y))] : List va_W) ++ WHL cy hs (gHs_st y)).flatten (some (.int ((f_X7_endDay t x y).1))) (([(WX0 x0 x1 x2 a b d0 p0 h0), (WT cy a ((f_X7_endDay t x y).2.1)), (WD cy d0 d1 ((f_X7_endDay t x y).2.2.1)), (WHo cy h0 h1 hs (gHs_first ((f_X7_endDay t x y).2.2.2)) (gHs_count ((f_X7_endDay t x y).2.2.2)))] : List va_W) ++ WHL cy hs (gHs_st ((f_X7_endDay t x y).2.2.2))).flatten := by
  refine zC_of rfl (Nat.le_of_ble_eq_true rfl) (zOk_i _) (fun E C hret => ?_)
  show zJ E 1 0 0 (([(WX0 x0 x1 x2 a b d0 p0 h0), (WT cy a t), (WD cy d0 d1 x), (WHo cy h0 h1 hs (gHs_first y) (gHs_count y))] : List va_W) ++ WHL cy hs (gHs_st y)).flatten 0 [(0, .ref x0)] []
  refine zj_aload_n C dX7_endDay_0 0 rfl ?_
  refine zj_get C 0 7 4 (v := .ref h0) inZ7 rfl rfl (by decide) tg_281 rfl dX7_endDay_1 ?_
  refine zj_aload_n C dX7_endDay_4 0 rfl ?_
  refine zj_get C 0 7 0 (v := .ref (a 0)) inZ7 rfl rfl (by decide) tg_277 rfl dX7_endDay_5 ?_
  have M_8 := c_X1_hold l D cy h0 h1 hs a  y t hf hc hb hl
  obtain ⟨T_8, hT_8⟩ : ∃ g : zHs, g = (f_X1_hold y t) := ⟨_, rfl⟩
  rw [← hT_8] at M_8
  refine zj_callVF C (nn := 146) (Bs' := (([(WX0 x0 x1 x2 a b d0 p0 h0), (WT cy a t), (WD cy d0 d1 x), (WHo cy h0 h1 hs (gHs_first T_8) (gHs_count T_8))] : List va_W) ++ WHL cy hs (gHs_st T_8))) (st := []) (st1 := []) ([(WHo cy h0 h1 hs (gHs_first y) (gHs_count y)), (WT cy a t)] ++ WHL cy hs (gHs_st y)) ([(WHo cy h0 h1 hs (gHs_first T_8) (gHs_count T_8)), (WT cy a t)] ++ WHL cy hs (gHs_st T_8)) [3, 1, 4, 5, 6, 7, 8, 9, 10] 0 1 (M_8) rfl rfl (zg_V tg_307 tg_304 tg_305 tg_306 tg_8) ⟨rfl, hdZ_X1_hold⟩ ⟨rfl, rfl⟩ ⟨by decide, by decide⟩ rfl rfl rfl (by decide) ⟨rfl, rfl⟩ rfl rfl rfl (Nat.le_of_ble_eq_true rfl) dX7_endDay_8 rfl rfl ?_
  have hf8 : gHs_first T_8 < 7 := by { rw [hT_8]; exact hf }; have hc8 : gHs_count T_8 ≤ 6 := by { rw [hT_8]; exact hc }
  refine zj_aload_n C dX7_endDay_11 0 rfl ?_
  refine zj_get C 0 7 4 (v := .ref h0) inZ7 rfl rfl (by decide) tg_281 rfl dX7_endDay_12 ?_
  refine zj_aload_n C dX7_endDay_15 0 rfl ?_
  refine zj_get C 0 7 2 (v := .ref d0) inZ7 rfl rfl (by decide) tg_279 rfl dX7_endDay_16 ?_
  refine zj_aload_n C dX7_endDay_19 0 rfl ?_
  refine zj_get C 0 7 0 (v := .ref (a 0)) inZ7 rfl rfl (by decide) tg_277 rfl dX7_endDay_20 ?_
  have M_23 := c_X0_run l D cy d0 d1 a  x t hb hl hvb hvl
  obtain ⟨T_23, hT_23⟩ : ∃ g : zDd, g = ((f_X0_run x t).2.1) := ⟨_, rfl⟩
  rw [← hT_23] at M_23
  obtain ⟨T_23_1, hT_23_1⟩ : ∃ g : zTr, g = ((f_X0_run x t).2.2) := ⟨_, rfl⟩
  rw [← hT_23_1] at M_23
  obtain ⟨R_23_2, hR_23_2⟩ : ∃ g : Int32, g = ((f_X0_run x t).1) := ⟨_, rfl⟩
  rw [← hR_23_2] at M_23
  refine zj_callVF C (nn := 20) (Bs' := (([(WX0 x0 x1 x2 a b d0 p0 h0), (WT cy a T_23_1), (WD cy d0 d1 T_23), (WHo cy h0 h1 hs (gHs_first T_8) (gHs_count T_8))] : List va_W) ++ WHL cy hs (gHs_st T_8))) (st := [.ref h0]) (st1 := [.int R_23_2, .ref h0]) [(WD cy d0 d1 x), (WT cy a t)] [(WD cy d0 d1 T_23), (WT cy a T_23_1)] [2, 1] 0 0 (M_23) rfl rfl (zg_V tg_424 tg_421 tg_422 tg_423 tg_6) ⟨rfl, hdZ_X0_run⟩ ⟨rfl, rfl⟩ ⟨by decide, by decide⟩ rfl rfl rfl (by decide) ⟨rfl, rfl⟩ rfl rfl rfl (Nat.le_of_ble_eq_true rfl) dX7_endDay_23 rfl rfl ?_
  have M_26 := c_X1_keep l D cy h0 h1 hs R_23_2 T_8 hf8 hc8
  obtain ⟨T_26, hT_26⟩ : ∃ g : zHs, g = ((f_X1_keep T_8 R_23_2).2) := ⟨_, rfl⟩
  rw [← hT_26] at M_26
  obtain ⟨R_26_1, hR_26_1⟩ : ∃ g : Int32, g = ((f_X1_keep T_8 R_23_2).1) := ⟨_, rfl⟩
  rw [← hR_26_1] at M_26
  refine zj_callVF1 C (nn := 2) (Bs' := (([(WX0 x0 x1 x2 a b d0 p0 h0), (WT cy a T_23_1), (WD cy d0 d1 T_23), (WHo cy h0 h1 hs (gHs_first T_26) (gHs_count T_26))] : List va_W) ++ WHL cy hs (gHs_st T_8))) (st := []) (st1 := [.int R_26_1]) 3 0 1 (M_26) (zg_V tg_337 tg_334 tg_335 tg_336 tg_8) ⟨rfl, hdZ_X1_keep⟩ ⟨rfl, rfl⟩ ⟨by decide, by decide⟩ rfl rfl rfl ⟨rfl, rfl⟩ rfl rfl (Nat.le_of_ble_eq_true rfl) dX7_endDay_26 rfl rfl ?_
  subst hR_26_1
  subst hT_26
  subst hR_23_2
  subst hT_23_1
  subst hT_23
  subst hT_8
  have e : f_X7_endDay t x y = (((f_X1_keep (f_X1_hold y t) ((f_X0_run x t).1)).1), ((f_X0_run x t).2.2), ((f_X0_run x t).2.1), (sHs_count (sHs_first (f_X1_hold y t) (gHs_first ((f_X1_keep (f_X1_hold y t) ((f_X0_run x t).1)).2))) (gHs_count ((f_X1_keep (f_X1_hold y t) ((f_X0_run x t).1)).2)))) := by rfl
  rw [e] at hret
  exact hret _ _ dX7_endDay_29
