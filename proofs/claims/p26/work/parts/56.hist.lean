noncomputable def f_X1_hold (y : zHs) (t : zTr) : zHs :=
  let T_18 : zTr := (f_X6_become ((gHs_st y) (((gHs_first y) + (gHs_count y)) % 7)) t)
  (sHs_st y (zup (gHs_st y) (((gHs_first y) + (gHs_count y)) % 7) T_18))
set_option maxHeartbeats 4000000 in
set_option maxRecDepth 100000 in
theorem c_X1_hold (l : Launch) (D : va_G) (cy : Nat → ClassId) (h0 h1 : Nat) (hs : Nat → Nat → Nat) (a : Nat → Nat)  (y : zHs) (t : zTr) (hf : gHs_first y < 7) (hc : gHs_count y ≤ 6) (hb : gOd_n (gTr_bu t) ≤ 20) (hl : gOd_n (gTr_le t) ≤ 20) : zC l yX1_hold (zW yX1_hold cX1_hold 2 (Option.none : Option Jvm.ClassFile.FieldType)) { frames := 3, cells := 0, slots := 0, locals := 68 } D cy [.ref h0, .ref (a 0)] (([(WHo cy h0 h1 hs (gHs_first y) (gHs_count y)), (WT cy a t)] : List va_W) ++ WHL cy hs (gHs_st y)).flatten none (([(WHo cy h0 h1 hs (gHs_first (f_X1_hold y t)) (gHs_count (f_X1_hold y t))), (WT cy a t)] : List va_W) ++ WHL cy hs (gHs_st (f_X1_hold y t))).flatten := by
  refine zC_of rfl (Nat.le_of_ble_eq_true rfl) zOk_v (fun E C hret => ?_)
  show zJ E 2 0 0 (([(WHo cy h0 h1 hs (gHs_first y) (gHs_count y)), (WT cy a t)] : List va_W) ++ WHL cy hs (gHs_st y)).flatten 0 [(0, .ref h0), (1, .ref (a 0))] []
  refine zj_aload_n C dX1_hold_0 0 rfl ?_
  refine zj_get C 0 1 0 (v := .ref h1) inZ1 rfl rfl (by decide) tg_266 rfl dX1_hold_1 ?_
  refine zj_aload_n C dX1_hold_4 0 rfl ?_
  refine zj_get C 0 1 1 (v := .int (nI (gHs_first y))) inZ1 rfl rfl (by decide) tg_267 rfl dX1_hold_5 ?_
  refine zj_aload_n C dX1_hold_8 0 rfl ?_
  refine zj_get C 0 1 2 (v := .int (nI (gHs_count y))) inZ1 rfl rfl (by decide) tg_268 rfl dX1_hold_9 ?_
  refine zj_iadd C dX1_hold_12 ?_
  refine zj_topi (nI ((gHs_first y) + (gHs_count y))) (nI_add _ _) ?_
  refine zj_bipush C (v := (nI 7)) dX1_hold_13 (by decide) ?_
  refine zj_irem C dX1_hold_15 (by decide) ?_
  refine zj_topi (nI (((gHs_first y) + (gHs_count y)) % 7)) (pk_rem (by omega) (by omega) (by omega)) ?_
  refine zj_aald C 1 5 (f := (fun k => some (hs k 0))) (b := (hs (((gHs_first y) + (gHs_count y)) % 7) 0)) (((gHs_first y) + (gHs_count y)) % 7) (nI_clamp (by omega)) (vp_in_nI (by omega) (by omega)) rfl rfl rfl dX1_hold_16 ?_
  refine zj_aload_n C dX1_hold_17 1 rfl ?_
  have M_18 := c_X6_become l D cy (hs (((gHs_first y) + (gHs_count y)) % 7)) a  ((gHs_st y) (((gHs_first y) + (gHs_count y)) % 7)) t hb hl
  obtain ⟨T_18, hT_18⟩ : ∃ g : zTr, g = (f_X6_become ((gHs_st y) (((gHs_first y) + (gHs_count y)) % 7)) t) := ⟨_, rfl⟩
  rw [← hT_18] at M_18
  refine zj_callVF C (nn := 36) (Bs' := (([(WHo cy h0 h1 hs (gHs_first y) (gHs_count y)), (WT cy a t)] : List va_W) ++ WHL cy hs (zup (gHs_st y) (((gHs_first y) + (gHs_count y)) % 7) T_18))) (st := []) (st1 := []) [WT cy (hs (((gHs_first y) + (gHs_count y)) % 7)) ((gHs_st y) (((gHs_first y) + (gHs_count y)) % 7)), WT cy a t] [WT cy (hs (((gHs_first y) + (gHs_count y)) % 7)) T_18, WT cy a t] [2 + (((gHs_first y) + (gHs_count y)) % 7), 1] 0 6 (M_18) rfl rfl (zg_V tg_311 tg_308 tg_309 tg_310 tg_2) ⟨rfl, hdZ_X6_become⟩ ⟨rfl, rfl⟩ ⟨by decide, by decide⟩ rfl rfl (WHL_hC (i := (((gHs_first y) + (gHs_count y)) % 7)) (by omega)) (znd2 (by omega)) ⟨rfl, rfl⟩ rfl rfl rfl (Nat.le_of_ble_eq_true rfl) dX1_hold_18 (WHL_set (i := (((gHs_first y) + (gHs_count y)) % 7)) _ (by omega)) rfl ?_
  subst hT_18
  have e : f_X1_hold y t = (sHs_st y (zup (gHs_st y) (((gHs_first y) + (gHs_count y)) % 7) (f_X6_become ((gHs_st y) (((gHs_first y) + (gHs_count y)) % 7)) t))) := by rfl
  rw [e] at hret
  exact hret _ _ dX1_hold_21

noncomputable def f_X1_keep (y : zHs) (ans : Int32) : Int32 × zHs :=
  if ans < 0 then
    if ans < 0 then
      (ans, y)
    else
      let V_40 : Nat := ((gHs_first y) + 1) % 7
      (ans, (sHs_first y V_40))
  else
    if 6 ≤ (gHs_count y) then
      if ans < 0 then
        (ans, y)
      else
        let V_40 : Nat := ((gHs_first y) + 1) % 7
        (ans, (sHs_first y V_40))
    else
      let V_20 : Nat := (gHs_count y) + 1
      (ans, (sHs_count y V_20))
set_option maxHeartbeats 4000000 in
set_option maxRecDepth 100000 in
theorem c_X1_keep (l : Launch) (D : va_G) (cy : Nat → ClassId) (h0 h1 : Nat) (hs : Nat → Nat → Nat) (ans : Int32) (y : zHs) (hf : gHs_first y < 7) (hc : gHs_count y ≤ 6) : zC l yX1_keep (zW yX1_keep cX1_keep 2 (Option.some Jvm.ClassFile.FieldType.int)) { frames := 0, cells := 0, slots := 0, locals := 0 } D cy [.ref h0, .int ans] (WHo cy h0 h1 hs (gHs_first y) (gHs_count y)) (some (.int ((f_X1_keep y ans).1))) (WHo cy h0 h1 hs (gHs_first ((f_X1_keep y ans).2)) (gHs_count ((f_X1_keep y ans).2))) := by
  refine zC_of rfl (Nat.le_of_ble_eq_true rfl) (zOk_i _) (fun E C hret => ?_)
  show zJ E 2 0 0 (WHo cy h0 h1 hs (gHs_first y) (gHs_count y)) 0 [(0, .ref h0), (1, .int ans)] []
  refine zj_iload_n C dX1_keep_0 1 rfl ?_
  refine zj_if_lt C 26 dX1_keep_1 (by decide) (fun c => ?_) (fun c => ?_)
  · have c_1 : ans < 0 := c
    refine zj_iload_n C dX1_keep_26 1 rfl ?_
    refine zj_if_lt C 43 dX1_keep_27 (by decide) (fun c => ?_) (fun c => ?_)
    · have c_27 : ans < 0 := c
      refine zj_iload_n C dX1_keep_43 1 rfl ?_
      have e : f_X1_keep y ans = (ans, y) := by refine (if_pos c_1).trans ?_; refine (if_pos c_27).trans ?_; rfl
      rw [e] at hret
      exact hret _ _ dX1_keep_44
    · have c_27 : ¬ (ans < 0) := c
      refine zj_aload_n C dX1_keep_30 0 rfl ?_
      refine zj_aload_n C dX1_keep_31 0 rfl ?_
      refine zj_get C 0 1 1 (v := .int (nI (gHs_first y))) inZ1 rfl rfl (by decide) tg_267 rfl dX1_keep_32 ?_
      refine zj_iconst C (v := (nI 1)) dX1_keep_35 (by decide) ?_
      refine zj_iadd C dX1_keep_36 ?_
      refine zj_topi (nI ((gHs_first y) + 1)) (nI_add _ _) ?_
      refine zj_bipush C (v := (nI 7)) dX1_keep_37 (by decide) ?_
      refine zj_irem C dX1_keep_39 (by decide) ?_
      refine zj_topi (nI (((gHs_first y) + 1) % 7)) (pk_rem (by omega) (by omega) (by omega)) ?_
      obtain ⟨V_40, hV_40⟩ : ∃ g : Nat, g = ((gHs_first y) + 1) % 7 := ⟨_, rfl⟩
      refine zj_topi (nI V_40) (congrArg nI hV_40.symm) ?_
      refine zj_put C 0 1 1 (v := .int (nI V_40)) (ws' := (WHo cy h0 h1 hs V_40 (gHs_count y))) tyX1 tyX1_ok nmX1 inZ1 rfl rfl (by decide) tg_267 rfl rfl rfl (Nat.le_of_ble_eq_true rfl) dX1_keep_40 rfl ?_
      refine zj_iload_n C dX1_keep_43 1 rfl ?_
      subst hV_40
      have e : f_X1_keep y ans = (ans, (sHs_first y (((gHs_first y) + 1) % 7))) := by refine (if_pos c_1).trans ?_; refine (if_neg c_27).trans ?_; rfl
      rw [e] at hret
      exact hret _ _ dX1_keep_44
  · have c_1 : ¬ (ans < 0) := c
    refine zj_aload_n C dX1_keep_4 0 rfl ?_
    refine zj_get C 0 1 2 (v := .int (nI (gHs_count y))) inZ1 rfl rfl (by decide) tg_268 rfl dX1_keep_5 ?_
    refine zj_bipush C (v := (nI 6)) dX1_keep_8 (by decide) ?_
    refine zj_icmp_ge C 26 dX1_keep_10 (by decide) (fun c => ?_) (fun c => ?_)
    · have c_10 : 6 ≤ (gHs_count y) := ((nI_leI (by omega) (by omega)).mp c)
      refine zj_iload_n C dX1_keep_26 1 rfl ?_
      refine zj_if_lt C 43 dX1_keep_27 (by decide) (fun c => ?_) (fun c => ?_)
      · have c_27 : ans < 0 := c
        refine zj_iload_n C dX1_keep_43 1 rfl ?_
        have e : f_X1_keep y ans = (ans, y) := by refine (if_neg c_1).trans ?_; refine (if_pos c_10).trans ?_; refine (if_pos c_27).trans ?_; rfl
        rw [e] at hret
        exact hret _ _ dX1_keep_44
      · have c_27 : ¬ (ans < 0) := c
        refine zj_aload_n C dX1_keep_30 0 rfl ?_
        refine zj_aload_n C dX1_keep_31 0 rfl ?_
        refine zj_get C 0 1 1 (v := .int (nI (gHs_first y))) inZ1 rfl rfl (by decide) tg_267 rfl dX1_keep_32 ?_
        refine zj_iconst C (v := (nI 1)) dX1_keep_35 (by decide) ?_
        refine zj_iadd C dX1_keep_36 ?_
        refine zj_topi (nI ((gHs_first y) + 1)) (nI_add _ _) ?_
        refine zj_bipush C (v := (nI 7)) dX1_keep_37 (by decide) ?_
        refine zj_irem C dX1_keep_39 (by decide) ?_
        refine zj_topi (nI (((gHs_first y) + 1) % 7)) (pk_rem (by omega) (by omega) (by omega)) ?_
        obtain ⟨V_40, hV_40⟩ : ∃ g : Nat, g = ((gHs_first y) + 1) % 7 := ⟨_, rfl⟩
        refine zj_topi (nI V_40) (congrArg nI hV_40.symm) ?_
        refine zj_put C 0 1 1 (v := .int (nI V_40)) (ws' := (WHo cy h0 h1 hs V_40 (gHs_count y))) tyX1 tyX1_ok nmX1 inZ1 rfl rfl (by decide) tg_267 rfl rfl rfl (Nat.le_of_ble_eq_true rfl) dX1_keep_40 rfl ?_
        refine zj_iload_n C dX1_keep_43 1 rfl ?_
        subst hV_40
        have e : f_X1_keep y ans = (ans, (sHs_first y (((gHs_first y) + 1) % 7))) := by refine (if_neg c_1).trans ?_; refine (if_pos c_10).trans ?_; refine (if_neg c_27).trans ?_; rfl
        rw [e] at hret
        exact hret _ _ dX1_keep_44
    · have c_10 : ¬ (6 ≤ (gHs_count y)) := (fun q => c ((nI_leI (by omega) (by omega)).mpr q))
      refine zj_aload_n C dX1_keep_13 0 rfl ?_
      refine zj_dup C dX1_keep_14 rfl ?_
      refine zj_get C 0 1 2 (v := .int (nI (gHs_count y))) inZ1 rfl rfl (by decide) tg_268 rfl dX1_keep_15 ?_
      refine zj_iconst C (v := (nI 1)) dX1_keep_18 (by decide) ?_
      refine zj_iadd C dX1_keep_19 ?_
      refine zj_topi (nI ((gHs_count y) + 1)) (nI_add _ _) ?_
      obtain ⟨V_20, hV_20⟩ : ∃ g : Nat, g = (gHs_count y) + 1 := ⟨_, rfl⟩
      refine zj_topi (nI V_20) (congrArg nI hV_20.symm) ?_
      refine zj_put C 0 1 2 (v := .int (nI V_20)) (ws' := (WHo cy h0 h1 hs (gHs_first y) V_20)) tyX1 tyX1_ok nmX1 inZ1 rfl rfl (by decide) tg_268 rfl rfl rfl (Nat.le_of_ble_eq_true rfl) dX1_keep_20 rfl ?_
      refine zj_goto C 43 dX1_keep_23 (by decide) ?_
      refine zj_iload_n C dX1_keep_43 1 rfl ?_
      subst hV_20
      have e : f_X1_keep y ans = (ans, (sHs_count y ((gHs_count y) + 1))) := by refine (if_neg c_1).trans ?_; refine (if_neg c_10).trans ?_; rfl
      rw [e] at hret
      exact hret _ _ dX1_keep_44

noncomputable def f_X1_takeBack (y : zHs) (t : zTr) : zHs × zTr :=
  let x4_0 : Nat := (if (gHs_count y) = 0 then (gHs_count y) else ((gHs_count y) - 1))
  let x4_1 : zTr := (if (gHs_count y) = 0 then t else (f_X6_become t ((gHs_st y) (((gHs_first y) + ((gHs_count y) - 1)) % 7))))
  ((sHs_count y x4_0), x4_1)
set_option maxHeartbeats 4000000 in
set_option maxRecDepth 100000 in
theorem c_X1_takeBack (l : Launch) (D : va_G) (cy : Nat → ClassId) (h0 h1 : Nat) (hs : Nat → Nat → Nat) (a : Nat → Nat)  (y : zHs) (t : zTr) (hf : gHs_first y < 7) (hc : gHs_count y ≤ 6) (hq : ∀ i, i < 7 → gOd_n (gTr_bu (gHs_st y i)) ≤ 20 ∧ gOd_n (gTr_le (gHs_st y i)) ≤ 20) : zC l yX1_takeBack (zW yX1_takeBack cX1_takeBack 2 (Option.none : Option Jvm.ClassFile.FieldType)) { frames := 3, cells := 0, slots := 0, locals := 68 } D cy [.ref h0, .ref (a 0)] (([(WHo cy h0 h1 hs (gHs_first y) (gHs_count y)), (WT cy a t)] : List va_W) ++ WHL cy hs (gHs_st y)).flatten none (([(WHo cy h0 h1 hs (gHs_first ((f_X1_takeBack y t).1)) (gHs_count ((f_X1_takeBack y t).1))), (WT cy a ((f_X1_takeBack y t).2))] : List va_W) ++ WHL cy hs (gHs_st ((f_X1_takeBack y t).1))).flatten := by
  refine zC_of rfl (Nat.le_of_ble_eq_true rfl) zOk_v (fun E C hret => ?_)
  show zJ E 2 0 0 (([(WHo cy h0 h1 hs (gHs_first y) (gHs_count y)), (WT cy a t)] : List va_W) ++ WHL cy hs (gHs_st y)).flatten 0 [(0, .ref h0), (1, .ref (a 0))] []
  refine zj_aload_n C dX1_takeBack_0 0 rfl ?_
  refine zj_get C 0 1 2 (v := .int (nI (gHs_count y))) inZ1 rfl rfl (by decide) tg_268 rfl dX1_takeBack_1 ?_
  have J_4 : ∀ (x4_0 : Nat) (x4_1 : zTr), x4_0 = (if (gHs_count y) = 0 then (gHs_count y) else ((gHs_count y) - 1)) → x4_1 = (if (gHs_count y) = 0 then t else (f_X6_become t ((gHs_st y) (((gHs_first y) + ((gHs_count y) - 1)) % 7)))) → zJ E 2 0 0 (([(WHo cy h0 h1 hs (gHs_first y) x4_0), (WT cy a x4_1)] : List va_W) ++ WHL cy hs (gHs_st y)).flatten 38 [(0, .ref h0), (1, .ref (a 0))] [] := by
    intro x4_0 x4_1 hx4_0 hx4_1
    subst hx4_1
    subst hx4_0
    have e : f_X1_takeBack y t = ((sHs_count y (if (gHs_count y) = 0 then (gHs_count y) else ((gHs_count y) - 1))), (if (gHs_count y) = 0 then t else (f_X6_become t ((gHs_st y) (((gHs_first y) + ((gHs_count y) - 1)) % 7))))) := by rfl
    rw [e] at hret
    exact hret _ _ dX1_takeBack_38
  refine zj_if_le C 38 dX1_takeBack_4 (by decide) (fun c => ?_) (fun c => ?_)
  · have c_4 : (gHs_count y) = 0 := ((zn_le0 (by omega)).mp c)
    exact J_4 (gHs_count y) t (by simp only [if_pos c_4]; first | done | assumption) (by simp only [if_pos c_4]; first | done | assumption)
  · have c_4 : ¬ ((gHs_count y) = 0) := (fun q => c ((zn_le0 (by omega)).mpr q))
    refine zj_aload_n C dX1_takeBack_7 0 rfl ?_
    refine zj_dup C dX1_takeBack_8 rfl ?_
    refine zj_get C 0 1 2 (v := .int (nI (gHs_count y))) inZ1 rfl rfl (by decide) tg_268 rfl dX1_takeBack_9 ?_
    refine zj_iconst C (v := (nI 1)) dX1_takeBack_12 (by decide) ?_
    refine zj_isub C dX1_takeBack_13 ?_
    refine zj_topi (nI ((gHs_count y) - 1)) (pk_sub (by omega)) ?_
    obtain ⟨V_14, hV_14⟩ : ∃ g : Nat, g = (gHs_count y) - 1 := ⟨_, rfl⟩
    refine zj_topi (nI V_14) (congrArg nI hV_14.symm) ?_
    refine zj_put C 0 1 2 (v := .int (nI V_14)) (ws' := (([(WHo cy h0 h1 hs (gHs_first y) V_14), (WT cy a t)] : List va_W) ++ WHL cy hs (gHs_st y)).flatten) tyX1 tyX1_ok nmX1 inZ1 rfl rfl (by decide) tg_268 rfl rfl rfl (Nat.le_of_ble_eq_true rfl) dX1_takeBack_14 rfl ?_
    refine zj_aload_n C dX1_takeBack_17 1 rfl ?_
    refine zj_aload_n C dX1_takeBack_18 0 rfl ?_
    refine zj_get C 0 1 0 (v := .ref h1) inZ1 rfl rfl (by decide) tg_266 rfl dX1_takeBack_19 ?_
    refine zj_aload_n C dX1_takeBack_22 0 rfl ?_
    refine zj_get C 0 1 1 (v := .int (nI (gHs_first y))) inZ1 rfl rfl (by decide) tg_267 rfl dX1_takeBack_23 ?_
    refine zj_aload_n C dX1_takeBack_26 0 rfl ?_
    refine zj_get C 0 1 2 (v := .int (nI V_14)) inZ1 rfl rfl (by decide) tg_268 rfl dX1_takeBack_27 ?_
    refine zj_iadd C dX1_takeBack_30 ?_
    refine zj_topi (nI ((gHs_first y) + V_14)) (nI_add _ _) ?_
    refine zj_bipush C (v := (nI 7)) dX1_takeBack_31 (by decide) ?_
    refine zj_irem C dX1_takeBack_33 (by decide) ?_
    refine zj_topi (nI (((gHs_first y) + V_14) % 7)) (pk_rem (by omega) (by omega) (by omega)) ?_
    refine zj_aald C 1 5 (f := (fun k => some (hs k 0))) (b := (hs (((gHs_first y) + V_14) % 7) 0)) (((gHs_first y) + V_14) % 7) (nI_clamp (by omega)) (vp_in_nI (by omega) (by omega)) rfl rfl rfl dX1_takeBack_34 ?_
    have M_35 := c_X6_become l D cy a (hs (((gHs_first y) + V_14) % 7))  t ((gHs_st y) (((gHs_first y) + V_14) % 7)) (hq _ (by omega)).1 (hq _ (by omega)).2
    obtain ⟨T_35, hT_35⟩ : ∃ g : zTr, g = (f_X6_become t ((gHs_st y) (((gHs_first y) + V_14) % 7))) := ⟨_, rfl⟩
    rw [← hT_35] at M_35
    refine zj_callVF C (nn := 36) (Bs' := (([(WHo cy h0 h1 hs (gHs_first y) V_14), (WT cy a T_35)] : List va_W) ++ WHL cy hs (gHs_st y))) (st := []) (st1 := []) [WT cy a t, WT cy (hs (((gHs_first y) + V_14) % 7)) ((gHs_st y) (((gHs_first y) + V_14) % 7))] [WT cy a T_35, WT cy (hs (((gHs_first y) + V_14) % 7)) ((gHs_st y) (((gHs_first y) + V_14) % 7))] [1, 2 + (((gHs_first y) + V_14) % 7)] 0 6 (M_35) rfl rfl (zg_V tg_311 tg_308 tg_309 tg_310 tg_2) ⟨rfl, hdZ_X6_become⟩ ⟨rfl, rfl⟩ ⟨by decide, by decide⟩ rfl rfl (WHL_hC2 (i := (((gHs_first y) + V_14) % 7)) (by omega)) (znd2 (by omega)) ⟨rfl, rfl⟩ rfl rfl rfl (Nat.le_of_ble_eq_true rfl) dX1_takeBack_35 (WHL_set2 (i := (((gHs_first y) + V_14) % 7)) _ (by omega)) rfl ?_
    subst hT_35
    subst hV_14
    exact J_4 ((gHs_count y) - 1) (f_X6_become t ((gHs_st y) (((gHs_first y) + ((gHs_count y) - 1)) % 7))) (by simp only [if_neg c_4]; first | done | assumption) (by simp only [if_neg c_4]; first | done | assumption)
