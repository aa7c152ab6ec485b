noncomputable def L_X6_bst (u : zTr) (V_5 : Int64) (V_13 : Int64) (V_21 : Int64) (V_29 : Int32) (V_37 : Int32) (V_45 : Int32) : Nat → (Nat → Int32) → (Nat) → (Nat → Int32) × (Nat)
  | 0, G, k => (G, k)
  | fuel + 1, G, k =>
    if 5 ≤ k then
      (G, k)
    else
      let V_66 : Int32 := ((gTr_st u) k)
      let F_66 : Nat → Int32 := (upd G k V_66)
      L_X6_bst u V_5 V_13 V_21 V_29 V_37 V_45 fuel F_66 (k + 1)
theorem L_X6_bst_s (u : zTr) (V_5 : Int64) (V_13 : Int64) (V_21 : Int64) (V_29 : Int32) (V_37 : Int32) (V_45 : Int32) (fuel : Nat) (G : Nat → Int32) (k : Nat) : L_X6_bst u V_5 V_13 V_21 V_29 V_37 V_45 (fuel + 1) G k = (
    if 5 ≤ k then
      (G, k)
    else
      let V_66 : Int32 := ((gTr_st u) k)
      let F_66 : Nat → Int32 := (upd G k V_66)
      L_X6_bst u V_5 V_13 V_21 V_29 V_37 V_45 fuel F_66 (k + 1)
  ) := rfl
noncomputable def L_X6_bhd (u : zTr) (V_5 : Int64) (V_13 : Int64) (V_21 : Int64) (V_29 : Int32) (V_37 : Int32) (V_45 : Int32) (G1 : Nat → Int32) (k1 : Nat) : Nat → (Nat → zHd) → (Nat) → (Nat → zHd) × (Nat)
  | 0, F, k => (F, k)
  | fuel + 1, F, k =>
    if 6 ≤ k then
      (F, k)
    else
      L_X6_bhd u V_5 V_13 V_21 V_29 V_37 V_45 G1 k1 fuel (zup F k ((gTr_hd u) k)) (k + 1)
theorem L_X6_bhd_s (u : zTr) (V_5 : Int64) (V_13 : Int64) (V_21 : Int64) (V_29 : Int32) (V_37 : Int32) (V_45 : Int32) (G1 : Nat → Int32) (k1 : Nat) (fuel : Nat) (F : Nat → zHd) (k : Nat) : L_X6_bhd u V_5 V_13 V_21 V_29 V_37 V_45 G1 k1 (fuel + 1) F k = (
    if 6 ≤ k then
      (F, k)
    else
      L_X6_bhd u V_5 V_13 V_21 V_29 V_37 V_45 G1 k1 fuel (zup F k ((gTr_hd u) k)) (k + 1)
  ) := rfl
noncomputable def f_X6_become (t : zTr) (u : zTr) : zTr :=
  let V_5 : Int64 := (gTr_cash u)
  let V_13 : Int64 := (gTr_pool u)
  let V_21 : Int64 := (gTr_even u)
  let V_29 : Int32 := (gTr_lots u)
  let V_37 : Int32 := (gTr_quote u)
  let V_45 : Int32 := (gTr_day u)
  let G1 : Nat → Int32 := ((L_X6_bst u V_5 V_13 V_21 V_29 V_37 V_45 (5 - 0 + 1) (gTr_st t) 0).1)
  let k1 : Nat := ((L_X6_bst u V_5 V_13 V_21 V_29 V_37 V_45 (5 - 0 + 1) (gTr_st t) 0).2)
  let F1 : Nat → zHd := ((L_X6_bhd u V_5 V_13 V_21 V_29 V_37 V_45 G1 k1 (6 - 0 + 1) (gTr_hd t) 0).1)
  let k2 : Nat := ((L_X6_bhd u V_5 V_13 V_21 V_29 V_37 V_45 G1 k1 (6 - 0 + 1) (gTr_hd t) 0).2)
  let T_110 : zOd := (f_X4_become (gTr_bu t) (gTr_bu u))
  let T_121 : zOd := (f_X4_become (gTr_le t) (gTr_le u))
  (sTr_hd (sTr_la (sTr_le (sTr_bu (sTr_st (sTr_day (sTr_quote (sTr_lots (sTr_even (sTr_pool (sTr_cash t V_5) V_13) V_21) V_29) V_37) V_45) G1) T_110) T_121) (gTr_la u)) F1)
set_option maxHeartbeats 4000000 in
set_option maxRecDepth 100000 in
theorem c_X6_become (l : Launch) (D : va_G) (cy : Nat → ClassId) (a b : Nat → Nat)  (t : zTr) (u : zTr) (hb : gOd_n (gTr_bu u) ≤ 20) (hl : gOd_n (gTr_le u) ≤ 20) : zC l yX6_become (zW yX6_become cX6_become 3 (Option.none : Option Jvm.ClassFile.FieldType)) { frames := 2, cells := 0, slots := 0, locals := 46 } D cy [.ref (a 0), .ref (b 0)] ([(WT cy a t), (WT cy b u)] : List va_W).flatten none ([(WT cy a (f_X6_become t u)), (WT cy b u)] : List va_W).flatten := by
  refine zC_of rfl (Nat.le_of_ble_eq_true rfl) zOk_v (fun E C hret => ?_)
  show zJ E 3 0 0 ([(WT cy a t), (WT cy b u)] : List va_W).flatten 0 [(0, .ref (a 0)), (1, .ref (b 0))] []
  refine zj_aload_n C dX6_become_0 0 rfl ?_
  refine zj_aload_n C dX6_become_1 1 rfl ?_
  refine zj_get C 18 6 0 (v := .long (gTr_cash u)) inZ6 rfl rfl (by decide) tg_139 rfl dX6_become_2 ?_
  refine zj_toplg (fun V_5 hV_5 => ?_)
  refine zj_put C 0 6 0 (v := .long V_5) (ws' := ([(WT cy a (sTr_cash t V_5)), (WT cy b u)] : List va_W).flatten) tyX6 tyX6_ok nmX6 inZ6 rfl rfl (by decide) tg_139 rfl rfl rfl (Nat.le_of_ble_eq_true rfl) dX6_become_5 rfl ?_
  refine zj_aload_n C dX6_become_8 0 rfl ?_
  refine zj_aload_n C dX6_become_9 1 rfl ?_
  refine zj_get C 18 6 1 (v := .long (gTr_pool u)) inZ6 rfl rfl (by decide) tg_142 rfl dX6_become_10 ?_
  refine zj_toplg (fun V_13 hV_13 => ?_)
  refine zj_put C 0 6 1 (v := .long V_13) (ws' := ([(WT cy a (sTr_pool (sTr_cash t V_5) V_13)), (WT cy b u)] : List va_W).flatten) tyX6 tyX6_ok nmX6 inZ6 rfl rfl (by decide) tg_142 rfl rfl rfl (Nat.le_of_ble_eq_true rfl) dX6_become_13 rfl ?_
  refine zj_aload_n C dX6_become_16 0 rfl ?_
  refine zj_aload_n C dX6_become_17 1 rfl ?_
  refine zj_get C 18 6 2 (v := .long (gTr_even u)) inZ6 rfl rfl (by decide) tg_144 rfl dX6_become_18 ?_
  refine zj_toplg (fun V_21 hV_21 => ?_)
  refine zj_put C 0 6 2 (v := .long V_21) (ws' := ([(WT cy a (sTr_even (sTr_pool (sTr_cash t V_5) V_13) V_21)), (WT cy b u)] : List va_W).flatten) tyX6 tyX6_ok nmX6 inZ6 rfl rfl (by decide) tg_144 rfl rfl rfl (Nat.le_of_ble_eq_true rfl) dX6_become_21 rfl ?_
  refine zj_aload_n C dX6_become_24 0 rfl ?_
  refine zj_aload_n C dX6_become_25 1 rfl ?_
  refine zj_get C 18 6 3 (v := .int (gTr_lots u)) inZ6 rfl rfl (by decide) tg_146 rfl dX6_become_26 ?_
  refine zj_topig (fun V_29 hV_29 => ?_)
  refine zj_put C 0 6 3 (v := .int V_29) (ws' := ([(WT cy a (sTr_lots (sTr_even (sTr_pool (sTr_cash t V_5) V_13) V_21) V_29)), (WT cy b u)] : List va_W).flatten) tyX6 tyX6_ok nmX6 inZ6 rfl rfl (by decide) tg_146 rfl rfl rfl (Nat.le_of_ble_eq_true rfl) dX6_become_29 rfl ?_
  refine zj_aload_n C dX6_become_32 0 rfl ?_
  refine zj_aload_n C dX6_become_33 1 rfl ?_
  refine zj_get C 18 6 4 (v := .int (gTr_quote u)) inZ6 rfl rfl (by decide) tg_148 rfl dX6_become_34 ?_
  refine zj_topig (fun V_37 hV_37 => ?_)
  refine zj_put C 0 6 4 (v := .int V_37) (ws' := ([(WT cy a (sTr_quote (sTr_lots (sTr_even (sTr_pool (sTr_cash t V_5) V_13) V_21) V_29) V_37)), (WT cy b u)] : List va_W).flatten) tyX6 tyX6_ok nmX6 inZ6 rfl rfl (by decide) tg_148 rfl rfl rfl (Nat.le_of_ble_eq_true rfl) dX6_become_37 rfl ?_
  refine zj_aload_n C dX6_become_40 0 rfl ?_
  refine zj_aload_n C dX6_become_41 1 rfl ?_
  refine zj_get C 18 6 5 (v := .int (gTr_day u)) inZ6 rfl rfl (by decide) tg_150 rfl dX6_become_42 ?_
  refine zj_topig (fun V_45 hV_45 => ?_)
  refine zj_put C 0 6 5 (v := .int V_45) (ws' := ([(WT cy a (sTr_day (sTr_quote (sTr_lots (sTr_even (sTr_pool (sTr_cash t V_5) V_13) V_21) V_29) V_37) V_45)), (WT cy b u)] : List va_W).flatten) tyX6 tyX6_ok nmX6 inZ6 rfl rfl (by decide) tg_150 rfl rfl rfl (Nat.le_of_ble_eq_true rfl) dX6_become_45 rfl ?_
  refine zj_iconst C (v := (nI 0)) dX6_become_48 (by decide) ?_
  refine zj_istore_n C (L' := [(2, .int (nI 0)), (0, .ref (a 0)), (1, .ref (b 0))]) dX6_become_49 rfl (by decide) rfl ?_
  have loop_50 : ∀ (fuel : Nat) (G : Nat → Int32) (k : Nat), (hk : k ≤ 5) → 5 - k < fuel → (zJ E 3 0 0 ([(WT cy a (sTr_st (sTr_day (sTr_quote (sTr_lots (sTr_even (sTr_pool (sTr_cash t V_5) V_13) V_21) V_29) V_37) V_45) ((L_X6_bst u V_5 V_13 V_21 V_29 V_37 V_45 fuel G k).1))), (WT cy b u)] : List va_W).flatten 73 [(0, .ref (a 0)), (1, .ref (b 0))] []) → zJ E 3 0 0 ([(WT cy a (sTr_st (sTr_day (sTr_quote (sTr_lots (sTr_even (sTr_pool (sTr_cash t V_5) V_13) V_21) V_29) V_37) V_45) G)), (WT cy b u)] : List va_W).flatten 50 [(0, .ref (a 0)), (1, .ref (b 0)), (2, .int (nI k))] [] := by
    intro fuel
    induction fuel with
    | zero => intro G k hk hmu; exact absurd hmu (Nat.not_lt_zero _)
    | succ fuel ih_50 =>
      intro G k hk hmu_50 K_50
      refine zj_iload_n C dX6_become_50 2 rfl ?_
      refine zj_iconst C (v := (nI 5)) dX6_become_51 (by decide) ?_
      refine zj_icmp_ge C 73 dX6_become_52 (by decide) (fun c => ?_) (fun c => ?_)
      · have c_52 : 5 ≤ k := ((nI_leI (by omega) (by omega)).mp c)
        refine zj_sub (L' := [(0, .ref (a 0)), (1, .ref (b 0))]) [0, 1] rfl ?_
        have e_50 : (L_X6_bst u V_5 V_13 V_21 V_29 V_37 V_45 (fuel + 1) G k) = (G, k) := by refine (L_X6_bst_s u V_5 V_13 V_21 V_29 V_37 V_45 fuel G k).trans ?_; refine (if_pos c_52).trans ?_; rfl
        rw [e_50] at K_50
        exact K_50 
      · have c_52 : ¬ (5 ≤ k) := (fun q => c ((nI_leI (by omega) (by omega)).mpr q))
        refine zj_aload_n C dX6_become_55 0 rfl ?_
        refine zj_get C 0 6 6 (v := .ref (a 1)) inZ6 rfl rfl (by decide) tg_153 rfl dX6_become_56 ?_
        refine zj_iload_n C dX6_become_59 2 rfl ?_
        refine zj_aload_n C dX6_become_60 1 rfl ?_
        refine zj_get C 18 6 6 (v := .ref (b 1)) inZ6 rfl rfl (by decide) tg_153 rfl dX6_become_61 ?_
        refine zj_iload_n C dX6_become_64 2 rfl ?_
        refine zj_iald C 19 (f := (gTr_st u)) k (nI_clamp (by omega)) (vp_in_nI (by omega) (by omega)) rfl dX6_become_65 ?_
        refine zj_topig (fun V_66 hV_66 => ?_)
        obtain ⟨F_66, hF_66⟩ : ∃ g, g = (upd G k V_66) := ⟨_, rfl⟩
        refine zj_iast C 1 (f := G) (ws' := ([(WT cy a (sTr_st (sTr_day (sTr_quote (sTr_lots (sTr_even (sTr_pool (sTr_cash t V_5) V_13) V_21) V_29) V_37) V_45) F_66)), (WT cy b u)] : List va_W).flatten) k (nI_clamp (by omega)) (vp_in_nI (by omega) (by omega)) rfl dX6_become_66 (by rw [← hF_66]; rfl) ?_
        refine zj_iinc C (j := 2) (v := (nI (k + 1))) (L' := [(2, .int (nI (k + 1))), (0, .ref (a 0)), (1, .ref (b 0))]) dX6_become_67 rfl (nI_1 _) (by decide) rfl ?_
        refine zj_goto C 50 dX6_become_70 (by decide) ?_
        refine zj_sub (L' := [(0, .ref (a 0)), (1, .ref (b 0)), (2, .int (nI (k + 1)))]) [1, 2, 0] rfl ?_
        have hn_hk : (k + 1) ≤ 5 := (by omega)
        have hn_mu : 5 - (k + 1) < fuel := (by omega)
        subst hF_66
        subst hV_66
        have e_50 : (L_X6_bst u V_5 V_13 V_21 V_29 V_37 V_45 (fuel + 1) G k) = (L_X6_bst u V_5 V_13 V_21 V_29 V_37 V_45 fuel (upd G k ((gTr_st u) k)) (k + 1)) := by refine (L_X6_bst_s u V_5 V_13 V_21 V_29 V_37 V_45 fuel G k).trans ?_; refine (if_neg c_52).trans ?_; rfl
        rw [e_50] at K_50
        exact ih_50 (upd G k ((gTr_st u) k)) (k + 1) hn_hk hn_mu K_50
  have K_50 : ∀ (G1 : Nat → Int32) (k1 : Nat), G1 = ((L_X6_bst u V_5 V_13 V_21 V_29 V_37 V_45 (5 - 0 + 1) (gTr_st t) 0).1) → k1 = ((L_X6_bst u V_5 V_13 V_21 V_29 V_37 V_45 (5 - 0 + 1) (gTr_st t) 0).2) → zJ E 3 0 0 ([(WT cy a (sTr_st (sTr_day (sTr_quote (sTr_lots (sTr_even (sTr_pool (sTr_cash t V_5) V_13) V_21) V_29) V_37) V_45) G1)), (WT cy b u)] : List va_W).flatten 73 [(0, .ref (a 0)), (1, .ref (b 0))] [] := by
    intro G1 k1 hG1 hk1 
    refine zj_iconst C (v := (nI 0)) dX6_become_73 (by decide) ?_
    refine zj_istore_n C (L' := [(2, .int (nI 0)), (0, .ref (a 0)), (1, .ref (b 0))]) dX6_become_74 rfl (by decide) rfl ?_
    have loop_75 : ∀ (fuel : Nat) (F : Nat → zHd) (k : Nat), (hk : k ≤ 6) → 6 - k < fuel → (zJ E 3 0 0 ([(WT cy a (sTr_hd (sTr_st (sTr_day (sTr_quote (sTr_lots (sTr_even (sTr_pool (sTr_cash t V_5) V_13) V_21) V_29) V_37) V_45) G1) ((L_X6_bhd u V_5 V_13 V_21 V_29 V_37 V_45 G1 k1 fuel F k).1))), (WT cy b u)] : List va_W).flatten 102 [(0, .ref (a 0)), (1, .ref (b 0))] []) → zJ E 3 0 0 ([(WT cy a (sTr_hd (sTr_st (sTr_day (sTr_quote (sTr_lots (sTr_even (sTr_pool (sTr_cash t V_5) V_13) V_21) V_29) V_37) V_45) G1) F)), (WT cy b u)] : List va_W).flatten 75 [(0, .ref (a 0)), (1, .ref (b 0)), (2, .int (nI k))] [] := by
      intro fuel
      induction fuel with
      | zero => intro F k hk hmu; exact absurd hmu (Nat.not_lt_zero _)
      | succ fuel ih_75 =>
        intro F k hk hmu_75 K_75
        refine zj_iload_n C dX6_become_75 2 rfl ?_
        refine zj_bipush C (v := (nI 6)) dX6_become_76 (by decide) ?_
        refine zj_icmp_ge C 102 dX6_become_78 (by decide) (fun c => ?_) (fun c => ?_)
        · have c_78 : 6 ≤ k := ((nI_leI (by omega) (by omega)).mp c)
          refine zj_sub (L' := [(0, .ref (a 0)), (1, .ref (b 0))]) [0, 1] rfl ?_
          have e_75 : (L_X6_bhd u V_5 V_13 V_21 V_29 V_37 V_45 G1 k1 (fuel + 1) F k) = (F, k) := by refine (L_X6_bhd_s u V_5 V_13 V_21 V_29 V_37 V_45 G1 k1 fuel F k).trans ?_; refine (if_pos c_78).trans ?_; rfl
          rw [e_75] at K_75
          exact K_75 
        · have c_78 : ¬ (6 ≤ k) := (fun q => c ((nI_leI (by omega) (by omega)).mpr q))
          refine zj_aload_n C dX6_become_81 0 rfl ?_
          refine zj_get C 0 6 7 (v := .ref (a 2)) inZ6 rfl rfl (by decide) tg_156 rfl dX6_become_82 ?_
          refine zj_iload_n C dX6_become_85 2 rfl ?_
          refine zj_aald C 2 4 (f := (fun k => some (a (12 + k)))) (b := (a (12 + k))) k (nI_clamp (by omega)) (vp_in_nI (by omega) (by omega)) rfl rfl rfl dX6_become_86 ?_
          refine zj_aload_n C dX6_become_87 1 rfl ?_
          refine zj_get C 18 6 7 (v := .ref (b 2)) inZ6 rfl rfl (by decide) tg_156 rfl dX6_become_88 ?_
          refine zj_iload_n C dX6_become_91 2 rfl ?_
          refine zj_aald C 20 4 (f := (fun k => some (b (12 + k)))) (b := (b (12 + k))) k (nI_clamp (by omega)) (vp_in_nI (by omega) (by omega)) rfl rfl rfl dX6_become_92 ?_
          have M_93 := c_X2_become l D cy (a (12 + k)) (b (12 + k))  (F k) ((gTr_hd u) k) 
          refine zj_callV C (nn := 2) (ws' := ([(WT cy a (sTr_hd (sTr_st (sTr_day (sTr_quote (sTr_lots (sTr_even (sTr_pool (sTr_cash t V_5) V_13) V_21) V_29) V_37) V_45) G1) (zup F k ((gTr_hd u) k)))), (WT cy b u)] : List va_W).flatten) (st := []) (st1 := []) (12 + k) 2 [(12 + k), (18 + (12 + k))] (M_93) (zg_V tg_315 tg_312 tg_313 tg_314 tg_3) ⟨rfl, hdZ_X2_become⟩ ⟨rfl, rfl⟩ ⟨by decide, by decide⟩ (WTT_h (h := k) (by omega)) rfl (WTT_hC (h := k) (by omega)) (WTT_nd _) ⟨rfl, rfl⟩ rfl rfl (Nat.le_of_ble_eq_true rfl) dX6_become_93 (WTT_set (h := k) _ (by omega)) rfl ?_
          refine zj_iinc C (j := 2) (v := (nI (k + 1))) (L' := [(2, .int (nI (k + 1))), (0, .ref (a 0)), (1, .ref (b 0))]) dX6_become_96 rfl (nI_1 _) (by decide) rfl ?_
          refine zj_goto C 75 dX6_become_99 (by decide) ?_
          refine zj_sub (L' := [(0, .ref (a 0)), (1, .ref (b 0)), (2, .int (nI (k + 1)))]) [1, 2, 0] rfl ?_
          have hn_hk : (k + 1) ≤ 6 := (by omega)
          have hn_mu : 6 - (k + 1) < fuel := (by omega)
          have e_75 : (L_X6_bhd u V_5 V_13 V_21 V_29 V_37 V_45 G1 k1 (fuel + 1) F k) = (L_X6_bhd u V_5 V_13 V_21 V_29 V_37 V_45 G1 k1 fuel (zup F k ((gTr_hd u) k)) (k + 1)) := by refine (L_X6_bhd_s u V_5 V_13 V_21 V_29 V_37 V_45 G1 k1 fuel F k).trans ?_; refine (if_neg c_78).trans ?_; rfl
          rw [e_75] at K_75
          exact ih_75 (zup F k ((gTr_hd u) k)) (k + 1) hn_hk hn_mu K_75
    have K_75 : ∀ (F1 : Nat → zHd) (k2 : Nat), F1 = ((L_X6_bhd u V_5 V_13 V_21 V_29 V_37 V_45 G1 k1 (6 - 0 + 1) (gTr_hd t) 0).1) → k2 = ((L_X6_bhd u V_5 V_13 V_21 V_29 V_37 V_45 G1 k1 (6 - 0 + 1) (gTr_hd t) 0).2) → zJ E 3 0 0 ([(WT cy a (sTr_hd (sTr_st (sTr_day (sTr_quote (sTr_lots (sTr_even (sTr_pool (sTr_cash t V_5) V_13) V_21) V_29) V_37) V_45) G1) F1)), (WT cy b u)] : List va_W).flatten 102 [(0, .ref (a 0)), (1, .ref (b 0))] [] := by
      intro F1 k2 hF1 hk2 
      refine zj_aload_n C dX6_become_102 0 rfl ?_
      refine zj_get C 0 6 8 (v := .ref (a 3)) inZ6 rfl rfl (by decide) tg_159 rfl dX6_become_103 ?_
      refine zj_aload_n C dX6_become_106 1 rfl ?_
      refine zj_get C 18 6 8 (v := .ref (b 3)) inZ6 rfl rfl (by decide) tg_159 rfl dX6_become_107 ?_
      have M_110 := c_X4_become l D cy (a 3) (a 4) (a 5) (a 6) (b 3) (b 4) (b 5) (b 6)  (gTr_bu t) (gTr_bu u) hb
      obtain ⟨T_110, hT_110⟩ : ∃ g : zOd, g = (f_X4_become (gTr_bu t) (gTr_bu u)) := ⟨_, rfl⟩
      rw [← hT_110] at M_110
      refine zj_callV C (nn := 8) (ws' := ([(WT cy a (sTr_hd (sTr_bu (sTr_st (sTr_day (sTr_quote (sTr_lots (sTr_even (sTr_pool (sTr_cash t V_5) V_13) V_21) V_29) V_37) V_45) G1) T_110) F1)), (WT cy b u)] : List va_W).flatten) (st := []) (st1 := []) 3 4 [3, 4, 5, 6, 21, 22, 23, 24] (M_110) (zg_V tg_319 tg_316 tg_317 tg_318 tg_4) ⟨rfl, hdZ_X4_become⟩ ⟨rfl, rfl⟩ ⟨by decide, by decide⟩ rfl rfl rfl (by decide) ⟨rfl, rfl⟩ rfl rfl (Nat.le_of_ble_eq_true rfl) dX6_become_110 rfl rfl ?_
      refine zj_aload_n C dX6_become_113 0 rfl ?_
      refine zj_get C 0 6 9 (v := .ref (a 7)) inZ6 rfl rfl (by decide) tg_162 rfl dX6_become_114 ?_
      refine zj_aload_n C dX6_become_117 1 rfl ?_
      refine zj_get C 18 6 9 (v := .ref (b 7)) inZ6 rfl rfl (by decide) tg_162 rfl dX6_become_118 ?_
      have M_121 := c_X4_become l D cy (a 7) (a 8) (a 9) (a 10) (b 7) (b 8) (b 9) (b 10)  (gTr_le t) (gTr_le u) hl
      obtain ⟨T_121, hT_121⟩ : ∃ g : zOd, g = (f_X4_become (gTr_le t) (gTr_le u)) := ⟨_, rfl⟩
      rw [← hT_121] at M_121
      refine zj_callV C (nn := 8) (ws' := ([(WT cy a (sTr_hd (sTr_le (sTr_bu (sTr_st (sTr_day (sTr_quote (sTr_lots (sTr_even (sTr_pool (sTr_cash t V_5) V_13) V_21) V_29) V_37) V_45) G1) T_110) T_121) F1)), (WT cy b u)] : List va_W).flatten) (st := []) (st1 := []) 7 4 [7, 8, 9, 10, 25, 26, 27, 28] (M_121) (zg_V tg_319 tg_316 tg_317 tg_318 tg_4) ⟨rfl, hdZ_X4_become⟩ ⟨rfl, rfl⟩ ⟨by decide, by decide⟩ rfl rfl rfl (by decide) ⟨rfl, rfl⟩ rfl rfl (Nat.le_of_ble_eq_true rfl) dX6_become_121 rfl rfl ?_
      refine zj_aload_n C dX6_become_124 0 rfl ?_
      refine zj_get C 0 6 10 (v := .ref (a 11)) inZ6 rfl rfl (by decide) tg_165 rfl dX6_become_125 ?_
      refine zj_aload_n C dX6_become_128 1 rfl ?_
      refine zj_get C 18 6 10 (v := .ref (b 11)) inZ6 rfl rfl (by decide) tg_165 rfl dX6_become_129 ?_
      have M_132 := c_X3_become l D cy (a 11) (b 11)  (gTr_la t) (gTr_la u) 
      refine zj_callV C (nn := 2) (ws' := ([(WT cy a (sTr_hd (sTr_la (sTr_le (sTr_bu (sTr_st (sTr_day (sTr_quote (sTr_lots (sTr_even (sTr_pool (sTr_cash t V_5) V_13) V_21) V_29) V_37) V_45) G1) T_110) T_121) (gTr_la u)) F1)), (WT cy b u)] : List va_W).flatten) (st := []) (st1 := []) 11 3 [11, 29] (M_132) (zg_V tg_327 tg_324 tg_325 tg_326 tg_5) ⟨rfl, hdZ_X3_become⟩ ⟨rfl, rfl⟩ ⟨by decide, by decide⟩ rfl rfl rfl (by decide) ⟨rfl, rfl⟩ rfl rfl (Nat.le_of_ble_eq_true rfl) dX6_become_132 rfl rfl ?_
      subst hT_121
      subst hT_110
      subst hk2
      subst hF1
      subst hk1
      subst hG1
      subst hV_45
      subst hV_37
      subst hV_29
      subst hV_21
      subst hV_13
      subst hV_5
      have e : f_X6_become t u = (sTr_hd (sTr_la (sTr_le (sTr_bu (sTr_st (sTr_day (sTr_quote (sTr_lots (sTr_even (sTr_pool (sTr_cash t (gTr_cash u)) (gTr_pool u)) (gTr_even u)) (gTr_lots u)) (gTr_quote u)) (gTr_day u)) ((L_X6_bst u (gTr_cash u) (gTr_pool u) (gTr_even u) (gTr_lots u) (gTr_quote u) (gTr_day u) (5 - 0 + 1) (gTr_st t) 0).1)) (f_X4_become (gTr_bu t) (gTr_bu u))) (f_X4_become (gTr_le t) (gTr_le u))) (gTr_la u)) ((L_X6_bhd u (gTr_cash u) (gTr_pool u) (gTr_even u) (gTr_lots u) (gTr_quote u) (gTr_day u) ((L_X6_bst u (gTr_cash u) (gTr_pool u) (gTr_even u) (gTr_lots u) (gTr_quote u) (gTr_day u) (5 - 0 + 1) (gTr_st t) 0).1) ((L_X6_bst u (gTr_cash u) (gTr_pool u) (gTr_even u) (gTr_lots u) (gTr_quote u) (gTr_day u) (5 - 0 + 1) (gTr_st t) 0).2) (6 - 0 + 1) (gTr_hd t) 0).1)) := by rfl
      rw [e] at hret
      exact hret _ _ dX6_become_135
    refine zj_sub (L' := [(0, .ref (a 0)), (1, .ref (b 0)), (2, .int (nI 0))]) [1, 2, 0] rfl ?_
    refine zj_eq (ws' := ([(WT cy a (sTr_hd (sTr_st (sTr_day (sTr_quote (sTr_lots (sTr_even (sTr_pool (sTr_cash t V_5) V_13) V_21) V_29) V_37) V_45) G1) (gTr_hd t))), (WT cy b u)] : List va_W).flatten) rfl rfl rfl rfl ?_
    exact loop_75 (6 - 0 + 1) (gTr_hd t) 0 (by omega) (Nat.lt_succ_self _) (K_75 _ _ rfl rfl)
  refine zj_sub (L' := [(0, .ref (a 0)), (1, .ref (b 0)), (2, .int (nI 0))]) [1, 2, 0] rfl ?_
  refine zj_eq (ws' := ([(WT cy a (sTr_st (sTr_day (sTr_quote (sTr_lots (sTr_even (sTr_pool (sTr_cash t V_5) V_13) V_21) V_29) V_37) V_45) (gTr_st t))), (WT cy b u)] : List va_W).flatten) rfl rfl rfl rfl ?_
  exact loop_50 (5 - 0 + 1) (gTr_st t) 0 (by omega) (Nat.lt_succ_self _) (K_50 _ _ rfl rfl)
