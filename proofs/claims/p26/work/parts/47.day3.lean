noncomputable def f_X0_payLeaver (x : zDd) (t : zTr) (i : Nat) : Bool × zTr :=
  let T_30 : zTr := ((f_X6_sellFor t ((((gDd_sh x) i) * (gDd_price x)) / 1000)).2)
  let R_30_1 : Int32 := ((f_X6_sellFor t ((((gDd_sh x) i) * (gDd_price x)) / 1000)).1)
  let V_34 : Int32 := ((gLd_sold (gTr_la t)) + R_30_1)
  if ((((gDd_sh x) i) * (gDd_price x)) / 1000) ≤ (gTr_cash T_30) then
    let T_71 : zTr := (f_X6_takeUnits (sTr_la T_30 (sLd_sold (gTr_la T_30) V_34)) ((gOd_ho (gTr_le T_30) i).toNatClampNeg) ((gDd_sh x) i) ((((gDd_sh x) i) * (gDd_price x)) / 1000) (gDd_ui x))
    let V_87 : Int32 := (((gOd_sz (gTr_le T_71)) i) - ((((gDd_sh x) i)).toInt32))
    let F_87 : Nat → Int32 := (upd (gOd_sz (gTr_le T_71)) i V_87)
    let V_98 : Int64 := ((gLd_left (gTr_la T_71)) + ((gDd_sh x) i))
    let V_111 : Int64 := ((gLd_still (gTr_la T_71)) - ((gDd_sh x) i))
    (true, (sTr_la (sTr_le T_71 (sOd_sz (gTr_le T_71) F_87)) (sLd_still (sLd_left (gTr_la T_71) V_98) V_111)))
  else
    (false, (sTr_la T_30 (sLd_sold (gTr_la T_30) V_34)))
set_option maxHeartbeats 4000000 in
set_option maxRecDepth 100000 in
theorem c_X0_payLeaver (l : Launch) (D : va_G) (cy : Nat → ClassId) (d0 d1 : Nat) (a : Nat → Nat) (i : Nat) (x : zDd) (t : zTr) (hi : i < 20) (hv : vp_in (gOd_ho (gTr_le t) i) 6) : zC l yX0_payLeaver (zW yX0_payLeaver cX0_payLeaver 7 (Option.some Jvm.ClassFile.FieldType.boolean)) { frames := 2, cells := 0, slots := 0, locals := 56 } D cy [.ref d0, .ref (a 0), .int (nI i)] ([(WD cy d0 d1 x), (WT cy a t)] : List va_W).flatten (some (.int (zB ((f_X0_payLeaver x t i).1)))) ([(WD cy d0 d1 x), (WT cy a ((f_X0_payLeaver x t i).2))] : List va_W).flatten := by
  refine zC_of rfl (Nat.le_of_ble_eq_true rfl) (zOk_z (zB_01 _)) (fun E C hret => ?_)
  show zJ E 7 0 0 ([(WD cy d0 d1 x), (WT cy a t)] : List va_W).flatten 0 [(0, .ref d0), (1, .ref (a 0)), (2, .int (nI i))] []
  refine zj_aload_n C dX0_payLeaver_0 0 rfl ?_
  refine zj_get C 0 0 6 (v := .ref d1) inZ0 rfl rfl (by decide) tg_206 rfl dX0_payLeaver_1 ?_
  refine zj_iload_n C dX0_payLeaver_4 2 rfl ?_
  refine zj_lald C 1 (f := (gDd_sh x)) i (nI_clamp (by omega)) (vp_in_nI (by omega) (by omega)) rfl dX0_payLeaver_5 ?_
  refine zj_lstore_n C (L' := [(3, .long ((gDd_sh x) i)), (0, .ref d0), (1, .ref (a 0)), (2, .int (nI i))]) dX0_payLeaver_6 rfl (by decide) rfl ?_
  refine zj_lload_n C dX0_payLeaver_7 0 rfl ?_
  refine zj_aload_n C dX0_payLeaver_8 1 rfl ?_
  refine zj_get C 0 0 2 (v := .long (gDd_price x)) inZ0 rfl rfl (by decide) tg_199 rfl dX0_payLeaver_9 ?_
  refine zj_lmul C dX0_payLeaver_12 ?_
  refine zj_ldc2 C dX0_payLeaver_13 tg_448 ?_
  refine zj_ldiv C dX0_payLeaver_16 (by decide) ?_
  refine zj_lstore C (L' := [(5, .long ((((gDd_sh x) i) * (gDd_price x)) / 1000)), (3, .long ((gDd_sh x) i)), (0, .ref d0), (1, .ref (a 0)), (2, .int (nI i))]) dX0_payLeaver_17 (by decide) rfl ?_
  refine zj_aload_n C dX0_payLeaver_19 3 rfl ?_
  refine zj_get C 2 6 10 (v := .ref (a 11)) inZ6 rfl rfl (by decide) tg_166 rfl dX0_payLeaver_20 ?_
  refine zj_dup C dX0_payLeaver_23 rfl ?_
  refine zj_get C 13 3 6 (v := .int (gLd_sold (gTr_la t))) inZ3 rfl rfl (by decide) tg_118 rfl dX0_payLeaver_24 ?_
  refine zj_aload_n C dX0_payLeaver_27 3 rfl ?_
  refine zj_lload C dX0_payLeaver_28 0 rfl ?_
  have M_30 := c_X6_sellFor l D cy a ((((gDd_sh x) i) * (gDd_price x)) / 1000) t 
  obtain ⟨T_30, hT_30⟩ : ∃ g : zTr, g = ((f_X6_sellFor t ((((gDd_sh x) i) * (gDd_price x)) / 1000)).2) := ⟨_, rfl⟩
  rw [← hT_30] at M_30
  obtain ⟨R_30_1, hR_30_1⟩ : ∃ g : Int32, g = ((f_X6_sellFor t ((((gDd_sh x) i) * (gDd_price x)) / 1000)).1) := ⟨_, rfl⟩
  rw [← hR_30_1] at M_30
  refine zj_callVF1 C (nn := 18) (Bs' := ([(WD cy d0 d1 x), (WT cy a T_30)] : List va_W)) (st := [.int (gLd_sold (gTr_la t)), .ref (a 11)]) (st1 := [.int R_30_1, .int (gLd_sold (gTr_la t)), .ref (a 11)]) 1 0 6 (M_30) (zg_V tg_477 tg_474 tg_475 tg_476 tg_2) ⟨rfl, hdZ_X6_sellFor⟩ ⟨rfl, rfl⟩ ⟨by decide, by decide⟩ rfl rfl rfl ⟨rfl, rfl⟩ rfl rfl (Nat.le_of_ble_eq_true rfl) dX0_payLeaver_30 rfl rfl ?_
  have q30 : vp_in (gOd_ho (gTr_le T_30) i) 6 := by { rw [hT_30, xle_sell]; exact hv }
  refine zj_iadd C dX0_payLeaver_33 ?_
  refine zj_topig (fun V_34 hV_34 => ?_)
  refine zj_put C 13 3 6 (v := .int V_34) (ws' := ([(WD cy d0 d1 x), (WT cy a (sTr_la T_30 (sLd_sold (gTr_la T_30) V_34)))] : List va_W).flatten) tyX3 tyX3_ok nmX3 inZ3 rfl rfl (by decide) tg_118 rfl rfl rfl (Nat.le_of_ble_eq_true rfl) dX0_payLeaver_34 rfl ?_
  refine zj_aload_n C dX0_payLeaver_37 3 rfl ?_
  refine zj_get C 2 6 0 (v := .long (gTr_cash T_30)) inZ6 rfl rfl (by decide) tg_140 rfl dX0_payLeaver_38 ?_
  refine zj_lload C dX0_payLeaver_41 0 rfl ?_
  refine zj_lcmp_ge C 49 dX0_payLeaver_43 dX0_payLeaver_44 (by decide) (fun c => ?_) (fun c => ?_)
  · have c_43 : ((((gDd_sh x) i) * (gDd_price x)) / 1000) ≤ (gTr_cash T_30) := c
    refine zj_aload_n C dX0_payLeaver_49 3 rfl ?_
    refine zj_aload_n C dX0_payLeaver_50 3 rfl ?_
    refine zj_get C 2 6 7 (v := .ref (a 2)) inZ6 rfl rfl (by decide) tg_157 rfl dX0_payLeaver_51 ?_
    refine zj_aload_n C dX0_payLeaver_54 3 rfl ?_
    refine zj_get C 2 6 9 (v := .ref (a 7)) inZ6 rfl rfl (by decide) tg_163 rfl dX0_payLeaver_55 ?_
    refine zj_get C 9 4 1 (v := .ref (a 8)) inZ4 rfl rfl (by decide) tg_78 rfl dX0_payLeaver_58 ?_
    refine zj_iload_n C dX0_payLeaver_61 4 rfl ?_
    refine zj_iald C 10 (f := (gOd_ho (gTr_le T_30))) i (nI_clamp (by omega)) (vp_in_nI (by omega) (by omega)) rfl dX0_payLeaver_62 ?_
    refine zj_topi (nI ((gOd_ho (gTr_le T_30) i).toNatClampNeg)) (xho_eq q30) ?_
    refine zj_aald C 4 4 (f := (fun k => some (a (12 + k)))) (b := (a (12 + ((gOd_ho (gTr_le T_30) i).toNatClampNeg)))) ((gOd_ho (gTr_le T_30) i).toNatClampNeg) (nI_clamp (by have q := xho_lt q30; omega)) (vp_in_nI (xho_lt q30) (by decide)) rfl rfl rfl dX0_payLeaver_63 ?_
    refine zj_lload_n C dX0_payLeaver_64 1 rfl ?_
    refine zj_lload C dX0_payLeaver_65 0 rfl ?_
    refine zj_aload_n C dX0_payLeaver_67 2 rfl ?_
    refine zj_get C 0 0 1 (v := .long (gDd_ui x)) inZ0 rfl rfl (by decide) tg_198 rfl dX0_payLeaver_68 ?_
    have M_71 := c_X6_takeUnits l D cy a ((gOd_ho (gTr_le T_30) i).toNatClampNeg) ((gDd_sh x) i) ((((gDd_sh x) i) * (gDd_price x)) / 1000) (gDd_ui x) (sTr_la T_30 (sLd_sold (gTr_la T_30) V_34)) (xho_lt q30)
    obtain ⟨T_71, hT_71⟩ : ∃ g : zTr, g = (f_X6_takeUnits (sTr_la T_30 (sLd_sold (gTr_la T_30) V_34)) ((gOd_ho (gTr_le T_30) i).toNatClampNeg) ((gDd_sh x) i) ((((gDd_sh x) i) * (gDd_price x)) / 1000) (gDd_ui x)) := ⟨_, rfl⟩
    rw [← hT_71] at M_71
    refine zj_callVF1 C (nn := 18) (Bs' := ([(WD cy d0 d1 x), (WT cy a T_71)] : List va_W)) (st := []) (st1 := []) 1 0 6 (M_71) (zg_V tg_406 tg_483 tg_404 tg_405 tg_2) ⟨rfl, hdZ_X6_takeUnits⟩ ⟨rfl, rfl⟩ ⟨by decide, by decide⟩ rfl rfl rfl ⟨rfl, rfl⟩ rfl rfl (Nat.le_of_ble_eq_true rfl) dX0_payLeaver_71 rfl rfl ?_
    refine zj_aload_n C dX0_payLeaver_74 3 rfl ?_
    refine zj_get C 2 6 9 (v := .ref (a 7)) inZ6 rfl rfl (by decide) tg_163 rfl dX0_payLeaver_75 ?_
    refine zj_get C 9 4 2 (v := .ref (a 9)) inZ4 rfl rfl (by decide) tg_81 rfl dX0_payLeaver_78 ?_
    refine zj_iload_n C dX0_payLeaver_81 4 rfl ?_
    refine zj_dup2 C dX0_payLeaver_82 rfl rfl ?_
    refine zj_iald C 11 (f := (gOd_sz (gTr_le T_71))) i (nI_clamp (by omega)) (vp_in_nI (by omega) (by omega)) rfl dX0_payLeaver_83 ?_
    refine zj_lload_n C dX0_payLeaver_84 1 rfl ?_
    refine zj_l2i C dX0_payLeaver_85 ?_
    refine zj_isub C dX0_payLeaver_86 ?_
    refine zj_topig (fun V_87 hV_87 => ?_)
    obtain ⟨F_87, hF_87⟩ : ∃ g, g = (upd (gOd_sz (gTr_le T_71)) i V_87) := ⟨_, rfl⟩
    refine zj_iast C 11 (f := (gOd_sz (gTr_le T_71))) (ws' := ([(WD cy d0 d1 x), (WT cy a (sTr_le T_71 (sOd_sz (gTr_le T_71) F_87)))] : List va_W).flatten) i (nI_clamp (by omega)) (vp_in_nI (by omega) (by omega)) rfl dX0_payLeaver_87 (by rw [← hF_87]; rfl) ?_
    refine zj_aload_n C dX0_payLeaver_88 3 rfl ?_
    refine zj_get C 2 6 10 (v := .ref (a 11)) inZ6 rfl rfl (by decide) tg_166 rfl dX0_payLeaver_89 ?_
    refine zj_dup C dX0_payLeaver_92 rfl ?_
    refine zj_get C 13 3 3 (v := .long (gLd_left (gTr_la T_71))) inZ3 rfl rfl (by decide) tg_109 rfl dX0_payLeaver_93 ?_
    refine zj_lload_n C dX0_payLeaver_96 1 rfl ?_
    refine zj_ladd C dX0_payLeaver_97 ?_
    refine zj_toplg (fun V_98 hV_98 => ?_)
    refine zj_put C 13 3 3 (v := .long V_98) (ws' := ([(WD cy d0 d1 x), (WT cy a (sTr_la (sTr_le T_71 (sOd_sz (gTr_le T_71) F_87)) (sLd_left (gTr_la T_71) V_98)))] : List va_W).flatten) tyX3 tyX3_ok nmX3 inZ3 rfl rfl (by decide) tg_109 rfl rfl rfl (Nat.le_of_ble_eq_true rfl) dX0_payLeaver_98 rfl ?_
    refine zj_aload_n C dX0_payLeaver_101 3 rfl ?_
    refine zj_get C 2 6 10 (v := .ref (a 11)) inZ6 rfl rfl (by decide) tg_166 rfl dX0_payLeaver_102 ?_
    refine zj_dup C dX0_payLeaver_105 rfl ?_
    refine zj_get C 13 3 4 (v := .long (gLd_still (gTr_la T_71))) inZ3 rfl rfl (by decide) tg_112 rfl dX0_payLeaver_106 ?_
    refine zj_lload_n C dX0_payLeaver_109 1 rfl ?_
    refine zj_lsub C dX0_payLeaver_110 ?_
    refine zj_toplg (fun V_111 hV_111 => ?_)
    refine zj_put C 13 3 4 (v := .long V_111) (ws' := ([(WD cy d0 d1 x), (WT cy a (sTr_la (sTr_le T_71 (sOd_sz (gTr_le T_71) F_87)) (sLd_still (sLd_left (gTr_la T_71) V_98) V_111)))] : List va_W).flatten) tyX3 tyX3_ok nmX3 inZ3 rfl rfl (by decide) tg_112 rfl rfl rfl (Nat.le_of_ble_eq_true rfl) dX0_payLeaver_111 rfl ?_
    refine zj_iconst C (v := (nI 1)) dX0_payLeaver_114 (by decide) ?_
    subst hV_111
    subst hV_98
    subst hF_87
    subst hV_87
    subst hT_71
    subst hV_34
    subst hR_30_1
    subst hT_30
    have e : f_X0_payLeaver x t i = (true, (sTr_la (sTr_le (f_X6_takeUnits (sTr_la ((f_X6_sellFor t ((((gDd_sh x) i) * (gDd_price x)) / 1000)).2) (sLd_sold (gTr_la ((f_X6_sellFor t ((((gDd_sh x) i) * (gDd_price x)) / 1000)).2)) ((gLd_sold (gTr_la t)) + ((f_X6_sellFor t ((((gDd_sh x) i) * (gDd_price x)) / 1000)).1)))) ((gOd_ho (gTr_le ((f_X6_sellFor t ((((gDd_sh x) i) * (gDd_price x)) / 1000)).2)) i).toNatClampNeg) ((gDd_sh x) i) ((((gDd_sh x) i) * (gDd_price x)) / 1000) (gDd_ui x)) (sOd_sz (gTr_le (f_X6_takeUnits (sTr_la ((f_X6_sellFor t ((((gDd_sh x) i) * (gDd_price x)) / 1000)).2) (sLd_sold (gTr_la ((f_X6_sellFor t ((((gDd_sh x) i) * (gDd_price x)) / 1000)).2)) ((gLd_sold (gTr_la t)) + ((f_X6_sellFor t ((((gDd_sh x) i) * (gDd_price x)) / 1000)).1)))) ((gOd_ho (gTr_le ((f_X6_sellFor t ((((gDd_sh x) i) * (gDd_price x)) / 1000)).2)) i).toNatClampNeg) ((gDd_sh x) i) ((((gDd_sh x) i) * (gDd_price x)) / 1000) (gDd_ui x))) (upd (gOd_sz (gTr_le (f_X6_takeUnits (sTr_la ((f_X6_sellFor t ((((gDd_sh x) i) * (gDd_price x)) / 1000)).2) (sLd_sold (gTr_la ((f_X6_sellFor t ((((gDd_sh x) i) * (gDd_price x)) / 1000)).2)) ((gLd_sold (gTr_la t)) + ((f_X6_sellFor t ((((gDd_sh x) i) * (gDd_price x)) / 1000)).1)))) ((gOd_ho (gTr_le ((f_X6_sellFor t ((((gDd_sh x) i) * (gDd_price x)) / 1000)).2)) i).toNatClampNeg) ((gDd_sh x) i) ((((gDd_sh x) i) * (gDd_price x)) / 1000) (gDd_ui x)))) i (((gOd_sz (gTr_le (f_X6_takeUnits (sTr_la ((f_X6_sellFor t ((((gDd_sh x) i) * (gDd_price x)) / 1000)).2) (sLd_sold (gTr_la ((f_X6_sellFor t ((((gDd_sh x) i) * (gDd_price x)) / 1000)).2)) ((gLd_sold (gTr_la t)) + ((f_X6_sellFor t ((((gDd_sh x) i) * (gDd_price x)) / 1000)).1)))) ((gOd_ho (gTr_le ((f_X6_sellFor t ((((gDd_sh x) i) * (gDd_price x)) / 1000)).2)) i).toNatClampNeg) ((gDd_sh x) i) ((((gDd_sh x) i) * (gDd_price x)) / 1000) (gDd_ui x)))) i) - ((((gDd_sh x) i)).toInt32))))) (sLd_still (sLd_left (gTr_la (f_X6_takeUnits (sTr_la ((f_X6_sellFor t ((((gDd_sh x) i) * (gDd_price x)) / 1000)).2) (sLd_sold (gTr_la ((f_X6_sellFor t ((((gDd_sh x) i) * (gDd_price x)) / 1000)).2)) ((gLd_sold (gTr_la t)) + ((f_X6_sellFor t ((((gDd_sh x) i) * (gDd_price x)) / 1000)).1)))) ((gOd_ho (gTr_le ((f_X6_sellFor t ((((gDd_sh x) i) * (gDd_price x)) / 1000)).2)) i).toNatClampNeg) ((gDd_sh x) i) ((((gDd_sh x) i) * (gDd_price x)) / 1000) (gDd_ui x))) ((gLd_left (gTr_la (f_X6_takeUnits (sTr_la ((f_X6_sellFor t ((((gDd_sh x) i) * (gDd_price x)) / 1000)).2) (sLd_sold (gTr_la ((f_X6_sellFor t ((((gDd_sh x) i) * (gDd_price x)) / 1000)).2)) ((gLd_sold (gTr_la t)) + ((f_X6_sellFor t ((((gDd_sh x) i) * (gDd_price x)) / 1000)).1)))) ((gOd_ho (gTr_le ((f_X6_sellFor t ((((gDd_sh x) i) * (gDd_price x)) / 1000)).2)) i).toNatClampNeg) ((gDd_sh x) i) ((((gDd_sh x) i) * (gDd_price x)) / 1000) (gDd_ui x)))) + ((gDd_sh x) i))) ((gLd_still (gTr_la (f_X6_takeUnits (sTr_la ((f_X6_sellFor t ((((gDd_sh x) i) * (gDd_price x)) / 1000)).2) (sLd_sold (gTr_la ((f_X6_sellFor t ((((gDd_sh x) i) * (gDd_price x)) / 1000)).2)) ((gLd_sold (gTr_la t)) + ((f_X6_sellFor t ((((gDd_sh x) i) * (gDd_price x)) / 1000)).1)))) ((gOd_ho (gTr_le ((f_X6_sellFor t ((((gDd_sh x) i) * (gDd_price x)) / 1000)).2)) i).toNatClampNeg) ((gDd_sh x) i) ((((gDd_sh x) i) * (gDd_price x)) / 1000) (gDd_ui x)))) - ((gDd_sh x) i))))) := by refine (if_pos c_43).trans ?_; rfl
    rw [e] at hret
    exact hret _ _ dX0_payLeaver_115
  · have c_43 : ¬ (((((gDd_sh x) i) * (gDd_price x)) / 1000) ≤ (gTr_cash T_30)) := c
    refine zj_iconst C (v := (nI 0)) dX0_payLeaver_47 (by decide) ?_
    subst hV_34
    subst hR_30_1
    subst hT_30
    have e : f_X0_payLeaver x t i = (false, (sTr_la ((f_X6_sellFor t ((((gDd_sh x) i) * (gDd_price x)) / 1000)).2) (sLd_sold (gTr_la ((f_X6_sellFor t ((((gDd_sh x) i) * (gDd_price x)) / 1000)).2)) ((gLd_sold (gTr_la t)) + ((f_X6_sellFor t ((((gDd_sh x) i) * (gDd_price x)) / 1000)).1))))) := by refine (if_neg c_43).trans ?_; rfl
    rw [e] at hret
    exact hret _ _ dX0_payLeaver_48

theorem xpl_le (x : zDd) (t : zTr) (i : Nat) : gOd_n (gTr_le (f_X0_payLeaver x t i).2) = gOd_n (gTr_le t) ∧ gOd_ho (gTr_le (f_X0_payLeaver x t i).2) = gOd_ho (gTr_le t) ∧ gOd_dy (gTr_le (f_X0_payLeaver x t i).2) = gOd_dy (gTr_le t) ∧ gTr_bu (f_X0_payLeaver x t i).2 = gTr_bu t := by
  unfold f_X0_payLeaver
  have h1 := xle_sell t (gDd_sh x i * gDd_price x / 1000)
  have h2 := xbu_sell t (gDd_sh x i * gDd_price x / 1000)
  generalize f_X6_sellFor t (gDd_sh x i * gDd_price x / 1000) = Y at h1 h2
  dsimp only
  split
  · exact ⟨(by rw [h1] : gOd_n (gTr_le Y.2) = gOd_n (gTr_le t)), (by rw [h1] : gOd_ho (gTr_le Y.2) = gOd_ho (gTr_le t)), (by rw [h1] : gOd_dy (gTr_le Y.2) = gOd_dy (gTr_le t)), h2⟩
  · exact ⟨(by rw [h1] : gOd_n (gTr_le Y.2) = gOd_n (gTr_le t)), (by rw [h1] : gOd_ho (gTr_le Y.2) = gOd_ho (gTr_le t)), (by rw [h1] : gOd_dy (gTr_le Y.2) = gOd_dy (gTr_le t)), h2⟩

noncomputable def L_X0_pay (x : zDd) (due : Nat) : Nat → (zTr) → (Bool) → (Nat) → (zTr) × (Bool) × (Nat)
  | 0, X, go, k => (X, go, k)
  | fuel + 1, X, go, k =>
    if due ≤ k then
      (X, go, k)
    else
      if go = false then
        (X, go, k)
      else
        let x23_0 : Bool := (if ((gDd_sh x) k) ≤ 0 then go else ((f_X0_payLeaver x X k).1))
        let x23_1 : zTr := (if ((gDd_sh x) k) ≤ 0 then X else ((f_X0_payLeaver x X k).2))
        L_X0_pay x due fuel x23_1 x23_0 (k + 1)
theorem L_X0_pay_s (x : zDd) (due : Nat) (fuel : Nat) (X : zTr) (go : Bool) (k : Nat) : L_X0_pay x due (fuel + 1) X go k = (
    if due ≤ k then
      (X, go, k)
    else
      if go = false then
        (X, go, k)
      else
        let x23_0 : Bool := (if ((gDd_sh x) k) ≤ 0 then go else ((f_X0_payLeaver x X k).1))
        let x23_1 : zTr := (if ((gDd_sh x) k) ≤ 0 then X else ((f_X0_payLeaver x X k).2))
        L_X0_pay x due fuel x23_1 x23_0 (k + 1)
  ) := rfl
noncomputable def f_X0_payLeavers (x : zDd) (t : zTr) (due : Nat) : zTr :=
  let X1 : zTr := ((L_X0_pay x due (due - 0 + 1) t true 0).1)
  let go1 : Bool := ((L_X0_pay x due (due - 0 + 1) t true 0).2.1)
  let k1 : Nat := ((L_X0_pay x due (due - 0 + 1) t true 0).2.2)
  let T_45 : zOd := (f_X4_dropEmpty (gTr_le X1))
  (sTr_le X1 T_45)
set_option maxHeartbeats 4000000 in
set_option maxRecDepth 100000 in
theorem c_X0_payLeavers (l : Launch) (D : va_G) (cy : Nat → ClassId) (d0 d1 : Nat) (a : Nat → Nat) (due : Nat) (x : zDd) (t : zTr) (hd : due ≤ 20) (hn : gOd_n (gTr_le t) ≤ 20) (hv : ∀ i, i < due → vp_in (gOd_ho (gTr_le t) i) 6) : zC l yX0_payLeavers (zW yX0_payLeavers cX0_payLeavers 5 (Option.none : Option Jvm.ClassFile.FieldType)) { frames := 3, cells := 0, slots := 0, locals := 82 } D cy [.ref d0, .ref (a 0), .int (nI due)] ([(WD cy d0 d1 x), (WT cy a t)] : List va_W).flatten none ([(WD cy d0 d1 x), (WT cy a (f_X0_payLeavers x t due))] : List va_W).flatten := by
  refine zC_of rfl (Nat.le_of_ble_eq_true rfl) zOk_v (fun E C hret => ?_)
  show zJ E 5 0 0 ([(WD cy d0 d1 x), (WT cy a t)] : List va_W).flatten 0 [(0, .ref d0), (1, .ref (a 0)), (2, .int (nI due))] []
  refine zj_iconst C (v := (nI 1)) dX0_payLeavers_0 (by decide) ?_
  refine zj_istore_n C (L' := [(3, .int (nI 1)), (0, .ref d0), (1, .ref (a 0)), (2, .int (nI due))]) dX0_payLeavers_1 rfl (by decide) rfl ?_
  refine zj_iconst C (v := (nI 0)) dX0_payLeavers_2 (by decide) ?_
  refine zj_istore C (L' := [(4, .int (nI 0)), (3, .int (nI 1)), (0, .ref d0), (1, .ref (a 0)), (2, .int (nI due))]) dX0_payLeavers_3 (by decide) rfl ?_
  have loop_5 : ∀ (fuel : Nat) (X : zTr) (go : Bool) (k : Nat), (hk : k ≤ 20) → (hX : gOd_n (gTr_le X) = gOd_n (gTr_le t)) → (hho : gOd_ho (gTr_le X) = gOd_ho (gTr_le t)) → due - k < fuel → (gOd_n (gTr_le ((L_X0_pay x due fuel X go k).1)) = gOd_n (gTr_le t) → zJ E 5 0 0 ([(WD cy d0 d1 x), (WT cy a ((L_X0_pay x due fuel X go k).1))] : List va_W).flatten 41 [(1, .ref (a 0))] []) → zJ E 5 0 0 ([(WD cy d0 d1 x), (WT cy a X)] : List va_W).flatten 5 [(0, .ref d0), (1, .ref (a 0)), (2, .int (nI due)), (3, .int (zB go)), (4, .int (nI k))] [] := by
    intro fuel
    induction fuel with
    | zero => intro X go k hk hX hho hmu; exact absurd hmu (Nat.not_lt_zero _)
    | succ fuel ih_5 =>
      intro X go k hk hX hho hmu_5 K_5
      refine zj_iload C dX0_payLeavers_5 4 rfl ?_
      refine zj_iload_n C dX0_payLeavers_7 2 rfl ?_
      refine zj_icmp_ge C 41 dX0_payLeavers_8 (by decide) (fun c => ?_) (fun c => ?_)
      · have c_8 : due ≤ k := ((nI_leI (by omega) (by omega)).mp c)
        refine zj_sub (L' := [(1, .ref (a 0))]) [1] rfl ?_
        have e_5 : (L_X0_pay x due (fuel + 1) X go k) = (X, go, k) := by refine (L_X0_pay_s x due fuel X go k).trans ?_; refine (if_pos c_8).trans ?_; rfl
        rw [e_5] at K_5
        exact K_5 hX
      · have c_8 : ¬ (due ≤ k) := (fun q => c ((nI_leI (by omega) (by omega)).mpr q))
        refine zj_iload_n C dX0_payLeavers_11 3 rfl ?_
        refine zj_if_eq C 41 dX0_payLeavers_12 (by decide) (fun c => ?_) (fun c => ?_)
        · have c_12 : go = false := (zB_eq c)
          refine zj_sub (L' := [(1, .ref (a 0))]) [1] rfl ?_
          have e_5 : (L_X0_pay x due (fuel + 1) X go k) = (X, go, k) := by refine (L_X0_pay_s x due fuel X go k).trans ?_; refine (if_neg c_8).trans ?_; refine (if_pos c_12).trans ?_; rfl
          rw [e_5] at K_5
          exact K_5 hX
        · have c_12 : ¬ (go = false) := (zB_neq c)
          refine zj_aload_n C dX0_payLeavers_15 0 rfl ?_
          refine zj_get C 0 0 6 (v := .ref d1) inZ0 rfl rfl (by decide) tg_206 rfl dX0_payLeavers_16 ?_
          refine zj_iload C dX0_payLeavers_19 4 rfl ?_
          refine zj_lald C 1 (f := (gDd_sh x)) k (nI_clamp (by omega)) (vp_in_nI (by omega) (by omega)) rfl dX0_payLeavers_21 ?_
          refine zj_lconst C (v := 0) dX0_payLeavers_22 (by decide) ?_
          have J_23 : ∀ (x23_0 : Bool) (x23_1 : zTr), x23_0 = (if ((gDd_sh x) k) ≤ 0 then go else ((f_X0_payLeaver x X k).1)) → x23_1 = (if ((gDd_sh x) k) ≤ 0 then X else ((f_X0_payLeaver x X k).2)) → zJ E 5 0 0 ([(WD cy d0 d1 x), (WT cy a x23_1)] : List va_W).flatten 35 [(0, .ref d0), (1, .ref (a 0)), (2, .int (nI due)), (3, .int (zB x23_0)), (4, .int (nI k))] [] := by
            intro x23_0 x23_1 hx23_0 hx23_1
            refine zj_iinc C (j := 4) (v := (nI (k + 1))) (L' := [(4, .int (nI (k + 1))), (0, .ref d0), (1, .ref (a 0)), (2, .int (nI due)), (3, .int (zB x23_0))]) dX0_payLeavers_35 rfl (nI_1 _) (by decide) rfl ?_
            refine zj_goto C 5 dX0_payLeavers_38 (by decide) ?_
            refine zj_sub (L' := [(0, .ref d0), (1, .ref (a 0)), (2, .int (nI due)), (3, .int (zB x23_0)), (4, .int (nI (k + 1)))]) [1, 2, 3, 4, 0] rfl ?_
            have hn_hk : (k + 1) ≤ 20 := (by omega)
            have hn_hX : gOd_n (gTr_le x23_1) = gOd_n (gTr_le t) := (by rw [hx23_1]; split; exact hX; exact (xpl_le x X k).1.trans hX)
            have hn_hho : gOd_ho (gTr_le x23_1) = gOd_ho (gTr_le t) := (by rw [hx23_1]; split; exact hho; exact (xpl_le x X k).2.1.trans hho)
            have hn_mu : due - (k + 1) < fuel := (by omega)
            subst hx23_1
            subst hx23_0
            have e_5 : (L_X0_pay x due (fuel + 1) X go k) = (L_X0_pay x due fuel (if ((gDd_sh x) k) ≤ 0 then X else ((f_X0_payLeaver x X k).2)) (if ((gDd_sh x) k) ≤ 0 then go else ((f_X0_payLeaver x X k).1)) (k + 1)) := by refine (L_X0_pay_s x due fuel X go k).trans ?_; refine (if_neg c_8).trans ?_; refine (if_neg c_12).trans ?_; rfl
            rw [e_5] at K_5
            exact ih_5 (if ((gDd_sh x) k) ≤ 0 then X else ((f_X0_payLeaver x X k).2)) (if ((gDd_sh x) k) ≤ 0 then go else ((f_X0_payLeaver x X k).1)) (k + 1) hn_hk hn_hX hn_hho hn_mu K_5
          refine zj_lcmp_le C 35 dX0_payLeavers_23 dX0_payLeavers_24 (by decide) (fun c => ?_) (fun c => ?_)
          · have c_23 : ((gDd_sh x) k) ≤ 0 := c
            exact J_23 go X (by simp only [if_neg c_8, if_neg c_12, if_pos c_23]; first | done | assumption) (by simp only [if_neg c_8, if_neg c_12, if_pos c_23]; first | done | assumption)
          · have c_23 : ¬ (((gDd_sh x) k) ≤ 0) := c
            refine zj_aload_n C dX0_payLeavers_27 0 rfl ?_
            refine zj_aload_n C dX0_payLeavers_28 1 rfl ?_
            refine zj_iload C dX0_payLeavers_29 4 rfl ?_
            have M_31 := c_X0_payLeaver l D cy d0 d1 a k x X (by omega) (by rw [hho]; exact hv k (by omega))
            obtain ⟨T_31, hT_31⟩ : ∃ g : zTr, g = ((f_X0_payLeaver x X k).2) := ⟨_, rfl⟩
            rw [← hT_31] at M_31
            obtain ⟨R_31_1, hR_31_1⟩ : ∃ g : Bool, g = ((f_X0_payLeaver x X k).1) := ⟨_, rfl⟩
            rw [← hR_31_1] at M_31
            refine zj_callVF C (nn := 20) (Bs' := ([(WD cy d0 d1 x), (WT cy a T_31)] : List va_W)) (st := []) (st1 := [.int (zB R_31_1)]) [(WD cy d0 d1 x), (WT cy a X)] [(WD cy d0 d1 x), (WT cy a T_31)] [0, 1] 0 0 (M_31) rfl rfl (zg_V tg_473 tg_470 tg_472 tgp_7 tg_6) ⟨rfl, hdZ_X0_payLeaver⟩ ⟨rfl, rfl⟩ ⟨by decide, by decide⟩ rfl rfl rfl (by decide) ⟨rfl, rfl⟩ rfl rfl rfl (Nat.le_of_ble_eq_true rfl) dX0_payLeavers_31 rfl rfl ?_
            refine zj_istore_n C (L' := [(3, .int (zB R_31_1)), (0, .ref d0), (1, .ref (a 0)), (2, .int (nI due)), (4, .int (nI k))]) dX0_payLeavers_34 rfl (by decide) rfl ?_
            refine zj_sub (L' := [(0, .ref d0), (1, .ref (a 0)), (2, .int (nI due)), (3, .int (zB R_31_1)), (4, .int (nI k))]) [1, 2, 3, 0, 4] rfl ?_
            subst hR_31_1
            subst hT_31
            exact J_23 ((f_X0_payLeaver x X k).1) ((f_X0_payLeaver x X k).2) (by simp only [if_neg c_8, if_neg c_12, if_neg c_23]; first | done | assumption) (by simp only [if_neg c_8, if_neg c_12, if_neg c_23]; first | done | assumption)
  have K_5 : ∀ (X1 : zTr) (go1 : Bool) (k1 : Nat), X1 = ((L_X0_pay x due (due - 0 + 1) t true 0).1) → go1 = ((L_X0_pay x due (due - 0 + 1) t true 0).2.1) → k1 = ((L_X0_pay x due (due - 0 + 1) t true 0).2.2) → (pX_e : gOd_n (gTr_le X1) = gOd_n (gTr_le t)) → zJ E 5 0 0 ([(WD cy d0 d1 x), (WT cy a X1)] : List va_W).flatten 41 [(1, .ref (a 0))] [] := by
    intro X1 go1 k1 hX1 hgo1 hk1 pX_e
    refine zj_aload_n C dX0_payLeavers_41 0 rfl ?_
    refine zj_get C 2 6 9 (v := .ref (a 7)) inZ6 rfl rfl (by decide) tg_163 rfl dX0_payLeavers_42 ?_
    have M_45 := c_X4_dropEmpty l D cy (a 7) (a 8) (a 9) (a 10)  (gTr_le X1) (by rw [pX_e]; exact hn)
    obtain ⟨T_45, hT_45⟩ : ∃ g : zOd, g = (f_X4_dropEmpty (gTr_le X1)) := ⟨_, rfl⟩
    rw [← hT_45] at M_45
    refine zj_callVP C (nn := 4) (w := (WT cy a X1)) (w' := (WT cy a (sTr_le X1 T_45))) (Bs' := ([(WD cy d0 d1 x), (WT cy a (sTr_le X1 T_45))] : List va_W)) (st := []) (st1 := []) 1 [7, 8, 9, 10] 7 4 (M_45) (zg_V tg_487 tg_484 tg_485 tg_486 tg_4) ⟨rfl, hdZ_X4_dropEmpty⟩ ⟨rfl, rfl⟩ ⟨by decide, by decide⟩ rfl rfl rfl rfl (by decide) ⟨rfl, rfl⟩ rfl rfl (Nat.le_of_ble_eq_true rfl) dX0_payLeavers_45 rfl rfl rfl ?_
    subst hT_45
    subst hk1
    subst hgo1
    subst hX1
    have e : f_X0_payLeavers x t due = (sTr_le ((L_X0_pay x due (due - 0 + 1) t true 0).1) (f_X4_dropEmpty (gTr_le ((L_X0_pay x due (due - 0 + 1) t true 0).1)))) := by rfl
    rw [e] at hret
    exact hret _ _ dX0_payLeavers_48
  refine zj_sub (L' := [(0, .ref d0), (1, .ref (a 0)), (2, .int (nI due)), (3, .int (nI 1)), (4, .int (nI 0))]) [2, 3, 4, 1, 0] rfl ?_
  exact loop_5 (due - 0 + 1) t true 0 (by omega) rfl rfl (Nat.lt_succ_self _) (K_5 _ _ _ rfl rfl rfl)
