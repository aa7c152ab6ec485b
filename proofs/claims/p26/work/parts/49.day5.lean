theorem L_pay_bu (x : zDd) (due : Nat) : ∀ (n : Nat) (X : zTr) (go : Bool) (k : Nat), gTr_bu (L_X0_pay x due n X go k).1 = gTr_bu X
  | 0, X, go, k => rfl
  | n + 1, X, go, k => by
    rw [L_X0_pay_s]
    split
    · rfl
    · split
      · rfl
      · dsimp only
        rw [L_pay_bu x due n]
        split
        · rfl
        · exact (xpl_le x X k).2.2.2
theorem xpay_bu (x : zDd) (t : zTr) (due : Nat) : gTr_bu (f_X0_payLeavers x t due) = gTr_bu t := L_pay_bu x due _ t true 0

noncomputable def f_X0_run (x : zDd) (t : zTr) : Int32 × zDd × zTr := zsl (
  let T_2 : zDd := (f_X0_takePrice x t)
  let T_10 : zLd := (f_X3_start (gTr_la t) T_2)
  let R_26 : Nat := (f_X4_dueOn (gTr_le t) (gTr_day t))
  let T_29 : zDd := (f_X0_shareOut T_2 (gTr_le t) R_26)
  let R_42 : Nat := (f_X4_dueOn (gTr_le t) (gTr_day t))
  let T_45 : zTr := (f_X0_payLeavers T_29 (sTr_la t T_10) R_42)
  let R_58 : Nat := (f_X4_dueOn (gTr_bu T_45) (gTr_day T_45))
  let T_61 : zTr := (f_X0_doBuyers T_29 T_45 R_58)
  let V_71 : Int32 := ((gTr_day T_61) + (nI 1))
  (V_71, T_29, (sTr_day T_61 V_71))
  )
set_option maxHeartbeats 4000000 in
set_option maxRecDepth 100000 in
theorem c_X0_run (l : Launch) (D : va_G) (cy : Nat → ClassId) (d0 d1 : Nat) (a : Nat → Nat)  (x : zDd) (t : zTr) (hb : gOd_n (gTr_bu t) ≤ 20) (hl : gOd_n (gTr_le t) ≤ 20) (hvb : ∀ i, i < gOd_n (gTr_bu t) → vp_in (gOd_ho (gTr_bu t) i) 6) (hvl : ∀ i, i < gOd_n (gTr_le t) → vp_in (gOd_ho (gTr_le t) i) 6) : zC l yX0_run (zW yX0_run cX0_run 2 (Option.some Jvm.ClassFile.FieldType.int)) { frames := 4, cells := 0, slots := 0, locals := 106 } D cy [.ref d0, .ref (a 0)] ([(WD cy d0 d1 x), (WT cy a t)] : List va_W).flatten (some (.int ((f_X0_run x t).1))) ([(WD cy d0 d1 ((f_X0_run x t).2.1)), (WT cy a ((f_X0_run x t).2.2))] : List va_W).flatten := by
  refine zC_of rfl (Nat.le_of_ble_eq_true rfl) (zOk_i _) (fun E C hret => ?_)
  show zJ E 2 0 0 ([(WD cy d0 d1 x), (WT cy a t)] : List va_W).flatten 0 [(0, .ref d0), (1, .ref (a 0))] []
  refine zj_aload_n C dX0_run_0 0 rfl ?_
  refine zj_aload_n C dX0_run_1 1 rfl ?_
  have M_2 := c_X0_takePrice l D cy d0 d1 a  x t hb hl
  obtain ⟨T_2, hT_2⟩ : ∃ g : zDd, g = (f_X0_takePrice x t) := ⟨_, rfl⟩
  rw [← hT_2] at M_2
  refine zj_callVF C (nn := 20) (Bs' := ([(WD cy d0 d1 T_2), (WT cy a t)] : List va_W)) (st := []) (st1 := []) [(WD cy d0 d1 x), (WT cy a t)] [(WD cy d0 d1 T_2), (WT cy a t)] [0, 1] 0 0 (M_2) rfl rfl (zg_V tg_428 tg_425 tg_427 tgp_3 tg_6) ⟨rfl, hdZ_X0_takePrice⟩ ⟨rfl, rfl⟩ ⟨by decide, by decide⟩ rfl rfl rfl (by decide) ⟨rfl, rfl⟩ rfl rfl rfl (Nat.le_of_ble_eq_true rfl) dX0_run_2 rfl rfl ?_
  refine zj_aload_n C dX0_run_5 1 rfl ?_
  refine zj_get C 2 6 10 (v := .ref (a 11)) inZ6 rfl rfl (by decide) tg_166 rfl dX0_run_6 ?_
  refine zj_aload_n C dX0_run_9 0 rfl ?_
  have M_10 := c_X3_start l D cy (a 11) d0 d1  (gTr_la t) T_2 
  obtain ⟨T_10, hT_10⟩ : ∃ g : zLd, g = (f_X3_start (gTr_la t) T_2) := ⟨_, rfl⟩
  rw [← hT_10] at M_10
  refine zj_callV C (nn := 3) (ws' := ([(WD cy d0 d1 T_2), (WT cy a (sTr_la t T_10))] : List va_W).flatten) (st := []) (st1 := []) 13 3 [13, 0, 1] (M_10) (zg_V tg_457 tg_454 tg_455 tg_456 tg_5) ⟨rfl, hdZ_X3_start⟩ ⟨rfl, rfl⟩ ⟨by decide, by decide⟩ rfl rfl rfl (by decide) ⟨rfl, rfl⟩ rfl rfl (Nat.le_of_ble_eq_true rfl) dX0_run_10 rfl rfl ?_
  refine zj_aload_n C dX0_run_13 0 rfl ?_
  refine zj_aload_n C dX0_run_14 1 rfl ?_
  refine zj_get C 2 6 9 (v := .ref (a 7)) inZ6 rfl rfl (by decide) tg_163 rfl dX0_run_15 ?_
  refine zj_aload_n C dX0_run_18 1 rfl ?_
  refine zj_get C 2 6 9 (v := .ref (a 7)) inZ6 rfl rfl (by decide) tg_163 rfl dX0_run_19 ?_
  refine zj_aload_n C dX0_run_22 1 rfl ?_
  refine zj_get C 2 6 5 (v := .int (gTr_day t)) inZ6 rfl rfl (by decide) tg_151 rfl dX0_run_23 ?_
  have M_26 := c_X4_dueOn l D cy (a 7) (a 8) (a 9) (a 10) (gTr_day t) (gTr_le t) hl
  obtain ⟨R_26, hR_26⟩ : ∃ g : Nat, g = (f_X4_dueOn (gTr_le t) (gTr_day t)) := ⟨_, rfl⟩
  rw [← hR_26] at M_26
  refine zj_callVP C (nn := 4) (w := (WT cy a (sTr_la t T_10))) (w' := (WT cy a (sTr_la t T_10))) (Bs' := ([(WD cy d0 d1 T_2), (WT cy a (sTr_la t T_10))] : List va_W)) (st := [.ref (a 7), .ref d0]) (st1 := [.int (nI R_26), .ref (a 7), .ref d0]) 1 [7, 8, 9, 10] 7 4 (M_26) (zg_V tg_443 tg_440 tg_441 tg_442 tg_4) ⟨rfl, hdZ_X4_dueOn⟩ ⟨rfl, rfl⟩ ⟨by decide, by decide⟩ rfl rfl rfl rfl (by decide) ⟨rfl, rfl⟩ rfl rfl (Nat.le_of_ble_eq_true rfl) dX0_run_26 rfl rfl rfl ?_
  have q26 : R_26 ≤ 20 := by rw [hR_26]; exact Nat.le_trans xdue_le hl
  have M_29 := c_X0_shareOut l D cy d0 d1 (a 7) (a 8) (a 9) (a 10) R_26 T_2 (gTr_le t) q26
  obtain ⟨T_29, hT_29⟩ : ∃ g : zDd, g = (f_X0_shareOut T_2 (gTr_le t) R_26) := ⟨_, rfl⟩
  rw [← hT_29] at M_29
  refine zj_callV C (nn := 6) (ws' := ([(WD cy d0 d1 T_29), (WT cy a (sTr_la t T_10))] : List va_W).flatten) (st := []) (st1 := []) 0 0 [0, 1, 9, 10, 11, 12] (M_29) (zg_V tg_461 tg_458 tg_460 tgp_4 tg_6) ⟨rfl, hdZ_X0_shareOut⟩ ⟨rfl, rfl⟩ ⟨by decide, by decide⟩ rfl rfl rfl (by decide) ⟨rfl, rfl⟩ rfl rfl (Nat.le_of_ble_eq_true rfl) dX0_run_29 rfl rfl ?_
  refine zj_aload_n C dX0_run_32 0 rfl ?_
  refine zj_aload_n C dX0_run_33 1 rfl ?_
  refine zj_aload_n C dX0_run_34 1 rfl ?_
  refine zj_get C 2 6 9 (v := .ref (a 7)) inZ6 rfl rfl (by decide) tg_163 rfl dX0_run_35 ?_
  refine zj_aload_n C dX0_run_38 1 rfl ?_
  refine zj_get C 2 6 5 (v := .int (gTr_day t)) inZ6 rfl rfl (by decide) tg_151 rfl dX0_run_39 ?_
  have M_42 := c_X4_dueOn l D cy (a 7) (a 8) (a 9) (a 10) (gTr_day t) (gTr_le t) hl
  obtain ⟨R_42, hR_42⟩ : ∃ g : Nat, g = (f_X4_dueOn (gTr_le t) (gTr_day t)) := ⟨_, rfl⟩
  rw [← hR_42] at M_42
  refine zj_callVP C (nn := 4) (w := (WT cy a (sTr_la t T_10))) (w' := (WT cy a (sTr_la t T_10))) (Bs' := ([(WD cy d0 d1 T_29), (WT cy a (sTr_la t T_10))] : List va_W)) (st := [.ref (a 0), .ref d0]) (st1 := [.int (nI R_42), .ref (a 0), .ref d0]) 1 [7, 8, 9, 10] 7 4 (M_42) (zg_V tg_443 tg_440 tg_441 tg_442 tg_4) ⟨rfl, hdZ_X4_dueOn⟩ ⟨rfl, rfl⟩ ⟨by decide, by decide⟩ rfl rfl rfl rfl (by decide) ⟨rfl, rfl⟩ rfl rfl (Nat.le_of_ble_eq_true rfl) dX0_run_42 rfl rfl rfl ?_
  have q42 : R_42 ≤ 20 := by rw [hR_42]; exact Nat.le_trans xdue_le hl
  have M_45 := c_X0_payLeavers l D cy d0 d1 a R_42 T_29 (sTr_la t T_10) q42 hl (fun i hi => hvl i (Nat.lt_of_lt_of_le hi (by rw [hR_42]; exact xdue_le)))
  obtain ⟨T_45, hT_45⟩ : ∃ g : zTr, g = (f_X0_payLeavers T_29 (sTr_la t T_10) R_42) := ⟨_, rfl⟩
  rw [← hT_45] at M_45
  refine zj_callVF C (nn := 20) (Bs' := ([(WD cy d0 d1 T_29), (WT cy a T_45)] : List va_W)) (st := []) (st1 := []) [(WD cy d0 d1 T_29), (WT cy a (sTr_la t T_10))] [(WD cy d0 d1 T_29), (WT cy a T_45)] [0, 1] 0 0 (M_45) rfl rfl (zg_V tg_469 tg_466 tg_468 tgp_6 tg_6) ⟨rfl, hdZ_X0_payLeavers⟩ ⟨rfl, rfl⟩ ⟨by decide, by decide⟩ rfl rfl rfl (by decide) ⟨rfl, rfl⟩ rfl rfl rfl (Nat.le_of_ble_eq_true rfl) dX0_run_45 rfl rfl ?_
  have b45 : gTr_bu T_45 = gTr_bu t := by { rw [hT_45]; exact xpay_bu _ _ _ }
  refine zj_aload_n C dX0_run_48 0 rfl ?_
  refine zj_aload_n C dX0_run_49 1 rfl ?_
  refine zj_aload_n C dX0_run_50 1 rfl ?_
  refine zj_get C 2 6 8 (v := .ref (a 3)) inZ6 rfl rfl (by decide) tg_160 rfl dX0_run_51 ?_
  refine zj_aload_n C dX0_run_54 1 rfl ?_
  refine zj_get C 2 6 5 (v := .int (gTr_day T_45)) inZ6 rfl rfl (by decide) tg_151 rfl dX0_run_55 ?_
  have M_58 := c_X4_dueOn l D cy (a 3) (a 4) (a 5) (a 6) (gTr_day T_45) (gTr_bu T_45) (by rw [b45]; exact hb)
  obtain ⟨R_58, hR_58⟩ : ∃ g : Nat, g = (f_X4_dueOn (gTr_bu T_45) (gTr_day T_45)) := ⟨_, rfl⟩
  rw [← hR_58] at M_58
  refine zj_callVP C (nn := 4) (w := (WT cy a T_45)) (w' := (WT cy a T_45)) (Bs' := ([(WD cy d0 d1 T_29), (WT cy a T_45)] : List va_W)) (st := [.ref (a 0), .ref d0]) (st1 := [.int (nI R_58), .ref (a 0), .ref d0]) 1 [3, 4, 5, 6] 3 4 (M_58) (zg_V tg_443 tg_440 tg_441 tg_442 tg_4) ⟨rfl, hdZ_X4_dueOn⟩ ⟨rfl, rfl⟩ ⟨by decide, by decide⟩ rfl rfl rfl rfl (by decide) ⟨rfl, rfl⟩ rfl rfl (Nat.le_of_ble_eq_true rfl) dX0_run_58 rfl rfl rfl ?_
  have q58 : R_58 ≤ gOd_n (gTr_bu t) := by { rw [hR_58, b45]; exact xdue_le }
  have M_61 := c_X0_doBuyers l D cy d0 d1 a R_58 T_29 T_45 (Nat.le_trans q58 hb) (by rw [b45]; exact hb) (by rw [b45]; exact fun i hi => hvb i (Nat.lt_of_lt_of_le hi q58))
  obtain ⟨T_61, hT_61⟩ : ∃ g : zTr, g = (f_X0_doBuyers T_29 T_45 R_58) := ⟨_, rfl⟩
  rw [← hT_61] at M_61
  refine zj_callVF C (nn := 20) (Bs' := ([(WD cy d0 d1 T_29), (WT cy a T_61)] : List va_W)) (st := []) (st1 := []) [(WD cy d0 d1 T_29), (WT cy a T_45)] [(WD cy d0 d1 T_29), (WT cy a T_61)] [0, 1] 0 0 (M_61) rfl rfl (zg_V tg_491 tg_488 tg_490 tgp_8 tg_6) ⟨rfl, hdZ_X0_doBuyers⟩ ⟨rfl, rfl⟩ ⟨by decide, by decide⟩ rfl rfl rfl (by decide) ⟨rfl, rfl⟩ rfl rfl rfl (Nat.le_of_ble_eq_true rfl) dX0_run_61 rfl rfl ?_
  refine zj_aload_n C dX0_run_64 1 rfl ?_
  refine zj_dup C dX0_run_65 rfl ?_
  refine zj_get C 2 6 5 (v := .int (gTr_day T_61)) inZ6 rfl rfl (by decide) tg_151 rfl dX0_run_66 ?_
  refine zj_iconst C (v := (nI 1)) dX0_run_69 (by decide) ?_
  refine zj_iadd C dX0_run_70 ?_
  refine zj_topig (fun V_71 hV_71 => ?_)
  refine zj_put C 2 6 5 (v := .int V_71) (ws' := ([(WD cy d0 d1 T_29), (WT cy a (sTr_day T_61 V_71))] : List va_W).flatten) tyX6 tyX6_ok nmX6 inZ6 rfl rfl (by decide) tg_151 rfl rfl rfl (Nat.le_of_ble_eq_true rfl) dX0_run_71 rfl ?_
  refine zj_aload_n C dX0_run_74 1 rfl ?_
  refine zj_get C 2 6 5 (v := .int V_71) inZ6 rfl rfl (by decide) tg_151 rfl dX0_run_75 ?_
  subst hV_71
  subst hT_61
  subst hR_58
  subst hT_45
  subst hR_42
  subst hT_29
  subst hR_26
  subst hT_10
  subst hT_2
  have e : f_X0_run x t = (((gTr_day (f_X0_doBuyers (f_X0_shareOut (f_X0_takePrice x t) (gTr_le t) (f_X4_dueOn (gTr_le t) (gTr_day t))) (f_X0_payLeavers (f_X0_shareOut (f_X0_takePrice x t) (gTr_le t) (f_X4_dueOn (gTr_le t) (gTr_day t))) (sTr_la t (f_X3_start (gTr_la t) (f_X0_takePrice x t))) (f_X4_dueOn (gTr_le t) (gTr_day t))) (f_X4_dueOn (gTr_bu (f_X0_payLeavers (f_X0_shareOut (f_X0_takePrice x t) (gTr_le t) (f_X4_dueOn (gTr_le t) (gTr_day t))) (sTr_la t (f_X3_start (gTr_la t) (f_X0_takePrice x t))) (f_X4_dueOn (gTr_le t) (gTr_day t)))) (gTr_day (f_X0_payLeavers (f_X0_shareOut (f_X0_takePrice x t) (gTr_le t) (f_X4_dueOn (gTr_le t) (gTr_day t))) (sTr_la t (f_X3_start (gTr_la t) (f_X0_takePrice x t))) (f_X4_dueOn (gTr_le t) (gTr_day t))))))) + (nI 1)), (f_X0_shareOut (f_X0_takePrice x t) (gTr_le t) (f_X4_dueOn (gTr_le t) (gTr_day t))), (sTr_day (f_X0_doBuyers (f_X0_shareOut (f_X0_takePrice x t) (gTr_le t) (f_X4_dueOn (gTr_le t) (gTr_day t))) (f_X0_payLeavers (f_X0_shareOut (f_X0_takePrice x t) (gTr_le t) (f_X4_dueOn (gTr_le t) (gTr_day t))) (sTr_la t (f_X3_start (gTr_la t) (f_X0_takePrice x t))) (f_X4_dueOn (gTr_le t) (gTr_day t))) (f_X4_dueOn (gTr_bu (f_X0_payLeavers (f_X0_shareOut (f_X0_takePrice x t) (gTr_le t) (f_X4_dueOn (gTr_le t) (gTr_day t))) (sTr_la t (f_X3_start (gTr_la t) (f_X0_takePrice x t))) (f_X4_dueOn (gTr_le t) (gTr_day t)))) (gTr_day (f_X0_payLeavers (f_X0_shareOut (f_X0_takePrice x t) (gTr_le t) (f_X4_dueOn (gTr_le t) (gTr_day t))) (sTr_la t (f_X3_start (gTr_la t) (f_X0_takePrice x t))) (f_X4_dueOn (gTr_le t) (gTr_day t)))))) ((gTr_day (f_X0_doBuyers (f_X0_shareOut (f_X0_takePrice x t) (gTr_le t) (f_X4_dueOn (gTr_le t) (gTr_day t))) (f_X0_payLeavers (f_X0_shareOut (f_X0_takePrice x t) (gTr_le t) (f_X4_dueOn (gTr_le t) (gTr_day t))) (sTr_la t (f_X3_start (gTr_la t) (f_X0_takePrice x t))) (f_X4_dueOn (gTr_le t) (gTr_day t))) (f_X4_dueOn (gTr_bu (f_X0_payLeavers (f_X0_shareOut (f_X0_takePrice x t) (gTr_le t) (f_X4_dueOn (gTr_le t) (gTr_day t))) (sTr_la t (f_X3_start (gTr_la t) (f_X0_takePrice x t))) (f_X4_dueOn (gTr_le t) (gTr_day t)))) (gTr_day (f_X0_payLeavers (f_X0_shareOut (f_X0_takePrice x t) (gTr_le t) (f_X4_dueOn (gTr_le t) (gTr_day t))) (sTr_la t (f_X3_start (gTr_la t) (f_X0_takePrice x t))) (f_X4_dueOn (gTr_le t) (gTr_day t))))))) + (nI 1)))) := by refine (zsl_e _).trans ?_; rfl
  rw [e] at hret
  exact hret _ _ dX0_run_78
