theorem WSL_hC {A B C T : va_W} {cy : Nat → ClassId} {sl : Nat → Nat → Nat} {st : Nat → zTr} {i : Nat} (hi : i < 2) : ([4 + i, 3] : List Nat).map (fun k => (([A, B, C, T] : List va_W) ++ WSL cy sl st)[k]?) = ([WT cy (sl i) (st i), T] : List va_W).map some := by
  rcases (show i = 0 ∨ i = 1 by omega) with rfl | rfl <;> rfl
theorem WSL_set {A B C T : va_W} {cy : Nat → ClassId} {sl : Nat → Nat → Nat} {st : Nat → zTr} {i : Nat} (t : zTr) (hi : i < 2) : zV (([A, B, C, T] : List va_W) ++ WSL cy sl st) [4 + i, 3] [WT cy (sl i) t, T] = ([A, B, C, T] : List va_W) ++ WSL cy sl (zup st i t) := by
  rcases (show i = 0 ∨ i = 1 by omega) with rfl | rfl <;> rfl
theorem WSH_hC2 {A B C T H : va_W} {cy : Nat → ClassId} {hs sl : Nat → Nat → Nat} {h st : Nat → zTr} {i : Nat} (hi : i < 2) : ([3, 12 + i] : List Nat).map (fun k => (([A, B, C, T, H] : List va_W) ++ (WHL cy hs h ++ WSL cy sl st))[k]?) = ([T, WT cy (sl i) (st i)] : List va_W).map some := by
  rcases (show i = 0 ∨ i = 1 by omega) with rfl | rfl <;> rfl
theorem WSH_set2 {A B C T H : va_W} {cy : Nat → ClassId} {hs sl : Nat → Nat → Nat} {h st : Nat → zTr} {i : Nat} (T' : va_W) (hi : i < 2) : zV (([A, B, C, T, H] : List va_W) ++ (WHL cy hs h ++ WSL cy sl st)) [3, 12 + i] [T', WT cy (sl i) (st i)] = ([A, B, C, T', H] : List va_W) ++ (WHL cy hs h ++ WSL cy sl st) := by
  rcases (show i = 0 ∨ i = 1 by omega) with rfl | rfl <;> rfl
theorem xsl {s : Int32} (h0 : ¬ s < 0) (h1 : s < nI 2) : s = nI s.toNatClampNeg ∧ s.toNatClampNeg < 2 := by
  obtain ⟨j, hj, rfl⟩ := nI_of h0
  rw [nI_ltI hj (by decide)] at h1
  rw [nI_clamp hj]
  exact ⟨rfl, h1⟩
theorem L_ff_k {x : zPd} (T : zPd) : ∀ (n : Nat) (X : zPd) (k : Nat), zpd X → zpk x X → gPd_n (L_X5_fault T n X k).2.2.1 = gPd_n x ∧ gPd_sg (L_X5_fault T n X k).2.2.1 = gPd_sg x
  | 0, X, k, z, h => ⟨h.1, h.2.1⟩
  | n + 1, X, k, z, h => by
    rw [L_X5_fault_s]
    have k1 := zk_order z
    have z1 := zpd_of z k1
    generalize f_X5_readOrder X = Y at k1 z1
    have h1 := zpk_t h k1
    by_cases c1 : 80 ≤ k
    · rw [if_pos c1]; exact ⟨h.1, h.2.1⟩
    rw [if_neg c1]
    dsimp only
    by_cases c2 : Y.1 = false
    · rw [if_pos c2]; exact ⟨h1.1, h1.2.1⟩
    rw [if_neg c2]
    by_cases c3 : gPd_at Y.2 < gPd_n Y.2
    · rw [if_pos c3]
      have k2 := zk_skip (sg := nI 59) (by decide) z1
      have z2 := zpd_of z1 k2
      generalize f_X5_skip Y.2 (nI 59) = W at k2 z2
      have h2 := zpk_t h1 k2
      by_cases c4 : W.1 = false
      · rw [if_pos c4]; exact ⟨h2.1, h2.2.1⟩
      · rw [if_neg c4]; exact L_ff_k T n W.2 (k + 1) z2 h2
    · rw [if_neg c3]; exact ⟨h1.1, h1.2.1⟩
theorem xff {x : zPd} (hn : gPd_n x ≤ 80) (hsg : ∀ i, zch (gPd_sg x i)) : gPd_n (f_X5_findFault x).2 = gPd_n x ∧ gPd_sg (f_X5_findFault x).2 = gPd_sg x := by
  have z : zpd (f_X5_start x) := ⟨hn, Nat.zero_le _, hsg⟩
  have h := L_ff_k (f_X5_start x) (80 - 0 + 1) (f_X5_start x) 0 z (zpk_r z)
  unfold f_X5_findFault
  rw [zsl_e]
  dsimp only
  split
  · exact h
  · exact h

noncomputable def f_X7_carryOutOrder (t : zTr) (x : zDd) (z : zPd) : Int32 × zTr × zDd := zsl (
  if (gPd_kd z) = nI 98 then
    let T_81 : zTr := ((f_X6_orderToBuy t (gPd_ho z) (gPd_nu z) (gPd_hr z)).2)
    let R_81_1 : Int32 := ((f_X6_orderToBuy t (gPd_ho z) (gPd_nu z) (gPd_hr z)).1)
    (R_81_1, T_81, x)
  else
    if (gPd_kd z) = nI 100 then
      let T_152 : zDd := ((f_X0_run x t).2.1)
      let T_152_1 : zTr := ((f_X0_run x t).2.2)
      let R_152_2 : Int32 := ((f_X0_run x t).1)
      (R_152_2, T_152_1, T_152)
    else
      if (gPd_kd z) = nI 105 then
        let T_140 : zTr := ((f_X6_takeIncome t (gPd_nu z)).2)
        let R_140_1 : Int32 := ((f_X6_takeIncome t (gPd_nu z)).1)
        (R_140_1, T_140, x)
      else
        if (gPd_kd z) = nI 108 then
          let T_110 : zTr := ((f_X6_orderToLeave t (gPd_ho z) (gPd_nu z) (gPd_hr z)).2)
          let R_110_1 : Int32 := ((f_X6_orderToLeave t (gPd_ho z) (gPd_nu z) (gPd_hr z)).1)
          (R_110_1, T_110, x)
        else
          if (gPd_kd z) = nI 113 then
            let T_125 : zTr := ((f_X6_changeQuote t (gPd_nu z)).2)
            let R_125_1 : Int32 := ((f_X6_changeQuote t (gPd_nu z)).1)
            (R_125_1, T_125, x)
          else
            let T_160 : zTr := ((f_X6_payIncome t).2)
            let R_160_1 : Int32 := ((f_X6_payIncome t).1)
            (R_160_1, T_160, x)
  )
set_option maxHeartbeats 4000000 in
set_option maxRecDepth 100000 in
theorem c_X7_carryOutOrder (l : Launch) (D : va_G) (cy : Nat → ClassId) (x0 x1 x2 d0 d1 p0 p1 h0 h1 : Nat) (a b : Nat → Nat) (hs sl : Nat → Nat → Nat)  (t : zTr) (x : zDd) (z : zPd) (hok : okT t) : zC l yX7_carryOutOrder (zW yX7_carryOutOrder cX7_carryOutOrder 1 (Option.some Jvm.ClassFile.FieldType.int)) { frames := 5, cells := 0, slots := 0, locals := 127 } D cy [.ref x0] ([(WX0 x0 x1 x2 a b d0 p0 h0), (WT cy a t), (WD cy d0 d1 x), (WP cy p0 p1 z)] : List va_W).flatten (some (.int ((f_X7_carryOutOrder t x z).1))) ([(WX0 x0 x1 x2 a b d0 p0 h0), (WT cy a ((f_X7_carryOutOrder t x z).2.1)), (WD cy d0 d1 ((f_X7_carryOutOrder t x z).2.2)), (WP cy p0 p1 z)] : List va_W).flatten := by
  refine zC_of rfl (Nat.le_of_ble_eq_true rfl) (zOk_i _) (fun E C hret => ?_)
  show zJ E 1 0 0 ([(WX0 x0 x1 x2 a b d0 p0 h0), (WT cy a t), (WD cy d0 d1 x), (WP cy p0 p1 z)] : List va_W).flatten 0 [(0, .ref x0)] []
  refine zj_aload_n C dX7_carryOutOrder_0 0 rfl ?_
  refine zj_get C 0 7 3 (v := .ref p0) inZ7 rfl rfl (by decide) tg_280 rfl dX7_carryOutOrder_1 ?_
  refine zj_get C 21 5 6 (v := .int (gPd_kd z)) inZ5 rfl rfl (by decide) tg_240 rfl dX7_carryOutOrder_4 ?_
  by_cases c_7_98 : (gPd_kd z) = nI 98
  · refine zj_topi (nI 98) c_7_98 ?_
    refine zj_look C (off := 49) 56 dX7_carryOutOrder_7 (by decide) (by decide) (by decide) ?_
    refine zj_aload_n C dX7_carryOutOrder_56 0 rfl ?_
    refine zj_get C 0 7 0 (v := .ref (a 0)) inZ7 rfl rfl (by decide) tg_277 rfl dX7_carryOutOrder_57 ?_
    refine zj_aload_n C dX7_carryOutOrder_60 0 rfl ?_
    refine zj_get C 0 7 3 (v := .ref p0) inZ7 rfl rfl (by decide) tg_280 rfl dX7_carryOutOrder_61 ?_
    refine zj_get C 21 5 3 (v := .int (gPd_ho z)) inZ5 rfl rfl (by decide) tg_234 rfl dX7_carryOutOrder_64 ?_
    refine zj_aload_n C dX7_carryOutOrder_67 0 rfl ?_
    refine zj_get C 0 7 3 (v := .ref p0) inZ7 rfl rfl (by decide) tg_280 rfl dX7_carryOutOrder_68 ?_
    refine zj_get C 21 5 4 (v := .int (gPd_nu z)) inZ5 rfl rfl (by decide) tg_236 rfl dX7_carryOutOrder_71 ?_
    refine zj_aload_n C dX7_carryOutOrder_74 0 rfl ?_
    refine zj_get C 0 7 3 (v := .ref p0) inZ7 rfl rfl (by decide) tg_280 rfl dX7_carryOutOrder_75 ?_
    refine zj_get C 21 5 5 (v := .int (gPd_hr z)) inZ5 rfl rfl (by decide) tg_238 rfl dX7_carryOutOrder_78 ?_
    have M_81 := c_X6_orderToBuy l D cy a (gPd_ho z) (gPd_nu z) (gPd_hr z) t hok.1
    obtain ⟨T_81, hT_81⟩ : ∃ g : zTr, g = ((f_X6_orderToBuy t (gPd_ho z) (gPd_nu z) (gPd_hr z)).2) := ⟨_, rfl⟩
    rw [← hT_81] at M_81
    obtain ⟨R_81_1, hR_81_1⟩ : ∃ g : Int32, g = ((f_X6_orderToBuy t (gPd_ho z) (gPd_nu z) (gPd_hr z)).1) := ⟨_, rfl⟩
    rw [← hR_81_1] at M_81
    refine zj_callVF1 C (nn := 18) (Bs' := ([(WX0 x0 x1 x2 a b d0 p0 h0), (WT cy a T_81), (WD cy d0 d1 x), (WP cy p0 p1 z)] : List va_W)) (st := []) (st1 := [.int R_81_1]) 1 0 6 (M_81) (zg_V tg_345 tg_342 tg_343 tg_344 tg_2) ⟨rfl, hdZ_X6_orderToBuy⟩ ⟨rfl, rfl⟩ ⟨by decide, by decide⟩ rfl rfl rfl ⟨rfl, rfl⟩ rfl rfl (Nat.le_of_ble_eq_true rfl) dX7_carryOutOrder_81 rfl rfl ?_
    subst hR_81_1
    subst hT_81
    have e : f_X7_carryOutOrder t x z = (((f_X6_orderToBuy t (gPd_ho z) (gPd_nu z) (gPd_hr z)).1), ((f_X6_orderToBuy t (gPd_ho z) (gPd_nu z) (gPd_hr z)).2), x) := by refine (zsl_e _).trans ?_; refine (if_pos c_7_98).trans ?_; rfl
    rw [e] at hret
    exact hret _ _ dX7_carryOutOrder_84
  · skip
    by_cases c_7_100 : (gPd_kd z) = nI 100
    · refine zj_topi (nI 100) c_7_100 ?_
      refine zj_look C (off := 137) 144 dX7_carryOutOrder_7 (by decide) (by decide) (by decide) ?_
      refine zj_aload_n C dX7_carryOutOrder_144 0 rfl ?_
      refine zj_get C 0 7 2 (v := .ref d0) inZ7 rfl rfl (by decide) tg_279 rfl dX7_carryOutOrder_145 ?_
      refine zj_aload_n C dX7_carryOutOrder_148 0 rfl ?_
      refine zj_get C 0 7 0 (v := .ref (a 0)) inZ7 rfl rfl (by decide) tg_277 rfl dX7_carryOutOrder_149 ?_
      have M_152 := c_X0_run l D cy d0 d1 a  x t hok.1 hok.2.1 hok.2.2.1 hok.2.2.2
      obtain ⟨T_152, hT_152⟩ : ∃ g : zDd, g = ((f_X0_run x t).2.1) := ⟨_, rfl⟩
      rw [← hT_152] at M_152
      obtain ⟨T_152_1, hT_152_1⟩ : ∃ g : zTr, g = ((f_X0_run x t).2.2) := ⟨_, rfl⟩
      rw [← hT_152_1] at M_152
      obtain ⟨R_152_2, hR_152_2⟩ : ∃ g : Int32, g = ((f_X0_run x t).1) := ⟨_, rfl⟩
      rw [← hR_152_2] at M_152
      refine zj_callVF C (nn := 20) (Bs' := ([(WX0 x0 x1 x2 a b d0 p0 h0), (WT cy a T_152_1), (WD cy d0 d1 T_152), (WP cy p0 p1 z)] : List va_W)) (st := []) (st1 := [.int R_152_2]) [(WD cy d0 d1 x), (WT cy a t)] [(WD cy d0 d1 T_152), (WT cy a T_152_1)] [2, 1] 0 0 (M_152) rfl rfl (zg_V tg_424 tg_421 tg_422 tg_423 tg_6) ⟨rfl, hdZ_X0_run⟩ ⟨rfl, rfl⟩ ⟨by decide, by decide⟩ rfl rfl rfl (by decide) ⟨rfl, rfl⟩ rfl rfl rfl (Nat.le_of_ble_eq_true rfl) dX7_carryOutOrder_152 rfl rfl ?_
      subst hR_152_2
      subst hT_152_1
      subst hT_152
      have e : f_X7_carryOutOrder t x z = (((f_X0_run x t).1), ((f_X0_run x t).2.2), ((f_X0_run x t).2.1)) := by refine (zsl_e _).trans ?_; refine (if_neg c_7_98).trans ?_; refine (if_pos c_7_100).trans ?_; rfl
      rw [e] at hret
      exact hret _ _ dX7_carryOutOrder_155
    · skip
      by_cases c_7_105 : (gPd_kd z) = nI 105
      · refine zj_topi (nI 105) c_7_105 ?_
        refine zj_look C (off := 122) 129 dX7_carryOutOrder_7 (by decide) (by decide) (by decide) ?_
        refine zj_aload_n C dX7_carryOutOrder_129 0 rfl ?_
        refine zj_get C 0 7 0 (v := .ref (a 0)) inZ7 rfl rfl (by decide) tg_277 rfl dX7_carryOutOrder_130 ?_
        refine zj_aload_n C dX7_carryOutOrder_133 0 rfl ?_
        refine zj_get C 0 7 3 (v := .ref p0) inZ7 rfl rfl (by decide) tg_280 rfl dX7_carryOutOrder_134 ?_
        refine zj_get C 21 5 4 (v := .int (gPd_nu z)) inZ5 rfl rfl (by decide) tg_236 rfl dX7_carryOutOrder_137 ?_
        have M_140 := c_X6_takeIncome l D cy a (gPd_nu z) t 
        obtain ⟨T_140, hT_140⟩ : ∃ g : zTr, g = ((f_X6_takeIncome t (gPd_nu z)).2) := ⟨_, rfl⟩
        rw [← hT_140] at M_140
        obtain ⟨R_140_1, hR_140_1⟩ : ∃ g : Int32, g = ((f_X6_takeIncome t (gPd_nu z)).1) := ⟨_, rfl⟩
        rw [← hR_140_1] at M_140
        refine zj_callVF1 C (nn := 18) (Bs' := ([(WX0 x0 x1 x2 a b d0 p0 h0), (WT cy a T_140), (WD cy d0 d1 x), (WP cy p0 p1 z)] : List va_W)) (st := []) (st1 := [.int R_140_1]) 1 0 6 (M_140) (zg_V tg_520 tg_517 tg_518 tg_519 tg_2) ⟨rfl, hdZ_X6_takeIncome⟩ ⟨rfl, rfl⟩ ⟨by decide, by decide⟩ rfl rfl rfl ⟨rfl, rfl⟩ rfl rfl (Nat.le_of_ble_eq_true rfl) dX7_carryOutOrder_140 rfl rfl ?_
        subst hR_140_1
        subst hT_140
        have e : f_X7_carryOutOrder t x z = (((f_X6_takeIncome t (gPd_nu z)).1), ((f_X6_takeIncome t (gPd_nu z)).2), x) := by refine (zsl_e _).trans ?_; refine (if_neg c_7_98).trans ?_; refine (if_neg c_7_100).trans ?_; refine (if_pos c_7_105).trans ?_; rfl
        rw [e] at hret
        exact hret _ _ dX7_carryOutOrder_143
      · skip
        by_cases c_7_108 : (gPd_kd z) = nI 108
        · refine zj_topi (nI 108) c_7_108 ?_
          refine zj_look C (off := 78) 85 dX7_carryOutOrder_7 (by decide) (by decide) (by decide) ?_
          refine zj_aload_n C dX7_carryOutOrder_85 0 rfl ?_
          refine zj_get C 0 7 0 (v := .ref (a 0)) inZ7 rfl rfl (by decide) tg_277 rfl dX7_carryOutOrder_86 ?_
          refine zj_aload_n C dX7_carryOutOrder_89 0 rfl ?_
          refine zj_get C 0 7 3 (v := .ref p0) inZ7 rfl rfl (by decide) tg_280 rfl dX7_carryOutOrder_90 ?_
          refine zj_get C 21 5 3 (v := .int (gPd_ho z)) inZ5 rfl rfl (by decide) tg_234 rfl dX7_carryOutOrder_93 ?_
          refine zj_aload_n C dX7_carryOutOrder_96 0 rfl ?_
          refine zj_get C 0 7 3 (v := .ref p0) inZ7 rfl rfl (by decide) tg_280 rfl dX7_carryOutOrder_97 ?_
          refine zj_get C 21 5 4 (v := .int (gPd_nu z)) inZ5 rfl rfl (by decide) tg_236 rfl dX7_carryOutOrder_100 ?_
          refine zj_aload_n C dX7_carryOutOrder_103 0 rfl ?_
          refine zj_get C 0 7 3 (v := .ref p0) inZ7 rfl rfl (by decide) tg_280 rfl dX7_carryOutOrder_104 ?_
          refine zj_get C 21 5 5 (v := .int (gPd_hr z)) inZ5 rfl rfl (by decide) tg_238 rfl dX7_carryOutOrder_107 ?_
          have M_110 := c_X6_orderToLeave l D cy a (gPd_ho z) (gPd_nu z) (gPd_hr z) t hok.2.1
          obtain ⟨T_110, hT_110⟩ : ∃ g : zTr, g = ((f_X6_orderToLeave t (gPd_ho z) (gPd_nu z) (gPd_hr z)).2) := ⟨_, rfl⟩
          rw [← hT_110] at M_110
          obtain ⟨R_110_1, hR_110_1⟩ : ∃ g : Int32, g = ((f_X6_orderToLeave t (gPd_ho z) (gPd_nu z) (gPd_hr z)).1) := ⟨_, rfl⟩
          rw [← hR_110_1] at M_110
          refine zj_callVF1 C (nn := 18) (Bs' := ([(WX0 x0 x1 x2 a b d0 p0 h0), (WT cy a T_110), (WD cy d0 d1 x), (WP cy p0 p1 z)] : List va_W)) (st := []) (st1 := [.int R_110_1]) 1 0 6 (M_110) (zg_V tg_373 tg_370 tg_371 tg_372 tg_2) ⟨rfl, hdZ_X6_orderToLeave⟩ ⟨rfl, rfl⟩ ⟨by decide, by decide⟩ rfl rfl rfl ⟨rfl, rfl⟩ rfl rfl (Nat.le_of_ble_eq_true rfl) dX7_carryOutOrder_110 rfl rfl ?_
          subst hR_110_1
          subst hT_110
          have e : f_X7_carryOutOrder t x z = (((f_X6_orderToLeave t (gPd_ho z) (gPd_nu z) (gPd_hr z)).1), ((f_X6_orderToLeave t (gPd_ho z) (gPd_nu z) (gPd_hr z)).2), x) := by refine (zsl_e _).trans ?_; refine (if_neg c_7_98).trans ?_; refine (if_neg c_7_100).trans ?_; refine (if_neg c_7_105).trans ?_; refine (if_pos c_7_108).trans ?_; rfl
          rw [e] at hret
          exact hret _ _ dX7_carryOutOrder_113
        · skip
          by_cases c_7_113 : (gPd_kd z) = nI 113
          · refine zj_topi (nI 113) c_7_113 ?_
            refine zj_look C (off := 107) 114 dX7_carryOutOrder_7 (by decide) (by decide) (by decide) ?_
            refine zj_aload_n C dX7_carryOutOrder_114 0 rfl ?_
            refine zj_get C 0 7 0 (v := .ref (a 0)) inZ7 rfl rfl (by decide) tg_277 rfl dX7_carryOutOrder_115 ?_
            refine zj_aload_n C dX7_carryOutOrder_118 0 rfl ?_
            refine zj_get C 0 7 3 (v := .ref p0) inZ7 rfl rfl (by decide) tg_280 rfl dX7_carryOutOrder_119 ?_
            refine zj_get C 21 5 4 (v := .int (gPd_nu z)) inZ5 rfl rfl (by decide) tg_236 rfl dX7_carryOutOrder_122 ?_
            have M_125 := c_X6_changeQuote l D cy a (gPd_nu z) t 
            obtain ⟨T_125, hT_125⟩ : ∃ g : zTr, g = ((f_X6_changeQuote t (gPd_nu z)).2) := ⟨_, rfl⟩
            rw [← hT_125] at M_125
            obtain ⟨R_125_1, hR_125_1⟩ : ∃ g : Int32, g = ((f_X6_changeQuote t (gPd_nu z)).1) := ⟨_, rfl⟩
            rw [← hR_125_1] at M_125
            refine zj_callVF1 C (nn := 18) (Bs' := ([(WX0 x0 x1 x2 a b d0 p0 h0), (WT cy a T_125), (WD cy d0 d1 x), (WP cy p0 p1 z)] : List va_W)) (st := []) (st1 := [.int R_125_1]) 1 0 6 (M_125) (zg_V tg_504 tg_501 tg_502 tg_503 tg_2) ⟨rfl, hdZ_X6_changeQuote⟩ ⟨rfl, rfl⟩ ⟨by decide, by decide⟩ rfl rfl rfl ⟨rfl, rfl⟩ rfl rfl (Nat.le_of_ble_eq_true rfl) dX7_carryOutOrder_125 rfl rfl ?_
            subst hR_125_1
            subst hT_125
            have e : f_X7_carryOutOrder t x z = (((f_X6_changeQuote t (gPd_nu z)).1), ((f_X6_changeQuote t (gPd_nu z)).2), x) := by refine (zsl_e _).trans ?_; refine (if_neg c_7_98).trans ?_; refine (if_neg c_7_100).trans ?_; refine (if_neg c_7_105).trans ?_; refine (if_neg c_7_108).trans ?_; refine (if_pos c_7_113).trans ?_; rfl
            rw [e] at hret
            exact hret _ _ dX7_carryOutOrder_128
          · skip
            refine zj_look C (off := 149) 156 dX7_carryOutOrder_7 (by decide) (by show Op.lookupswitch.offset [(98, 49), (100, 137), (105, 122), (108, 78), (113, 107)] 149 _ = _; rw [lv_osw (a := 98) c_7_98 (by decide), lv_osw (a := 100) c_7_100 (by decide), lv_osw (a := 105) c_7_105 (by decide), lv_osw (a := 108) c_7_108 (by decide), lv_osw (a := 113) c_7_113 (by decide)]; rfl) (by decide) ?_
            refine zj_aload_n C dX7_carryOutOrder_156 0 rfl ?_
            refine zj_get C 0 7 0 (v := .ref (a 0)) inZ7 rfl rfl (by decide) tg_277 rfl dX7_carryOutOrder_157 ?_
            have M_160 := c_X6_payIncome l D cy a  t 
            obtain ⟨T_160, hT_160⟩ : ∃ g : zTr, g = ((f_X6_payIncome t).2) := ⟨_, rfl⟩
            rw [← hT_160] at M_160
            obtain ⟨R_160_1, hR_160_1⟩ : ∃ g : Int32, g = ((f_X6_payIncome t).1) := ⟨_, rfl⟩
            rw [← hR_160_1] at M_160
            refine zj_callVF1 C (nn := 18) (Bs' := ([(WX0 x0 x1 x2 a b d0 p0 h0), (WT cy a T_160), (WD cy d0 d1 x), (WP cy p0 p1 z)] : List va_W)) (st := []) (st1 := [.int R_160_1]) 1 0 6 (M_160) (zg_V tg_528 tg_525 tg_526 tg_527 tg_2) ⟨rfl, hdZ_X6_payIncome⟩ ⟨rfl, rfl⟩ ⟨by decide, by decide⟩ rfl rfl rfl ⟨rfl, rfl⟩ rfl rfl (Nat.le_of_ble_eq_true rfl) dX7_carryOutOrder_160 rfl rfl ?_
            subst hR_160_1
            subst hT_160
            have e : f_X7_carryOutOrder t x z = (((f_X6_payIncome t).1), ((f_X6_payIncome t).2), x) := by refine (zsl_e _).trans ?_; refine (if_neg c_7_98).trans ?_; refine (if_neg c_7_100).trans ?_; refine (if_neg c_7_105).trans ?_; refine (if_neg c_7_108).trans ?_; refine (if_neg c_7_113).trans ?_; rfl
            rw [e] at hret
            exact hret _ _ dX7_carryOutOrder_163

noncomputable def L_X7_carry (T_4 : zPd) : Nat → (zDd) → (zTr) → (zPd) → (Nat) → (Bool) × (Int32) × (zDd) × (zTr) × (zPd) × (Nat)
  | 0, Xd, X, Z, k => (false, 0, Xd, X, Z, k)
  | fuel + 1, Xd, X, Z, k =>
    if 80 ≤ k then
      (false, 0, Xd, X, Z, k)
    else
      let T_19 : zPd := ((f_X5_readOrder Z).2)
      let R_19_1 : Bool := ((f_X5_readOrder Z).1)
      if R_19_1 = false then
        (true, (nI k), Xd, X, T_19, k)
      else
        let T_26 : zTr := ((f_X7_carryOutOrder X Xd T_19).2.1)
        let T_26_1 : zDd := ((f_X7_carryOutOrder X Xd T_19).2.2)
        let R_26_2 : Int32 := ((f_X7_carryOutOrder X Xd T_19).1)
        if 0 ≤ R_26_2 then
          let T_40 : zPd := ((f_X5_skip T_19 (nI 59)).2)
          let R_40_1 : Bool := ((f_X5_skip T_19 (nI 59)).1)
          if R_40_1 = false then
            (true, (nI (k + 1)), T_26_1, T_26, T_40, k)
          else
            L_X7_carry T_4 fuel T_26_1 T_26 T_40 (k + 1)
        else
          (true, (nI k), T_26_1, T_26, T_19, k)
theorem L_X7_carry_s (T_4 : zPd) (fuel : Nat) (Xd : zDd) (X : zTr) (Z : zPd) (k : Nat) : L_X7_carry T_4 (fuel + 1) Xd X Z k = (
    if 80 ≤ k then
      (false, 0, Xd, X, Z, k)
    else
      let T_19 : zPd := ((f_X5_readOrder Z).2)
      let R_19_1 : Bool := ((f_X5_readOrder Z).1)
      if R_19_1 = false then
        (true, (nI k), Xd, X, T_19, k)
      else
        let T_26 : zTr := ((f_X7_carryOutOrder X Xd T_19).2.1)
        let T_26_1 : zDd := ((f_X7_carryOutOrder X Xd T_19).2.2)
        let R_26_2 : Int32 := ((f_X7_carryOutOrder X Xd T_19).1)
        if 0 ≤ R_26_2 then
          let T_40 : zPd := ((f_X5_skip T_19 (nI 59)).2)
          let R_40_1 : Bool := ((f_X5_skip T_19 (nI 59)).1)
          if R_40_1 = false then
            (true, (nI (k + 1)), T_26_1, T_26, T_40, k)
          else
            L_X7_carry T_4 fuel T_26_1 T_26 T_40 (k + 1)
        else
          (true, (nI k), T_26_1, T_26, T_19, k)
  ) := rfl
noncomputable def f_X7_carryOutOrders (t : zTr) (x : zDd) (z : zPd) : Int32 × zTr × zDd × zPd := zsl (
  let T_4 : zPd := (f_X5_start z)
  let fl_9 : Bool := ((L_X7_carry T_4 (80 - 0 + 1) x t T_4 0).1)
  let rv_9 : Int32 := ((L_X7_carry T_4 (80 - 0 + 1) x t T_4 0).2.1)
  let Xd1 : zDd := ((L_X7_carry T_4 (80 - 0 + 1) x t T_4 0).2.2.1)
  let X1 : zTr := ((L_X7_carry T_4 (80 - 0 + 1) x t T_4 0).2.2.2.1)
  let Z1 : zPd := ((L_X7_carry T_4 (80 - 0 + 1) x t T_4 0).2.2.2.2.1)
  let k1 : Nat := ((L_X7_carry T_4 (80 - 0 + 1) x t T_4 0).2.2.2.2.2)
  if fl_9 = true then
    (rv_9, X1, Xd1, Z1)
  else
    ((nI 80), X1, Xd1, Z1)
  )
set_option maxHeartbeats 4000000 in
set_option maxRecDepth 100000 in
theorem c_X7_carryOutOrders (l : Launch) (D : va_G) (cy : Nat → ClassId) (x0 x1 x2 d0 d1 p0 p1 h0 h1 : Nat) (a b : Nat → Nat) (hs sl : Nat → Nat → Nat)  (t : zTr) (x : zDd) (z : zPd) (hn : gPd_n z ≤ 80) (hsg : ∀ i, zch (gPd_sg z i)) (P : zDd → zTr → zPd → Prop) (hP0 : P x t (f_X5_start z)) (hP : ∀ X T Z, P X T Z → okT T ∧ ((f_X5_readOrder Z).1 = true → P (f_X7_carryOutOrder T X (f_X5_readOrder Z).2).2.2 (f_X7_carryOutOrder T X (f_X5_readOrder Z).2).2.1 (f_X5_skip (f_X5_readOrder Z).2 (nI 59)).2)) : zC l yX7_carryOutOrders (zW yX7_carryOutOrders cX7_carryOutOrders 2 (Option.some Jvm.ClassFile.FieldType.int)) { frames := 6, cells := 0, slots := 0, locals := 147 } D cy [.ref x0] ([(WX0 x0 x1 x2 a b d0 p0 h0), (WT cy a t), (WD cy d0 d1 x), (WP cy p0 p1 z)] : List va_W).flatten (some (.int ((f_X7_carryOutOrders t x z).1))) ([(WX0 x0 x1 x2 a b d0 p0 h0), (WT cy a ((f_X7_carryOutOrders t x z).2.1)), (WD cy d0 d1 ((f_X7_carryOutOrders t x z).2.2.1)), (WP cy p0 p1 ((f_X7_carryOutOrders t x z).2.2.2))] : List va_W).flatten := by
  refine zC_of rfl (Nat.le_of_ble_eq_true rfl) (zOk_i _) (fun E C hret => ?_)
  show zJ E 2 0 0 ([(WX0 x0 x1 x2 a b d0 p0 h0), (WT cy a t), (WD cy d0 d1 x), (WP cy p0 p1 z)] : List va_W).flatten 0 [(0, .ref x0)] []
  refine zj_aload_n C dX7_carryOutOrders_0 0 rfl ?_
  refine zj_get C 0 7 3 (v := .ref p0) inZ7 rfl rfl (by decide) tg_280 rfl dX7_carryOutOrders_1 ?_
  have M_4 := c_X5_start l D cy p0 p1  z 
  obtain ⟨T_4, hT_4⟩ : ∃ g : zPd, g = (f_X5_start z) := ⟨_, rfl⟩
  rw [← hT_4] at M_4
  refine zj_callVF1 C (nn := 2) (Bs' := ([(WX0 x0 x1 x2 a b d0 p0 h0), (WT cy a t), (WD cy d0 d1 x), (WP cy p0 p1 T_4)] : List va_W)) (st := []) (st1 := []) 3 0 5 (M_4) (zg_V tg_606 tg_641 tg_604 tg_605 tg_7) ⟨rfl, hdZ_X5_start⟩ ⟨rfl, rfl⟩ ⟨by decide, by decide⟩ rfl rfl rfl ⟨rfl, rfl⟩ rfl rfl (Nat.le_of_ble_eq_true rfl) dX7_carryOutOrders_4 rfl rfl ?_
  have z4 : zpd T_4 := by { rw [hT_4]; exact ⟨hn, Nat.zero_le _, hsg⟩ }; have p4 : P x t T_4 := by { rw [hT_4]; exact hP0 }
  refine zj_iconst C (v := (nI 0)) dX7_carryOutOrders_7 (by decide) ?_
  refine zj_istore_n C (L' := [(1, .int (nI 0)), (0, .ref x0)]) dX7_carryOutOrders_8 rfl (by decide) rfl ?_
  have loop_9 : ∀ (fuel : Nat) (Xd : zDd) (X : zTr) (Z : zPd) (k : Nat), (hk : k ≤ 80) → (hPk : P Xd X Z) → (hzZ : zpd Z) → 80 - k < fuel → (((L_X7_carry T_4 fuel Xd X Z k).1) = false → zJ E 2 0 0 ([(WX0 x0 x1 x2 a b d0 p0 h0), (WT cy a ((L_X7_carry T_4 fuel Xd X Z k).2.2.2.1)), (WD cy d0 d1 ((L_X7_carry T_4 fuel Xd X Z k).2.2.1)), (WP cy p0 p1 ((L_X7_carry T_4 fuel Xd X Z k).2.2.2.2.1))] : List va_W).flatten 56 [] []) → (((L_X7_carry T_4 fuel Xd X Z k).1) = true → zR E cX7_carryOutOrders 2 (some (.int ((L_X7_carry T_4 fuel Xd X Z k).2.1))) ([(WX0 x0 x1 x2 a b d0 p0 h0), (WT cy a ((L_X7_carry T_4 fuel Xd X Z k).2.2.2.1)), (WD cy d0 d1 ((L_X7_carry T_4 fuel Xd X Z k).2.2.1)), (WP cy p0 p1 ((L_X7_carry T_4 fuel Xd X Z k).2.2.2.2.1))] : List va_W).flatten) → zJ E 2 0 0 ([(WX0 x0 x1 x2 a b d0 p0 h0), (WT cy a X), (WD cy d0 d1 Xd), (WP cy p0 p1 Z)] : List va_W).flatten 9 [(0, .ref x0), (1, .int (nI k))] [] := by
    intro fuel
    induction fuel with
    | zero => intro Xd X Z k hk hPk hzZ hmu; exact absurd hmu (Nat.not_lt_zero _)
    | succ fuel ih_9 =>
      intro Xd X Z k hk hPk hzZ hmu_9 K_9 R_9
      refine zj_iload_n C dX7_carryOutOrders_9 1 rfl ?_
      refine zj_bipush C (v := (nI 80)) dX7_carryOutOrders_10 (by decide) ?_
      refine zj_icmp_ge C 56 dX7_carryOutOrders_12 (by decide) (fun c => ?_) (fun c => ?_)
      · have c_12 : 80 ≤ k := ((nI_leI (by omega) (by omega)).mp c)
        refine zj_sub (L' := []) [] rfl ?_
        have e_9 : (L_X7_carry T_4 (fuel + 1) Xd X Z k) = (false, 0, Xd, X, Z, k) := by refine (L_X7_carry_s T_4 fuel Xd X Z k).trans ?_; refine (if_pos c_12).trans ?_; rfl
        rw [e_9] at K_9 R_9
        exact K_9 rfl 
      · have c_12 : ¬ (80 ≤ k) := (fun q => c ((nI_leI (by omega) (by omega)).mpr q))
        refine zj_aload_n C dX7_carryOutOrders_15 0 rfl ?_
        refine zj_get C 0 7 3 (v := .ref p0) inZ7 rfl rfl (by decide) tg_280 rfl dX7_carryOutOrders_16 ?_
        have M_19 := c_X5_readOrder l D cy p0 p1  Z hzZ
        obtain ⟨T_19, hT_19⟩ : ∃ g : zPd, g = ((f_X5_readOrder Z).2) := ⟨_, rfl⟩
        rw [← hT_19] at M_19
        obtain ⟨R_19_1, hR_19_1⟩ : ∃ g : Bool, g = ((f_X5_readOrder Z).1) := ⟨_, rfl⟩
        rw [← hR_19_1] at M_19
        refine zj_callVF1 C (nn := 2) (Bs' := ([(WX0 x0 x1 x2 a b d0 p0 h0), (WT cy a X), (WD cy d0 d1 Xd), (WP cy p0 p1 T_19)] : List va_W)) (st := []) (st1 := [.int (zB R_19_1)]) 3 0 5 (M_19) (zg_V tg_610 tg_642 tg_608 tg_609 tg_7) ⟨rfl, hdZ_X5_readOrder⟩ ⟨rfl, rfl⟩ ⟨by decide, by decide⟩ rfl rfl rfl ⟨rfl, rfl⟩ rfl rfl (Nat.le_of_ble_eq_true rfl) dX7_carryOutOrders_19 rfl rfl ?_
        have z19 : zpd T_19 := by { rw [hT_19]; exact zpd_of hzZ (zk_order hzZ) }
        refine zj_if_eq C 32 dX7_carryOutOrders_22 (by decide) (fun c => ?_) (fun c => ?_)
        · have c_22 : R_19_1 = false := (zB_eq c)
          refine zj_iload_n C dX7_carryOutOrders_32 1 rfl ?_
          subst hR_19_1
          subst hT_19
          have e_9 : (L_X7_carry T_4 (fuel + 1) Xd X Z k) = (true, (nI k), Xd, X, ((f_X5_readOrder Z).2), k) := by refine (L_X7_carry_s T_4 fuel Xd X Z k).trans ?_; refine (if_neg c_12).trans ?_; refine (if_pos c_22).trans ?_; rfl
          rw [e_9] at K_9 R_9
          exact R_9 rfl _ _ dX7_carryOutOrders_33
        · have c_22 : ¬ (R_19_1 = false) := (zB_neq c)
          refine zj_aload_n C dX7_carryOutOrders_25 0 rfl ?_
          have M_26 := c_X7_carryOutOrder l D cy x0 x1 x2 d0 d1 p0 p1 h0 h1 a b hs sl  X Xd T_19 (hP Xd X Z hPk).1
          obtain ⟨T_26, hT_26⟩ : ∃ g : zTr, g = ((f_X7_carryOutOrder X Xd T_19).2.1) := ⟨_, rfl⟩
          rw [← hT_26] at M_26
          obtain ⟨T_26_1, hT_26_1⟩ : ∃ g : zDd, g = ((f_X7_carryOutOrder X Xd T_19).2.2) := ⟨_, rfl⟩
          rw [← hT_26_1] at M_26
          obtain ⟨R_26_2, hR_26_2⟩ : ∃ g : Int32, g = ((f_X7_carryOutOrder X Xd T_19).1) := ⟨_, rfl⟩
          rw [← hR_26_2] at M_26
          refine zj_callVF C (nn := 23) (Bs' := ([(WX0 x0 x1 x2 a b d0 p0 h0), (WT cy a T_26), (WD cy d0 d1 T_26_1), (WP cy p0 p1 T_19)] : List va_W)) (st := []) (st1 := [.int R_26_2]) [(WX0 x0 x1 x2 a b d0 p0 h0), (WT cy a X), (WD cy d0 d1 Xd), (WP cy p0 p1 T_19)] [(WX0 x0 x1 x2 a b d0 p0 h0), (WT cy a T_26), (WD cy d0 d1 T_26_1), (WP cy p0 p1 T_19)] [0, 1, 2, 3] 0 7 (M_26) rfl rfl (zg_V tg_646 tg_643 tg_645 tgp_13 tg_1) ⟨rfl, hdZ_X7_carryOutOrder⟩ ⟨rfl, rfl⟩ ⟨by decide, by decide⟩ rfl rfl rfl (by decide) ⟨rfl, rfl⟩ rfl rfl rfl (Nat.le_of_ble_eq_true rfl) dX7_carryOutOrders_26 rfl rfl ?_
          refine zj_if_ge C 34 dX7_carryOutOrders_29 (by decide) (fun c => ?_) (fun c => ?_)
          · have c_29 : 0 ≤ R_26_2 := c
            refine zj_aload_n C dX7_carryOutOrders_34 0 rfl ?_
            refine zj_get C 0 7 3 (v := .ref p0) inZ7 rfl rfl (by decide) tg_280 rfl dX7_carryOutOrders_35 ?_
            refine zj_bipush C (v := (nI 59)) dX7_carryOutOrders_38 (by decide) ?_
            have M_40 := c_X5_skip l D cy p0 p1 (nI 59) T_19 (by decide) z19
            obtain ⟨T_40, hT_40⟩ : ∃ g : zPd, g = ((f_X5_skip T_19 (nI 59)).2) := ⟨_, rfl⟩
            rw [← hT_40] at M_40
            obtain ⟨R_40_1, hR_40_1⟩ : ∃ g : Bool, g = ((f_X5_skip T_19 (nI 59)).1) := ⟨_, rfl⟩
            rw [← hR_40_1] at M_40
            refine zj_callVF1 C (nn := 2) (Bs' := ([(WX0 x0 x1 x2 a b d0 p0 h0), (WT cy a T_26), (WD cy d0 d1 T_26_1), (WP cy p0 p1 T_40)] : List va_W)) (st := []) (st1 := [.int (zB R_40_1)]) 3 0 5 (M_40) (zg_V tg_627 tg_647 tg_625 tg_626 tg_7) ⟨rfl, hdZ_X5_skip⟩ ⟨rfl, rfl⟩ ⟨by decide, by decide⟩ rfl rfl rfl ⟨rfl, rfl⟩ rfl rfl (Nat.le_of_ble_eq_true rfl) dX7_carryOutOrders_40 rfl rfl ?_
            have z40 : zpd T_40 := by { rw [hT_40]; exact zpd_of z19 (zk_skip (by decide) z19) }; have p40 : P T_26_1 T_26 T_40 := by { have q := (hP Xd X Z hPk).2 (by rw [← hR_19_1]; exact zbt c_22); rw [← hT_19, ← hT_26_1, ← hT_26, ← hT_40] at q; exact q }
            refine zj_if_ne C 50 dX7_carryOutOrders_43 (by decide) (fun c => ?_) (fun c => ?_)
            · have c_43 : ¬ (R_40_1 = false) := (zB_neq c)
              refine zj_iinc C (j := 1) (v := (nI (k + 1))) (L' := [(1, .int (nI (k + 1))), (0, .ref x0)]) dX7_carryOutOrders_50 rfl (nI_1 _) (by decide) rfl ?_
              refine zj_goto C 9 dX7_carryOutOrders_53 (by decide) ?_
              refine zj_sub (L' := [(0, .ref x0), (1, .int (nI (k + 1)))]) [1, 0] rfl ?_
              have hn_hk : (k + 1) ≤ 80 := (by omega)
              have hn_hPk : P T_26_1 T_26 T_40 := p40
              have hn_hzZ : zpd T_40 := z40
              have hn_mu : 80 - (k + 1) < fuel := (by omega)
              subst hR_40_1
              subst hT_40
              subst hR_26_2
              subst hT_26_1
              subst hT_26
              subst hR_19_1
              subst hT_19
              have e_9 : (L_X7_carry T_4 (fuel + 1) Xd X Z k) = (L_X7_carry T_4 fuel ((f_X7_carryOutOrder X Xd ((f_X5_readOrder Z).2)).2.2) ((f_X7_carryOutOrder X Xd ((f_X5_readOrder Z).2)).2.1) ((f_X5_skip ((f_X5_readOrder Z).2) (nI 59)).2) (k + 1)) := by refine (L_X7_carry_s T_4 fuel Xd X Z k).trans ?_; refine (if_neg c_12).trans ?_; refine (if_neg c_22).trans ?_; refine (if_pos c_29).trans ?_; refine (if_neg c_43).trans ?_; rfl
              rw [e_9] at K_9 R_9
              exact ih_9 ((f_X7_carryOutOrder X Xd ((f_X5_readOrder Z).2)).2.2) ((f_X7_carryOutOrder X Xd ((f_X5_readOrder Z).2)).2.1) ((f_X5_skip ((f_X5_readOrder Z).2) (nI 59)).2) (k + 1) hn_hk hn_hPk hn_hzZ hn_mu K_9 R_9
            · have c_43 : R_40_1 = false := (zB_eq (Classical.not_not.mp c))
              refine zj_iload_n C dX7_carryOutOrders_46 1 rfl ?_
              refine zj_iconst C (v := (nI 1)) dX7_carryOutOrders_47 (by decide) ?_
              refine zj_iadd C dX7_carryOutOrders_48 ?_
              refine zj_topi (nI (k + 1)) (nI_add _ _) ?_
              subst hR_40_1
              subst hT_40
              subst hR_26_2
              subst hT_26_1
              subst hT_26
              subst hR_19_1
              subst hT_19
              have e_9 : (L_X7_carry T_4 (fuel + 1) Xd X Z k) = (true, (nI (k + 1)), ((f_X7_carryOutOrder X Xd ((f_X5_readOrder Z).2)).2.2), ((f_X7_carryOutOrder X Xd ((f_X5_readOrder Z).2)).2.1), ((f_X5_skip ((f_X5_readOrder Z).2) (nI 59)).2), k) := by refine (L_X7_carry_s T_4 fuel Xd X Z k).trans ?_; refine (if_neg c_12).trans ?_; refine (if_neg c_22).trans ?_; refine (if_pos c_29).trans ?_; refine (if_pos c_43).trans ?_; rfl
              rw [e_9] at K_9 R_9
              exact R_9 rfl _ _ dX7_carryOutOrders_49
          · have c_29 : ¬ (0 ≤ R_26_2) := c
            refine zj_iload_n C dX7_carryOutOrders_32 1 rfl ?_
            subst hR_26_2
            subst hT_26_1
            subst hT_26
            subst hR_19_1
            subst hT_19
            have e_9 : (L_X7_carry T_4 (fuel + 1) Xd X Z k) = (true, (nI k), ((f_X7_carryOutOrder X Xd ((f_X5_readOrder Z).2)).2.2), ((f_X7_carryOutOrder X Xd ((f_X5_readOrder Z).2)).2.1), ((f_X5_readOrder Z).2), k) := by refine (L_X7_carry_s T_4 fuel Xd X Z k).trans ?_; refine (if_neg c_12).trans ?_; refine (if_neg c_22).trans ?_; refine (if_neg c_29).trans ?_; rfl
            rw [e_9] at K_9 R_9
            exact R_9 rfl _ _ dX7_carryOutOrders_33
  have K_9 : ∀ (fl_9 : Bool) (rv_9 : Int32) (Xd1 : zDd) (X1 : zTr) (Z1 : zPd) (k1 : Nat), fl_9 = ((L_X7_carry T_4 (80 - 0 + 1) x t T_4 0).1) → rv_9 = ((L_X7_carry T_4 (80 - 0 + 1) x t T_4 0).2.1) → Xd1 = ((L_X7_carry T_4 (80 - 0 + 1) x t T_4 0).2.2.1) → X1 = ((L_X7_carry T_4 (80 - 0 + 1) x t T_4 0).2.2.2.1) → Z1 = ((L_X7_carry T_4 (80 - 0 + 1) x t T_4 0).2.2.2.2.1) → k1 = ((L_X7_carry T_4 (80 - 0 + 1) x t T_4 0).2.2.2.2.2) → fl_9 = false → zJ E 2 0 0 ([(WX0 x0 x1 x2 a b d0 p0 h0), (WT cy a X1), (WD cy d0 d1 Xd1), (WP cy p0 p1 Z1)] : List va_W).flatten 56 [] [] := by
    intro fl_9 rv_9 Xd1 X1 Z1 k1 hfl_9 hrv_9 hXd1 hX1 hZ1 hk1 hfl_9_0 
    have c_fl9 : ¬ fl_9 = true := by rw [hfl_9_0]; decide
    refine zj_bipush C (v := (nI 80)) dX7_carryOutOrders_56 (by decide) ?_
    subst hk1
    subst hZ1
    subst hX1
    subst hXd1
    subst hrv_9
    subst hfl_9
    subst hT_4
    have e : f_X7_carryOutOrders t x z = ((nI 80), ((L_X7_carry (f_X5_start z) (80 - 0 + 1) x t (f_X5_start z) 0).2.2.2.1), ((L_X7_carry (f_X5_start z) (80 - 0 + 1) x t (f_X5_start z) 0).2.2.1), ((L_X7_carry (f_X5_start z) (80 - 0 + 1) x t (f_X5_start z) 0).2.2.2.2.1)) := by refine (zsl_e _).trans ?_; refine (if_neg c_fl9).trans ?_; rfl
    rw [e] at hret
    exact hret _ _ dX7_carryOutOrders_58
  have R_9 : (((L_X7_carry T_4 (80 - 0 + 1) x t T_4 0).1) = true → zR E cX7_carryOutOrders 2 (some (.int ((L_X7_carry T_4 (80 - 0 + 1) x t T_4 0).2.1))) ([(WX0 x0 x1 x2 a b d0 p0 h0), (WT cy a ((L_X7_carry T_4 (80 - 0 + 1) x t T_4 0).2.2.2.1)), (WD cy d0 d1 ((L_X7_carry T_4 (80 - 0 + 1) x t T_4 0).2.2.1)), (WP cy p0 p1 ((L_X7_carry T_4 (80 - 0 + 1) x t T_4 0).2.2.2.2.1))] : List va_W).flatten) := by
    intro hfl
    subst hT_4
    have e : f_X7_carryOutOrders t x z = (((L_X7_carry (f_X5_start z) (80 - 0 + 1) x t (f_X5_start z) 0).2.1), ((L_X7_carry (f_X5_start z) (80 - 0 + 1) x t (f_X5_start z) 0).2.2.2.1), ((L_X7_carry (f_X5_start z) (80 - 0 + 1) x t (f_X5_start z) 0).2.2.1), ((L_X7_carry (f_X5_start z) (80 - 0 + 1) x t (f_X5_start z) 0).2.2.2.2.1)) := by refine (zsl_e _).trans ?_; refine (if_pos hfl).trans ?_; rfl
    rw [e] at hret
    exact hret
  refine zj_sub (L' := [(0, .ref x0), (1, .int (nI 0))]) [1, 0] rfl ?_
  exact loop_9 (80 - 0 + 1) x t T_4 0 (by omega) p4 z4 (Nat.lt_succ_self _) (K_9 _ _ _ _ _ _ rfl rfl rfl rfl rfl rfl) R_9

noncomputable def f_X7_carryOut (t : zTr) (x : zDd) (z : zPd) (y : zHs) : Int32 × zTr × zDd × zPd × zHs := zsl (
  let T_4 : zPd := ((f_X5_findFault z).2)
  let R_4_1 : Int32 := ((f_X5_findFault z).1)
  if R_4_1 = (-6) then
    let T_23 : zHs := (f_X1_hold y t)
    let T_27 : zTr := ((f_X7_carryOutOrders t x T_4).2.1)
    let T_27_1 : zDd := ((f_X7_carryOutOrders t x T_4).2.2.1)
    let T_27_2 : zPd := ((f_X7_carryOutOrders t x T_4).2.2.2)
    let R_27_3 : Int32 := ((f_X7_carryOutOrders t x T_4).1)
    let T_35 : zPd := ((f_X5_empty T_27_2).2)
    let R_35_1 : Nat := ((f_X5_empty T_27_2).1)
    let T_44 : zHs := ((f_X1_keep T_23 R_27_3).2)
    let R_44_1 : Int32 := ((f_X1_keep T_23 R_27_3).1)
    (R_44_1, T_27, T_27_1, T_35, (sHs_count (sHs_first T_23 (gHs_first T_44)) (gHs_count T_44)))
  else
    ((-3), t, x, T_4, y)
  )
set_option maxHeartbeats 4000000 in
set_option maxRecDepth 100000 in
theorem c_X7_carryOut (l : Launch) (D : va_G) (cy : Nat → ClassId) (x0 x1 x2 d0 d1 p0 p1 h0 h1 : Nat) (a b : Nat → Nat) (hs sl : Nat → Nat → Nat)  (t : zTr) (x : zDd) (z : zPd) (y : zHs) (hn : gPd_n z ≤ 80) (hsg : ∀ i, zch (gPd_sg z i)) (hf : gHs_first y < 7) (hc : gHs_count y ≤ 6) (hb : gOd_n (gTr_bu t) ≤ 20) (hl : gOd_n (gTr_le t) ≤ 20) (P : zDd → zTr → zPd → Prop) (hP0 : P x t (f_X5_start (f_X5_findFault z).2)) (hP : ∀ X T Z, P X T Z → okT T ∧ ((f_X5_readOrder Z).1 = true → P (f_X7_carryOutOrder T X (f_X5_readOrder Z).2).2.2 (f_X7_carryOutOrder T X (f_X5_readOrder Z).2).2.1 (f_X5_skip (f_X5_readOrder Z).2 (nI 59)).2)) : zC l yX7_carryOut (zW yX7_carryOut cX7_carryOut 2 (Option.some Jvm.ClassFile.FieldType.int)) { frames := 7, cells := 0, slots := 0, locals := 168 } D cy [.ref x0] (([(WX0 x0 x1 x2 a b d0 p0 h0), (WT cy a t), (WD cy d0 d1 x), (WP cy p0 p1 z), (WHo cy h0 h1 hs (gHs_first y) (gHs_count y))] : List va_W) ++ WHL cy hs (gHs_st y)).flatten (some (.int ((f_X7_carryOut t x z y).1))) (([(WX0 x0 x1 x2 a b d0 p0 h0), (WT cy a ((f_X7_carryOut t x z y).2.1)), (WD cy d0 d1 ((f_X7_carryOut t x z y).2.2.1)), (WP cy p0 p1 ((f_X7_carryOut t x z y).2.2.2.1)), (WHo cy h0 h1 hs (gHs_first ((f_X7_carryOut t x z y).2.2.2.2)) (gHs_count ((f_X7_carryOut t x z y).2.2.2.2)))] : List va_W) ++ WHL cy hs (gHs_st ((f_X7_carryOut t x z y).2.2.2.2))).flatten := by
  refine zC_of rfl (Nat.le_of_ble_eq_true rfl) (zOk_i _) (fun E C hret => ?_)
  show zJ E 2 0 0 (([(WX0 x0 x1 x2 a b d0 p0 h0), (WT cy a t), (WD cy d0 d1 x), (WP cy p0 p1 z), (WHo cy h0 h1 hs (gHs_first y) (gHs_count y))] : List va_W) ++ WHL cy hs (gHs_st y)).flatten 0 [(0, .ref x0)] []
  refine zj_aload_n C dX7_carryOut_0 0 rfl ?_
  refine zj_get C 0 7 3 (v := .ref p0) inZ7 rfl rfl (by decide) tg_280 rfl dX7_carryOut_1 ?_
  have M_4 := c_X5_findFault l D cy p0 p1  z hn hsg
  obtain ⟨T_4, hT_4⟩ : ∃ g : zPd, g = ((f_X5_findFault z).2) := ⟨_, rfl⟩
  rw [← hT_4] at M_4
  obtain ⟨R_4_1, hR_4_1⟩ : ∃ g : Int32, g = ((f_X5_findFault z).1) := ⟨_, rfl⟩
  rw [← hR_4_1] at M_4
  refine zj_callVF1 C (nn := 2) (Bs' := (([(WX0 x0 x1 x2 a b d0 p0 h0), (WT cy a t), (WD cy d0 d1 x), (WP cy p0 p1 T_4), (WHo cy h0 h1 hs (gHs_first y) (gHs_count y))] : List va_W) ++ WHL cy hs (gHs_st y))) (st := []) (st1 := [.int R_4_1]) 3 0 5 (M_4) (zg_V tg_602 tg_599 tg_600 tg_601 tg_7) ⟨rfl, hdZ_X5_findFault⟩ ⟨rfl, rfl⟩ ⟨by decide, by decide⟩ rfl rfl rfl ⟨rfl, rfl⟩ rfl rfl (Nat.le_of_ble_eq_true rfl) dX7_carryOut_4 rfl rfl ?_
  have n4 : gPd_n T_4 ≤ 80 := by { rw [hT_4, (xff hn hsg).1]; exact hn }; have s4 : ∀ i, zch (gPd_sg T_4 i) := by { rw [hT_4, (xff hn hsg).2]; exact hsg }; have p4 : P x t (f_X5_start T_4) := by { rw [hT_4]; exact hP0 }
  refine zj_bipush C (v := (-6)) dX7_carryOut_7 (by decide) ?_
  refine zj_icmp_eq C 15 dX7_carryOut_9 (by decide) (fun c => ?_) (fun c => ?_)
  · have c_9 : R_4_1 = (-6) := c
    refine zj_aload_n C dX7_carryOut_15 0 rfl ?_
    refine zj_get C 0 7 4 (v := .ref h0) inZ7 rfl rfl (by decide) tg_281 rfl dX7_carryOut_16 ?_
    refine zj_aload_n C dX7_carryOut_19 0 rfl ?_
    refine zj_get C 0 7 0 (v := .ref (a 0)) inZ7 rfl rfl (by decide) tg_277 rfl dX7_carryOut_20 ?_
    have M_23 := c_X1_hold l D cy h0 h1 hs a  y t hf hc hb hl
    obtain ⟨T_23, hT_23⟩ : ∃ g : zHs, g = (f_X1_hold y t) := ⟨_, rfl⟩
    rw [← hT_23] at M_23
    refine zj_callVF C (nn := 146) (Bs' := (([(WX0 x0 x1 x2 a b d0 p0 h0), (WT cy a t), (WD cy d0 d1 x), (WP cy p0 p1 T_4), (WHo cy h0 h1 hs (gHs_first T_23) (gHs_count T_23))] : List va_W) ++ WHL cy hs (gHs_st T_23))) (st := []) (st1 := []) ([(WHo cy h0 h1 hs (gHs_first y) (gHs_count y)), (WT cy a t)] ++ WHL cy hs (gHs_st y)) ([(WHo cy h0 h1 hs (gHs_first T_23) (gHs_count T_23)), (WT cy a t)] ++ WHL cy hs (gHs_st T_23)) [4, 1, 5, 6, 7, 8, 9, 10, 11] 0 1 (M_23) rfl rfl (zg_V tg_307 tg_304 tg_305 tg_306 tg_8) ⟨rfl, hdZ_X1_hold⟩ ⟨rfl, rfl⟩ ⟨by decide, by decide⟩ rfl rfl rfl (by decide) ⟨rfl, rfl⟩ rfl rfl rfl (Nat.le_of_ble_eq_true rfl) dX7_carryOut_23 rfl rfl ?_
    have hf23 : gHs_first T_23 < 7 := by { rw [hT_23]; exact hf }; have hc23 : gHs_count T_23 ≤ 6 := by { rw [hT_23]; exact hc }
    refine zj_aload_n C dX7_carryOut_26 0 rfl ?_
    have M_27 := c_X7_carryOutOrders l D cy x0 x1 x2 d0 d1 p0 p1 h0 h1 a b hs sl  t x T_4 n4 s4 P p4 hP
    obtain ⟨T_27, hT_27⟩ : ∃ g : zTr, g = ((f_X7_carryOutOrders t x T_4).2.1) := ⟨_, rfl⟩
    rw [← hT_27] at M_27
    obtain ⟨T_27_1, hT_27_1⟩ : ∃ g : zDd, g = ((f_X7_carryOutOrders t x T_4).2.2.1) := ⟨_, rfl⟩
    rw [← hT_27_1] at M_27
    obtain ⟨T_27_2, hT_27_2⟩ : ∃ g : zPd, g = ((f_X7_carryOutOrders t x T_4).2.2.2) := ⟨_, rfl⟩
    rw [← hT_27_2] at M_27
    obtain ⟨R_27_3, hR_27_3⟩ : ∃ g : Int32, g = ((f_X7_carryOutOrders t x T_4).1) := ⟨_, rfl⟩
    rw [← hR_27_3] at M_27
    refine zj_callVF C (nn := 23) (Bs' := (([(WX0 x0 x1 x2 a b d0 p0 h0), (WT cy a T_27), (WD cy d0 d1 T_27_1), (WP cy p0 p1 T_27_2), (WHo cy h0 h1 hs (gHs_first T_23) (gHs_count T_23))] : List va_W) ++ WHL cy hs (gHs_st T_23))) (st := []) (st1 := [.int R_27_3]) [(WX0 x0 x1 x2 a b d0 p0 h0), (WT cy a t), (WD cy d0 d1 x), (WP cy p0 p1 T_4)] [(WX0 x0 x1 x2 a b d0 p0 h0), (WT cy a T_27), (WD cy d0 d1 T_27_1), (WP cy p0 p1 T_27_2)] [0, 1, 2, 3] 0 7 (M_27) rfl rfl (zg_V tg_640 tg_637 tg_639 tgp_12 tg_1) ⟨rfl, hdZ_X7_carryOutOrders⟩ ⟨rfl, rfl⟩ ⟨by decide, by decide⟩ rfl rfl rfl (by decide) ⟨rfl, rfl⟩ rfl rfl rfl (Nat.le_of_ble_eq_true rfl) dX7_carryOut_27 rfl rfl ?_
    refine zj_istore_n C (L' := [(1, .int R_27_3), (0, .ref x0)]) dX7_carryOut_30 rfl (by decide) rfl ?_
    refine zj_aload_n C dX7_carryOut_31 1 rfl ?_
    refine zj_get C 0 7 3 (v := .ref p0) inZ7 rfl rfl (by decide) tg_280 rfl dX7_carryOut_32 ?_
    have M_35 := c_X5_empty l D cy p0 p1  T_27_2 
    obtain ⟨T_35, hT_35⟩ : ∃ g : zPd, g = ((f_X5_empty T_27_2).2) := ⟨_, rfl⟩
    rw [← hT_35] at M_35
    obtain ⟨R_35_1, hR_35_1⟩ : ∃ g : Nat, g = ((f_X5_empty T_27_2).1) := ⟨_, rfl⟩
    rw [← hR_35_1] at M_35
    refine zj_callVF1 C (nn := 2) (Bs' := (([(WX0 x0 x1 x2 a b d0 p0 h0), (WT cy a T_27), (WD cy d0 d1 T_27_1), (WP cy p0 p1 T_35), (WHo cy h0 h1 hs (gHs_first T_23) (gHs_count T_23))] : List va_W) ++ WHL cy hs (gHs_st T_23))) (st := []) (st1 := [.int (nI R_35_1)]) 3 0 5 (M_35) (zg_V tg_594 tg_591 tg_592 tg_593 tg_7) ⟨rfl, hdZ_X5_empty⟩ ⟨rfl, rfl⟩ ⟨by decide, by decide⟩ rfl rfl rfl ⟨rfl, rfl⟩ rfl rfl (Nat.le_of_ble_eq_true rfl) dX7_carryOut_35 rfl rfl ?_
    refine zj_pop C dX7_carryOut_38 rfl ?_
    refine zj_aload_n C dX7_carryOut_39 1 rfl ?_
    refine zj_get C 0 7 4 (v := .ref h0) inZ7 rfl rfl (by decide) tg_281 rfl dX7_carryOut_40 ?_
    refine zj_iload_n C dX7_carryOut_43 0 rfl ?_
    have M_44 := c_X1_keep l D cy h0 h1 hs R_27_3 T_23 hf23 hc23
    obtain ⟨T_44, hT_44⟩ : ∃ g : zHs, g = ((f_X1_keep T_23 R_27_3).2) := ⟨_, rfl⟩
    rw [← hT_44] at M_44
    obtain ⟨R_44_1, hR_44_1⟩ : ∃ g : Int32, g = ((f_X1_keep T_23 R_27_3).1) := ⟨_, rfl⟩
    rw [← hR_44_1] at M_44
    refine zj_callVF1 C (nn := 2) (Bs' := (([(WX0 x0 x1 x2 a b d0 p0 h0), (WT cy a T_27), (WD cy d0 d1 T_27_1), (WP cy p0 p1 T_35), (WHo cy h0 h1 hs (gHs_first T_44) (gHs_count T_44))] : List va_W) ++ WHL cy hs (gHs_st T_23))) (st := []) (st1 := [.int R_44_1]) 4 0 1 (M_44) (zg_V tg_337 tg_334 tg_335 tg_336 tg_8) ⟨rfl, hdZ_X1_keep⟩ ⟨rfl, rfl⟩ ⟨by decide, by decide⟩ rfl rfl rfl ⟨rfl, rfl⟩ rfl rfl (Nat.le_of_ble_eq_true rfl) dX7_carryOut_44 rfl rfl ?_
    subst hR_44_1
    subst hT_44
    subst hR_35_1
    subst hT_35
    subst hR_27_3
    subst hT_27_2
    subst hT_27_1
    subst hT_27
    subst hT_23
    subst hR_4_1
    subst hT_4
    have e : f_X7_carryOut t x z y = (((f_X1_keep (f_X1_hold y t) ((f_X7_carryOutOrders t x ((f_X5_findFault z).2)).1)).1), ((f_X7_carryOutOrders t x ((f_X5_findFault z).2)).2.1), ((f_X7_carryOutOrders t x ((f_X5_findFault z).2)).2.2.1), ((f_X5_empty ((f_X7_carryOutOrders t x ((f_X5_findFault z).2)).2.2.2)).2), (sHs_count (sHs_first (f_X1_hold y t) (gHs_first ((f_X1_keep (f_X1_hold y t) ((f_X7_carryOutOrders t x ((f_X5_findFault z).2)).1)).2))) (gHs_count ((f_X1_keep (f_X1_hold y t) ((f_X7_carryOutOrders t x ((f_X5_findFault z).2)).1)).2)))) := by refine (zsl_e _).trans ?_; refine (if_pos c_9).trans ?_; rfl
    rw [e] at hret
    exact hret _ _ dX7_carryOut_47
  · have c_9 : ¬ (R_4_1 = (-6)) := c
    refine zj_bipush C (v := (-3)) dX7_carryOut_12 (by decide) ?_
    subst hR_4_1
    subst hT_4
    have e : f_X7_carryOut t x z y = ((-3), t, x, ((f_X5_findFault z).2), y) := by refine (zsl_e _).trans ?_; refine (if_neg c_9).trans ?_; rfl
    rw [e] at hret
    exact hret _ _ dX7_carryOut_14

noncomputable def f_X7_save (t : zTr) (s : zSl) (so : Int32) : Int32 × zSl :=
  if so < 0 then
    ((-2), s)
  else
    if so < (nI 2) then
      let T_22 : zTr := (f_X6_become ((gSl_st s) so.toNatClampNeg) t)
      ((gTr_day t), (sSl_sv (sSl_st s (zup (gSl_st s) so.toNatClampNeg T_22)) (upd (gSl_sv s) so.toNatClampNeg (nI 1))))
    else
      ((-2), s)
set_option maxHeartbeats 4000000 in
set_option maxRecDepth 100000 in
theorem c_X7_save (l : Launch) (D : va_G) (cy : Nat → ClassId) (x0 x1 x2 d0 d1 p0 p1 h0 h1 : Nat) (a b : Nat → Nat) (hs sl : Nat → Nat → Nat) (so : Int32) (t : zTr) (s : zSl) (hb : gOd_n (gTr_bu t) ≤ 20) (hl : gOd_n (gTr_le t) ≤ 20) : zC l yX7_save (zW yX7_save cX7_save 2 (Option.some Jvm.ClassFile.FieldType.int)) { frames := 3, cells := 0, slots := 0, locals := 68 } D cy [.ref x0, .int so] (([(WX0 x0 x1 x2 a b d0 p0 h0), (WX1 cy x1 sl), (WX2 cy x2 (gSl_sv s)), (WT cy a t)] : List va_W) ++ WSL cy sl (gSl_st s)).flatten (some (.int ((f_X7_save t s so).1))) (([(WX0 x0 x1 x2 a b d0 p0 h0), (WX1 cy x1 sl), (WX2 cy x2 (gSl_sv ((f_X7_save t s so).2))), (WT cy a t)] : List va_W) ++ WSL cy sl (gSl_st ((f_X7_save t s so).2))).flatten := by
  refine zC_of rfl (Nat.le_of_ble_eq_true rfl) (zOk_i _) (fun E C hret => ?_)
  show zJ E 2 0 0 (([(WX0 x0 x1 x2 a b d0 p0 h0), (WX1 cy x1 sl), (WX2 cy x2 (gSl_sv s)), (WT cy a t)] : List va_W) ++ WSL cy sl (gSl_st s)).flatten 0 [(0, .ref x0), (1, .int so)] []
  refine zj_iload_n C dX7_save_0 1 rfl ?_
  refine zj_if_lt C 9 dX7_save_1 (by decide) (fun c => ?_) (fun c => ?_)
  · have c_1 : so < 0 := c
    refine zj_bipush C (v := (-2)) dX7_save_9 (by decide) ?_
    have e : f_X7_save t s so = ((-2), s) := by refine (if_pos c_1).trans ?_; rfl
    rw [e] at hret
    exact hret _ _ dX7_save_11
  · have c_1 : ¬ (so < 0) := c
    refine zj_iload_n C dX7_save_4 1 rfl ?_
    refine zj_iconst C (v := (nI 2)) dX7_save_5 (by decide) ?_
    refine zj_icmp_lt C 12 dX7_save_6 (by decide) (fun c => ?_) (fun c => ?_)
    · have c_6 : so < (nI 2) := c
      refine zj_aload_n C dX7_save_12 0 rfl ?_
      have hso := (xsl c_1 c_6).2
      refine zj_get C 0 7 5 (v := .ref x1) inZ7 rfl rfl (by decide) tg_282 rfl dX7_save_13 ?_
      refine zj_iload_n C dX7_save_16 1 rfl ?_
      refine zj_topi (nI so.toNatClampNeg) (xsl c_1 c_6).1 ?_
      refine zj_aald C 1 5 (f := (fun k => some (sl k 0))) (b := (sl so.toNatClampNeg 0)) so.toNatClampNeg (nI_clamp (by omega)) (vp_in_nI (by omega) (by omega)) rfl rfl rfl dX7_save_17 ?_
      refine zj_aload_n C dX7_save_18 0 rfl ?_
      refine zj_get C 0 7 0 (v := .ref (a 0)) inZ7 rfl rfl (by decide) tg_277 rfl dX7_save_19 ?_
      have M_22 := c_X6_become l D cy (sl so.toNatClampNeg) a  ((gSl_st s) so.toNatClampNeg) t hb hl
      obtain ⟨T_22, hT_22⟩ : ∃ g : zTr, g = (f_X6_become ((gSl_st s) so.toNatClampNeg) t) := ⟨_, rfl⟩
      rw [← hT_22] at M_22
      refine zj_callVF C (nn := 36) (Bs' := (([(WX0 x0 x1 x2 a b d0 p0 h0), (WX1 cy x1 sl), (WX2 cy x2 (gSl_sv s)), (WT cy a t)] : List va_W) ++ WSL cy sl (zup (gSl_st s) so.toNatClampNeg T_22))) (st := []) (st1 := []) [WT cy (sl so.toNatClampNeg) ((gSl_st s) so.toNatClampNeg), WT cy a t] [WT cy (sl so.toNatClampNeg) T_22, WT cy a t] [4 + so.toNatClampNeg, 3] 0 6 (M_22) rfl rfl (zg_V tg_311 tg_568 tg_309 tg_310 tg_2) ⟨rfl, hdZ_X6_become⟩ ⟨rfl, rfl⟩ ⟨by decide, by decide⟩ rfl rfl (WSL_hC (i := so.toNatClampNeg) hso) (znd2 (by omega)) ⟨rfl, rfl⟩ rfl rfl rfl (Nat.le_of_ble_eq_true rfl) dX7_save_22 (WSL_set (i := so.toNatClampNeg) _ hso) rfl ?_
      refine zj_aload_n C dX7_save_25 0 rfl ?_
      refine zj_get C 0 7 6 (v := .ref x2) inZ7 rfl rfl (by decide) tg_283 rfl dX7_save_26 ?_
      refine zj_iload_n C dX7_save_29 1 rfl ?_
      refine zj_topi (nI so.toNatClampNeg) (xsl c_1 c_6).1 ?_
      refine zj_iconst C (v := (nI 1)) dX7_save_30 (by decide) ?_
      refine zj_zast C 2 (f := (gSl_sv s)) (ws' := (([(WX0 x0 x1 x2 a b d0 p0 h0), (WX1 cy x1 sl), (WX2 cy x2 (upd (gSl_sv s) so.toNatClampNeg (nI 1))), (WT cy a t)] : List va_W) ++ WSL cy sl (zup (gSl_st s) so.toNatClampNeg T_22)).flatten) so.toNatClampNeg (nI_clamp (by omega)) (vp_in_nI (by omega) (by omega)) rfl (by decide) dX7_save_31 rfl ?_
      refine zj_aload_n C dX7_save_32 0 rfl ?_
      refine zj_get C 0 7 0 (v := .ref (a 0)) inZ7 rfl rfl (by decide) tg_277 rfl dX7_save_33 ?_
      refine zj_get C 3 6 5 (v := .int (gTr_day t)) inZ6 rfl rfl (by decide) tg_152 rfl dX7_save_36 ?_
      subst hT_22
      have e : f_X7_save t s so = ((gTr_day t), (sSl_sv (sSl_st s (zup (gSl_st s) so.toNatClampNeg (f_X6_become ((gSl_st s) so.toNatClampNeg) t))) (upd (gSl_sv s) so.toNatClampNeg (nI 1)))) := by refine (if_neg c_1).trans ?_; refine (if_pos c_6).trans ?_; rfl
      rw [e] at hret
      exact hret _ _ dX7_save_39
    · have c_6 : ¬ (so < (nI 2)) := c
      refine zj_bipush C (v := (-2)) dX7_save_9 (by decide) ?_
      have e : f_X7_save t s so = ((-2), s) := by refine (if_neg c_1).trans ?_; refine (if_neg c_6).trans ?_; rfl
      rw [e] at hret
      exact hret _ _ dX7_save_11

noncomputable def f_X7_restore (t : zTr) (y : zHs) (s : zSl) (so : Int32) : Int32 × zTr × zHs :=
  if so < 0 then
    ((-2), t, y)
  else
    if so < (nI 2) then
      if ((gSl_sv s) so.toNatClampNeg) = 0 then
        ((-5), t, y)
      else
        let T_32 : zHs := (f_X1_hold y t)
        let T_45 : zTr := (f_X6_become t ((gSl_st s) so.toNatClampNeg))
        let T_59 : zHs := ((f_X1_keep T_32 (gTr_day T_45)).2)
        let R_59_1 : Int32 := ((f_X1_keep T_32 (gTr_day T_45)).1)
        (R_59_1, T_45, (sHs_count (sHs_first T_32 (gHs_first T_59)) (gHs_count T_59)))
    else
      ((-2), t, y)
set_option maxHeartbeats 4000000 in
set_option maxRecDepth 100000 in
theorem c_X7_restore (l : Launch) (D : va_G) (cy : Nat → ClassId) (x0 x1 x2 d0 d1 p0 p1 h0 h1 : Nat) (a b : Nat → Nat) (hs sl : Nat → Nat → Nat) (so : Int32) (t : zTr) (y : zHs) (s : zSl) (hf : gHs_first y < 7) (hc : gHs_count y ≤ 6) (hb : gOd_n (gTr_bu t) ≤ 20) (hl : gOd_n (gTr_le t) ≤ 20) (hq : ∀ i, i < 2 → gOd_n (gTr_bu (gSl_st s i)) ≤ 20 ∧ gOd_n (gTr_le (gSl_st s i)) ≤ 20) : zC l yX7_restore (zW yX7_restore cX7_restore 2 (Option.some Jvm.ClassFile.FieldType.int)) { frames := 4, cells := 0, slots := 0, locals := 89 } D cy [.ref x0, .int so] (([(WX0 x0 x1 x2 a b d0 p0 h0), (WX1 cy x1 sl), (WX2 cy x2 (gSl_sv s)), (WT cy a t), (WHo cy h0 h1 hs (gHs_first y) (gHs_count y))] : List va_W) ++ (WHL cy hs (gHs_st y) ++ WSL cy sl (gSl_st s))).flatten (some (.int ((f_X7_restore t y s so).1))) (([(WX0 x0 x1 x2 a b d0 p0 h0), (WX1 cy x1 sl), (WX2 cy x2 (gSl_sv s)), (WT cy a ((f_X7_restore t y s so).2.1)), (WHo cy h0 h1 hs (gHs_first ((f_X7_restore t y s so).2.2)) (gHs_count ((f_X7_restore t y s so).2.2)))] : List va_W) ++ (WHL cy hs (gHs_st ((f_X7_restore t y s so).2.2)) ++ WSL cy sl (gSl_st s))).flatten := by
  refine zC_of rfl (Nat.le_of_ble_eq_true rfl) (zOk_i _) (fun E C hret => ?_)
  show zJ E 2 0 0 (([(WX0 x0 x1 x2 a b d0 p0 h0), (WX1 cy x1 sl), (WX2 cy x2 (gSl_sv s)), (WT cy a t), (WHo cy h0 h1 hs (gHs_first y) (gHs_count y))] : List va_W) ++ (WHL cy hs (gHs_st y) ++ WSL cy sl (gSl_st s))).flatten 0 [(0, .ref x0), (1, .int so)] []
  refine zj_iload_n C dX7_restore_0 1 rfl ?_
  refine zj_if_lt C 9 dX7_restore_1 (by decide) (fun c => ?_) (fun c => ?_)
  · have c_1 : so < 0 := c
    refine zj_bipush C (v := (-2)) dX7_restore_9 (by decide) ?_
    have e : f_X7_restore t y s so = ((-2), t, y) := by refine (if_pos c_1).trans ?_; rfl
    rw [e] at hret
    exact hret _ _ dX7_restore_11
  · have c_1 : ¬ (so < 0) := c
    refine zj_iload_n C dX7_restore_4 1 rfl ?_
    refine zj_iconst C (v := (nI 2)) dX7_restore_5 (by decide) ?_
    refine zj_icmp_lt C 12 dX7_restore_6 (by decide) (fun c => ?_) (fun c => ?_)
    · have c_6 : so < (nI 2) := c
      refine zj_aload_n C dX7_restore_12 0 rfl ?_
      have hso := (xsl c_1 c_6).2
      refine zj_get C 0 7 6 (v := .ref x2) inZ7 rfl rfl (by decide) tg_283 rfl dX7_restore_13 ?_
      refine zj_iload_n C dX7_restore_16 1 rfl ?_
      refine zj_topi (nI so.toNatClampNeg) (xsl c_1 c_6).1 ?_
      refine zj_zald C 2 (f := (gSl_sv s)) so.toNatClampNeg (nI_clamp (by omega)) (vp_in_nI (by omega) (by omega)) rfl dX7_restore_17 ?_
      refine zj_if_ne C 24 dX7_restore_18 (by decide) (fun c => ?_) (fun c => ?_)
      · have c_18 : ¬ (((gSl_sv s) so.toNatClampNeg) = 0) := c
        refine zj_aload_n C dX7_restore_24 0 rfl ?_
        refine zj_get C 0 7 4 (v := .ref h0) inZ7 rfl rfl (by decide) tg_281 rfl dX7_restore_25 ?_
        refine zj_aload_n C dX7_restore_28 0 rfl ?_
        refine zj_get C 0 7 0 (v := .ref (a 0)) inZ7 rfl rfl (by decide) tg_277 rfl dX7_restore_29 ?_
        have M_32 := c_X1_hold l D cy h0 h1 hs a  y t hf hc hb hl
        obtain ⟨T_32, hT_32⟩ : ∃ g : zHs, g = (f_X1_hold y t) := ⟨_, rfl⟩
        rw [← hT_32] at M_32
        refine zj_callVF C (nn := 146) (Bs' := (([(WX0 x0 x1 x2 a b d0 p0 h0), (WX1 cy x1 sl), (WX2 cy x2 (gSl_sv s)), (WT cy a t), (WHo cy h0 h1 hs (gHs_first T_32) (gHs_count T_32))] : List va_W) ++ (WHL cy hs (gHs_st T_32) ++ WSL cy sl (gSl_st s)))) (st := []) (st1 := []) ([(WHo cy h0 h1 hs (gHs_first y) (gHs_count y)), (WT cy a t)] ++ WHL cy hs (gHs_st y)) ([(WHo cy h0 h1 hs (gHs_first T_32) (gHs_count T_32)), (WT cy a t)] ++ WHL cy hs (gHs_st T_32)) [4, 3, 5, 6, 7, 8, 9, 10, 11] 0 1 (M_32) rfl rfl (zg_V tg_307 tg_304 tg_305 tg_306 tg_8) ⟨rfl, hdZ_X1_hold⟩ ⟨rfl, rfl⟩ ⟨by decide, by decide⟩ rfl rfl rfl (by decide) ⟨rfl, rfl⟩ rfl rfl rfl (Nat.le_of_ble_eq_true rfl) dX7_restore_32 rfl rfl ?_
        have hf32 : gHs_first T_32 < 7 := by { rw [hT_32]; exact hf }; have hc32 : gHs_count T_32 ≤ 6 := by { rw [hT_32]; exact hc }
        refine zj_aload_n C dX7_restore_35 0 rfl ?_
        refine zj_get C 0 7 0 (v := .ref (a 0)) inZ7 rfl rfl (by decide) tg_277 rfl dX7_restore_36 ?_
        refine zj_aload_n C dX7_restore_39 0 rfl ?_
        refine zj_get C 0 7 5 (v := .ref x1) inZ7 rfl rfl (by decide) tg_282 rfl dX7_restore_40 ?_
        refine zj_iload_n C dX7_restore_43 1 rfl ?_
        refine zj_topi (nI so.toNatClampNeg) (xsl c_1 c_6).1 ?_
        refine zj_aald C 1 5 (f := (fun k => some (sl k 0))) (b := (sl so.toNatClampNeg 0)) so.toNatClampNeg (nI_clamp (by omega)) (vp_in_nI (by omega) (by omega)) rfl rfl rfl dX7_restore_44 ?_
        have M_45 := c_X6_become l D cy a (sl so.toNatClampNeg)  t ((gSl_st s) so.toNatClampNeg) (hq _ hso).1 (hq _ hso).2
        obtain ⟨T_45, hT_45⟩ : ∃ g : zTr, g = (f_X6_become t ((gSl_st s) so.toNatClampNeg)) := ⟨_, rfl⟩
        rw [← hT_45] at M_45
        refine zj_callVF C (nn := 36) (Bs' := (([(WX0 x0 x1 x2 a b d0 p0 h0), (WX1 cy x1 sl), (WX2 cy x2 (gSl_sv s)), (WT cy a T_45), (WHo cy h0 h1 hs (gHs_first T_32) (gHs_count T_32))] : List va_W) ++ (WHL cy hs (gHs_st T_32) ++ WSL cy sl (gSl_st s)))) (st := []) (st1 := []) [WT cy a t, WT cy (sl so.toNatClampNeg) ((gSl_st s) so.toNatClampNeg)] [WT cy a T_45, WT cy (sl so.toNatClampNeg) ((gSl_st s) so.toNatClampNeg)] [3, 12 + so.toNatClampNeg] 0 6 (M_45) rfl rfl (zg_V tg_311 tg_568 tg_309 tg_310 tg_2) ⟨rfl, hdZ_X6_become⟩ ⟨rfl, rfl⟩ ⟨by decide, by decide⟩ rfl rfl (WSH_hC2 (i := so.toNatClampNeg) hso) (znd2 (by omega)) ⟨rfl, rfl⟩ rfl rfl rfl (Nat.le_of_ble_eq_true rfl) dX7_restore_45 (WSH_set2 (i := so.toNatClampNeg) _ hso) rfl ?_
        refine zj_aload_n C dX7_restore_48 0 rfl ?_
        refine zj_get C 0 7 4 (v := .ref h0) inZ7 rfl rfl (by decide) tg_281 rfl dX7_restore_49 ?_
        refine zj_aload_n C dX7_restore_52 0 rfl ?_
        refine zj_get C 0 7 0 (v := .ref (a 0)) inZ7 rfl rfl (by decide) tg_277 rfl dX7_restore_53 ?_
        refine zj_get C 3 6 5 (v := .int (gTr_day T_45)) inZ6 rfl rfl (by decide) tg_152 rfl dX7_restore_56 ?_
        have M_59 := c_X1_keep l D cy h0 h1 hs (gTr_day T_45) T_32 hf32 hc32
        obtain ⟨T_59, hT_59⟩ : ∃ g : zHs, g = ((f_X1_keep T_32 (gTr_day T_45)).2) := ⟨_, rfl⟩
        rw [← hT_59] at M_59
        obtain ⟨R_59_1, hR_59_1⟩ : ∃ g : Int32, g = ((f_X1_keep T_32 (gTr_day T_45)).1) := ⟨_, rfl⟩
        rw [← hR_59_1] at M_59
        refine zj_callVF1 C (nn := 2) (Bs' := (([(WX0 x0 x1 x2 a b d0 p0 h0), (WX1 cy x1 sl), (WX2 cy x2 (gSl_sv s)), (WT cy a T_45), (WHo cy h0 h1 hs (gHs_first T_59) (gHs_count T_59))] : List va_W) ++ (WHL cy hs (gHs_st T_32) ++ WSL cy sl (gSl_st s)))) (st := []) (st1 := [.int R_59_1]) 4 0 1 (M_59) (zg_V tg_337 tg_334 tg_335 tg_336 tg_8) ⟨rfl, hdZ_X1_keep⟩ ⟨rfl, rfl⟩ ⟨by decide, by decide⟩ rfl rfl rfl ⟨rfl, rfl⟩ rfl rfl (Nat.le_of_ble_eq_true rfl) dX7_restore_59 rfl rfl ?_
        subst hR_59_1
        subst hT_59
        subst hT_45
        subst hT_32
        have e : f_X7_restore t y s so = (((f_X1_keep (f_X1_hold y t) (gTr_day (f_X6_become t ((gSl_st s) so.toNatClampNeg)))).1), (f_X6_become t ((gSl_st s) so.toNatClampNeg)), (sHs_count (sHs_first (f_X1_hold y t) (gHs_first ((f_X1_keep (f_X1_hold y t) (gTr_day (f_X6_become t ((gSl_st s) so.toNatClampNeg)))).2))) (gHs_count ((f_X1_keep (f_X1_hold y t) (gTr_day (f_X6_become t ((gSl_st s) so.toNatClampNeg)))).2)))) := by refine (if_neg c_1).trans ?_; refine (if_pos c_6).trans ?_; refine (if_neg c_18).trans ?_; rfl
        rw [e] at hret
        exact hret _ _ dX7_restore_62
      · have c_18 : ((gSl_sv s) so.toNatClampNeg) = 0 := (Classical.not_not.mp c)
        refine zj_bipush C (v := (-5)) dX7_restore_21 (by decide) ?_
        have e : f_X7_restore t y s so = ((-5), t, y) := by refine (if_neg c_1).trans ?_; refine (if_pos c_6).trans ?_; refine (if_pos c_18).trans ?_; rfl
        rw [e] at hret
        exact hret _ _ dX7_restore_23
    · have c_6 : ¬ (so < (nI 2)) := c
      refine zj_bipush C (v := (-2)) dX7_restore_9 (by decide) ?_
      have e : f_X7_restore t y s so = ((-2), t, y) := by refine (if_neg c_1).trans ?_; refine (if_neg c_6).trans ?_; rfl
      rw [e] at hret
      exact hret _ _ dX7_restore_11
