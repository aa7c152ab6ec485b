theorem L_due_le (o : zOd) (day : Int32) : ∀ (n k : Nat), k ≤ gOd_n o → L_X4_due o day n k ≤ gOd_n o
  | 0, k, h => h
  | n + 1, k, h => by
    rw [L_X4_due_s]
    by_cases c : gOd_n o ≤ k
    · rw [if_pos c]; exact h
    · rw [if_neg c]
      by_cases c2 : day < gOd_dy o k
      · rw [if_pos c2]; exact h
      · rw [if_neg c2]; exact L_due_le o day n (k + 1) (by omega)
theorem xdue_le {o : zOd} {day : Int32} : f_X4_dueOn o day ≤ gOd_n o := L_due_le o day _ 0 (Nat.zero_le _)
theorem xle_sell (t : zTr) (am : Int64) : gTr_le (f_X6_sellFor t am).2 = gTr_le t := by
  unfold f_X6_sellFor
  by_cases c : gTr_cash t < am
  · rw [if_pos c]
  · rw [if_neg c]
theorem xbu_sell (t : zTr) (am : Int64) : gTr_bu (f_X6_sellFor t am).2 = gTr_bu t := by
  unfold f_X6_sellFor
  by_cases c : gTr_cash t < am
  · rw [if_pos c]
  · rw [if_neg c]
theorem xle_take (t : zTr) (h : Nat) (un am ofu : Int64) : gTr_le (f_X6_takeUnits t h un am ofu) = gTr_le t := rfl
theorem xbu_take (t : zTr) (h : Nat) (un am ofu : Int64) : gTr_bu (f_X6_takeUnits t h un am ofu) = gTr_bu t := rfl
theorem xbu_make (t : zTr) (h : Nat) (un am ofu : Int64) : gTr_bu (f_X6_makeUnits t h un am ofu) = gTr_bu t := rfl
theorem xho_eq {x : Int32} (h : vp_in x 6) : x = nI x.toNatClampNeg := by
  have h1 := (vp_in_iff.mp h).1
  obtain ⟨j, hj, rfl⟩ := nI_of (x := x) (by rw [Int32.lt_iff_toInt_lt]; have : (0 : Int32).toInt = 0 := by decide
                                            omega)
  rw [nI_clamp hj]
theorem xho_lt {x : Int32} (h : vp_in x 6) : x.toNatClampNeg < 6 := by
  have h1 := vp_in_iff.mp h
  show x.toInt.toNat < 6
  omega

noncomputable def f_X0_direction (fl : Int64) (th : Int64) : Int32 :=
  if fl ≤ 0 then
    let x16_0 : Int32 := (if 0 ≤ fl then (nI 0) else (if (-th) ≤ fl then (nI 0) else (-1)))
    x16_0
  else
    if fl ≤ th then
      let x16_0 : Int32 := (if 0 ≤ fl then (nI 0) else (if (-th) ≤ fl then (nI 0) else (-1)))
      x16_0
    else
      (nI 1)
set_option maxHeartbeats 4000000 in
set_option maxRecDepth 100000 in
theorem c_X0_direction (l : Launch) (D : va_G) (cy : Nat → ClassId)  (fl : Int64) (th : Int64)   : zC l yX0_direction (zW yX0_direction cX0_direction 4 (Option.some Jvm.ClassFile.FieldType.int)) { frames := 0, cells := 0, slots := 0, locals := 0 } D cy [.long fl, .long th] ([] : va_W) (some (.int (f_X0_direction fl th))) ([] : va_W) := by
  refine zC_of rfl (Nat.le_of_ble_eq_true rfl) (zOk_i _) (fun E C hret => ?_)
  show zJ E 4 0 0 ([] : va_W) 0 [(0, .long fl), (2, .long th)] []
  refine zj_lload_n C dX0_direction_0 0 rfl ?_
  refine zj_lconst C (v := 0) dX0_direction_1 (by decide) ?_
  refine zj_lcmp_le C 14 dX0_direction_2 dX0_direction_3 (by decide) (fun c => ?_) (fun c => ?_)
  · have c_2 : fl ≤ 0 := c
    refine zj_lload_n C dX0_direction_14 0 rfl ?_
    refine zj_lconst C (v := 0) dX0_direction_15 (by decide) ?_
    have J_16 : ∀ (x16_0 : Int32), x16_0 = (if 0 ≤ fl then (nI 0) else (if (-th) ≤ fl then (nI 0) else (-1))) → zJ E 4 0 0 ([] : va_W) 32 [(0, .long fl), (2, .long th)] [.int x16_0] := by
      intro x16_0 hx16_0
      subst hx16_0
      have e : f_X0_direction fl th = (if 0 ≤ fl then (nI 0) else (if (-th) ≤ fl then (nI 0) else (-1))) := by refine (if_pos c_2).trans ?_; rfl
      rw [e] at hret
      exact hret _ _ dX0_direction_32
    refine zj_lcmp_ge C 31 dX0_direction_16 dX0_direction_17 (by decide) (fun c => ?_) (fun c => ?_)
    · have c_16 : 0 ≤ fl := c
      refine zj_iconst C (v := (nI 0)) dX0_direction_31 (by decide) ?_
      exact J_16 (nI 0) (by simp only [if_pos c_2, if_pos c_16]; first | done | assumption)
    · have c_16 : ¬ (0 ≤ fl) := c
      refine zj_lload_n C dX0_direction_20 0 rfl ?_
      refine zj_lload_n C dX0_direction_21 1 rfl ?_
      refine zj_lneg C dX0_direction_22 ?_
      have J_23 : ∀ (x23_0 : Int32), x23_0 = (if (-th) ≤ fl then (nI 0) else (-1)) → zJ E 4 0 0 ([] : va_W) 32 [(0, .long fl), (2, .long th)] [.int x23_0] := by
        intro x23_0 hx23_0
        subst hx23_0
        exact J_16 (if (-th) ≤ fl then (nI 0) else (-1)) (by simp only [if_pos c_2, if_neg c_16]; first | done | assumption)
      refine zj_lcmp_ge C 31 dX0_direction_23 dX0_direction_24 (by decide) (fun c => ?_) (fun c => ?_)
      · have c_23 : (-th) ≤ fl := c
        refine zj_iconst C (v := (nI 0)) dX0_direction_31 (by decide) ?_
        exact J_23 (nI 0) (by simp only [if_pos c_2, if_neg c_16, if_pos c_23]; first | done | assumption)
      · have c_23 : ¬ ((-th) ≤ fl) := c
        refine zj_iconst C (v := (-1)) dX0_direction_27 (by decide) ?_
        refine zj_goto C 32 dX0_direction_28 (by decide) ?_
        exact J_23 (-1) (by simp only [if_pos c_2, if_neg c_16, if_neg c_23]; first | done | assumption)
  · have c_2 : ¬ (fl ≤ 0) := c
    refine zj_lload_n C dX0_direction_6 0 rfl ?_
    refine zj_lload_n C dX0_direction_7 1 rfl ?_
    refine zj_lcmp_le C 14 dX0_direction_8 dX0_direction_9 (by decide) (fun c => ?_) (fun c => ?_)
    · have c_8 : fl ≤ th := c
      refine zj_lload_n C dX0_direction_14 0 rfl ?_
      refine zj_lconst C (v := 0) dX0_direction_15 (by decide) ?_
      have J_16 : ∀ (x16_0 : Int32), x16_0 = (if 0 ≤ fl then (nI 0) else (if (-th) ≤ fl then (nI 0) else (-1))) → zJ E 4 0 0 ([] : va_W) 32 [(0, .long fl), (2, .long th)] [.int x16_0] := by
        intro x16_0 hx16_0
        subst hx16_0
        have e : f_X0_direction fl th = (if 0 ≤ fl then (nI 0) else (if (-th) ≤ fl then (nI 0) else (-1))) := by refine (if_neg c_2).trans ?_; refine (if_pos c_8).trans ?_; rfl
        rw [e] at hret
        exact hret _ _ dX0_direction_32
      refine zj_lcmp_ge C 31 dX0_direction_16 dX0_direction_17 (by decide) (fun c => ?_) (fun c => ?_)
      · have c_16 : 0 ≤ fl := c
        refine zj_iconst C (v := (nI 0)) dX0_direction_31 (by decide) ?_
        exact J_16 (nI 0) (by simp only [if_neg c_2, if_pos c_8, if_pos c_16]; first | done | assumption)
      · have c_16 : ¬ (0 ≤ fl) := c
        refine zj_lload_n C dX0_direction_20 0 rfl ?_
        refine zj_lload_n C dX0_direction_21 1 rfl ?_
        refine zj_lneg C dX0_direction_22 ?_
        have J_23 : ∀ (x23_0 : Int32), x23_0 = (if (-th) ≤ fl then (nI 0) else (-1)) → zJ E 4 0 0 ([] : va_W) 32 [(0, .long fl), (2, .long th)] [.int x23_0] := by
          intro x23_0 hx23_0
          subst hx23_0
          exact J_16 (if (-th) ≤ fl then (nI 0) else (-1)) (by simp only [if_neg c_2, if_pos c_8, if_neg c_16]; first | done | assumption)
        refine zj_lcmp_ge C 31 dX0_direction_23 dX0_direction_24 (by decide) (fun c => ?_) (fun c => ?_)
        · have c_23 : (-th) ≤ fl := c
          refine zj_iconst C (v := (nI 0)) dX0_direction_31 (by decide) ?_
          exact J_23 (nI 0) (by simp only [if_neg c_2, if_pos c_8, if_neg c_16, if_pos c_23]; first | done | assumption)
        · have c_23 : ¬ ((-th) ≤ fl) := c
          refine zj_iconst C (v := (-1)) dX0_direction_27 (by decide) ?_
          refine zj_goto C 32 dX0_direction_28 (by decide) ?_
          exact J_23 (-1) (by simp only [if_neg c_2, if_pos c_8, if_neg c_16, if_neg c_23]; first | done | assumption)
    · have c_8 : ¬ (fl ≤ th) := c
      refine zj_iconst C (v := (nI 1)) dX0_direction_12 (by decide) ?_
      have e : f_X0_direction fl th = (nI 1) := by refine (if_neg c_2).trans ?_; refine (if_neg c_8).trans ?_; rfl
      rw [e] at hret
      exact hret _ _ dX0_direction_13

noncomputable def f_X0_takePrice (x : zDd) (t : zTr) : zDd :=
  let R_2 : Int64 := (f_X6_middle t)
  let R_10 : Int64 := (f_X6_unitIncome t)
  let R_17 : Int64 := (f_X6_units t)
  let R_34 : Nat := (f_X4_dueOn (gTr_bu t) (gTr_day t))
  let R_37 : Int64 := (f_X4_sum (gTr_bu t) 0 R_34)
  let R_56 : Nat := (f_X4_dueOn (gTr_le t) (gTr_day t))
  let R_59 : Int64 := (f_X4_sum (gTr_le t) 0 R_56)
  let V_86 : Int64 := (if ((((((gTr_st t) 3)).toInt64) * R_17) / 1000) < R_59 then ((((((gTr_st t) 3)).toInt64) * R_17) / 1000) else R_59)
  let x110_0 : Int32 := (if R_17 ≤ 0 then (nI 0) else (f_X0_direction (1000 * (R_37 - ((V_86 * R_2) / 1000))) (((((gTr_st t) 1)).toInt64) * (f_X6_value t))))
  let V_168 : Int64 := ((((((nI 1000) + (x110_0 * ((gTr_st t) 2)))).toInt64) * R_2) / 1000)
  (sDd_swung (sDd_allowed (sDd_wanted (sDd_price (sDd_ui (sDd_middle x R_2) R_10) V_168) R_59) V_86) x110_0)
set_option maxHeartbeats 4000000 in
set_option maxRecDepth 100000 in
theorem c_X0_takePrice (l : Launch) (D : va_G) (cy : Nat → ClassId) (d0 d1 : Nat) (a : Nat → Nat)  (x : zDd) (t : zTr) (hb : gOd_n (gTr_bu t) ≤ 20) (hl : gOd_n (gTr_le t) ≤ 20) : zC l yX0_takePrice (zW yX0_takePrice cX0_takePrice 8 (Option.none : Option Jvm.ClassFile.FieldType)) { frames := 3, cells := 0, slots := 0, locals := 65 } D cy [.ref d0, .ref (a 0)] ([(WD cy d0 d1 x), (WT cy a t)] : List va_W).flatten none ([(WD cy d0 d1 (f_X0_takePrice x t)), (WT cy a t)] : List va_W).flatten := by
  refine zC_of rfl (Nat.le_of_ble_eq_true rfl) zOk_v (fun E C hret => ?_)
  show zJ E 8 0 0 ([(WD cy d0 d1 x), (WT cy a t)] : List va_W).flatten 0 [(0, .ref d0), (1, .ref (a 0))] []
  refine zj_aload_n C dX0_takePrice_0 0 rfl ?_
  refine zj_aload_n C dX0_takePrice_1 1 rfl ?_
  have M_2 := c_X6_middle l D cy a  t 
  obtain ⟨R_2, hR_2⟩ : ∃ g : Int64, g = (f_X6_middle t) := ⟨_, rfl⟩
  rw [← hR_2] at M_2
  refine zj_callVF1 C (nn := 18) (Bs' := ([(WD cy d0 d1 x), (WT cy a t)] : List va_W)) (st := [.ref d0]) (st1 := [.long R_2, .ref d0]) 1 0 6 (M_2) (zg_V tg_432 tg_429 tg_430 tg_431 tg_2) ⟨rfl, hdZ_X6_middle⟩ ⟨rfl, rfl⟩ ⟨by decide, by decide⟩ rfl rfl rfl ⟨rfl, rfl⟩ rfl rfl (Nat.le_of_ble_eq_true rfl) dX0_takePrice_2 rfl rfl ?_
  refine zj_put C 0 0 0 (v := .long R_2) (ws' := ([(WD cy d0 d1 (sDd_middle x R_2)), (WT cy a t)] : List va_W).flatten) tyX0 tyX0_ok nmX0 inZ0 rfl rfl (by decide) tg_197 rfl rfl rfl (Nat.le_of_ble_eq_true rfl) dX0_takePrice_5 rfl ?_
  refine zj_aload_n C dX0_takePrice_8 0 rfl ?_
  refine zj_aload_n C dX0_takePrice_9 1 rfl ?_
  have M_10 := c_X6_unitIncome l D cy a  t 
  obtain ⟨R_10, hR_10⟩ : ∃ g : Int64, g = (f_X6_unitIncome t) := ⟨_, rfl⟩
  rw [← hR_10] at M_10
  refine zj_callVF1 C (nn := 18) (Bs' := ([(WD cy d0 d1 (sDd_middle x R_2)), (WT cy a t)] : List va_W)) (st := [.ref d0]) (st1 := [.long R_10, .ref d0]) 1 0 6 (M_10) (zg_V tg_401 tg_438 tg_399 tg_400 tg_2) ⟨rfl, hdZ_X6_unitIncome⟩ ⟨rfl, rfl⟩ ⟨by decide, by decide⟩ rfl rfl rfl ⟨rfl, rfl⟩ rfl rfl (Nat.le_of_ble_eq_true rfl) dX0_takePrice_10 rfl rfl ?_
  refine zj_put C 0 0 1 (v := .long R_10) (ws' := ([(WD cy d0 d1 (sDd_ui (sDd_middle x R_2) R_10)), (WT cy a t)] : List va_W).flatten) tyX0 tyX0_ok nmX0 inZ0 rfl rfl (by decide) tg_198 rfl rfl rfl (Nat.le_of_ble_eq_true rfl) dX0_takePrice_13 rfl ?_
  refine zj_aload_n C dX0_takePrice_16 1 rfl ?_
  have M_17 := c_X6_units l D cy a  t 
  obtain ⟨R_17, hR_17⟩ : ∃ g : Int64, g = (f_X6_units t) := ⟨_, rfl⟩
  rw [← hR_17] at M_17
  refine zj_callVF1 C (nn := 18) (Bs' := ([(WD cy d0 d1 (sDd_ui (sDd_middle x R_2) R_10)), (WT cy a t)] : List va_W)) (st := []) (st1 := [.long R_17]) 1 0 6 (M_17) (zg_V tg_397 tg_439 tg_395 tg_396 tg_2) ⟨rfl, hdZ_X6_units⟩ ⟨rfl, rfl⟩ ⟨by decide, by decide⟩ rfl rfl rfl ⟨rfl, rfl⟩ rfl rfl (Nat.le_of_ble_eq_true rfl) dX0_takePrice_17 rfl rfl ?_
  refine zj_lstore_n C (L' := [(2, .long R_17), (0, .ref d0), (1, .ref (a 0))]) dX0_takePrice_20 rfl (by decide) rfl ?_
  refine zj_aload_n C dX0_takePrice_21 2 rfl ?_
  refine zj_get C 2 6 8 (v := .ref (a 3)) inZ6 rfl rfl (by decide) tg_160 rfl dX0_takePrice_22 ?_
  refine zj_iconst C (v := (nI 0)) dX0_takePrice_25 (by decide) ?_
  refine zj_aload_n C dX0_takePrice_26 2 rfl ?_
  refine zj_get C 2 6 8 (v := .ref (a 3)) inZ6 rfl rfl (by decide) tg_160 rfl dX0_takePrice_27 ?_
  refine zj_aload_n C dX0_takePrice_30 2 rfl ?_
  refine zj_get C 2 6 5 (v := .int (gTr_day t)) inZ6 rfl rfl (by decide) tg_151 rfl dX0_takePrice_31 ?_
  have M_34 := c_X4_dueOn l D cy (a 3) (a 4) (a 5) (a 6) (gTr_day t) (gTr_bu t) hb
  obtain ⟨R_34, hR_34⟩ : ∃ g : Nat, g = (f_X4_dueOn (gTr_bu t) (gTr_day t)) := ⟨_, rfl⟩
  rw [← hR_34] at M_34
  refine zj_callVP C (nn := 4) (w := (WT cy a t)) (w' := (WT cy a t)) (Bs' := ([(WD cy d0 d1 (sDd_ui (sDd_middle x R_2) R_10)), (WT cy a t)] : List va_W)) (st := [.int (nI 0), .ref (a 3)]) (st1 := [.int (nI R_34), .int (nI 0), .ref (a 3)]) 1 [3, 4, 5, 6] 3 4 (M_34) (zg_V tg_443 tg_440 tg_441 tg_442 tg_4) ⟨rfl, hdZ_X4_dueOn⟩ ⟨rfl, rfl⟩ ⟨by decide, by decide⟩ rfl rfl rfl rfl (by decide) ⟨rfl, rfl⟩ rfl rfl (Nat.le_of_ble_eq_true rfl) dX0_takePrice_34 rfl rfl rfl ?_
  have q34 : R_34 ≤ 20 := by rw [hR_34]; exact Nat.le_trans xdue_le hb
  have M_37 := c_X4_sum l D cy (a 3) (a 4) (a 5) (a 6) 0 R_34 (gTr_bu t) q34 (by decide)
  obtain ⟨R_37, hR_37⟩ : ∃ g : Int64, g = (f_X4_sum (gTr_bu t) 0 R_34) := ⟨_, rfl⟩
  rw [← hR_37] at M_37
  refine zj_callVP C (nn := 4) (w := (WT cy a t)) (w' := (WT cy a t)) (Bs' := ([(WD cy d0 d1 (sDd_ui (sDd_middle x R_2) R_10)), (WT cy a t)] : List va_W)) (st := []) (st1 := [.long R_37]) 1 [3, 4, 5, 6] 3 4 (M_37) (zg_V tg_447 tg_444 tg_445 tg_446 tg_4) ⟨rfl, hdZ_X4_sum⟩ ⟨rfl, rfl⟩ ⟨by decide, by decide⟩ rfl rfl rfl rfl (by decide) ⟨rfl, rfl⟩ rfl rfl (Nat.le_of_ble_eq_true rfl) dX0_takePrice_37 rfl rfl rfl ?_
  refine zj_lstore C (L' := [(4, .long R_37), (2, .long R_17), (0, .ref d0), (1, .ref (a 0))]) dX0_takePrice_40 (by decide) rfl ?_
  refine zj_aload_n C dX0_takePrice_42 2 rfl ?_
  refine zj_aload_n C dX0_takePrice_43 3 rfl ?_
  refine zj_get C 2 6 9 (v := .ref (a 7)) inZ6 rfl rfl (by decide) tg_163 rfl dX0_takePrice_44 ?_
  refine zj_iconst C (v := (nI 0)) dX0_takePrice_47 (by decide) ?_
  refine zj_aload_n C dX0_takePrice_48 3 rfl ?_
  refine zj_get C 2 6 9 (v := .ref (a 7)) inZ6 rfl rfl (by decide) tg_163 rfl dX0_takePrice_49 ?_
  refine zj_aload_n C dX0_takePrice_52 3 rfl ?_
  refine zj_get C 2 6 5 (v := .int (gTr_day t)) inZ6 rfl rfl (by decide) tg_151 rfl dX0_takePrice_53 ?_
  have M_56 := c_X4_dueOn l D cy (a 7) (a 8) (a 9) (a 10) (gTr_day t) (gTr_le t) hl
  obtain ⟨R_56, hR_56⟩ : ∃ g : Nat, g = (f_X4_dueOn (gTr_le t) (gTr_day t)) := ⟨_, rfl⟩
  rw [← hR_56] at M_56
  refine zj_callVP C (nn := 4) (w := (WT cy a t)) (w' := (WT cy a t)) (Bs' := ([(WD cy d0 d1 (sDd_ui (sDd_middle x R_2) R_10)), (WT cy a t)] : List va_W)) (st := [.int (nI 0), .ref (a 7), .ref d0]) (st1 := [.int (nI R_56), .int (nI 0), .ref (a 7), .ref d0]) 1 [7, 8, 9, 10] 7 4 (M_56) (zg_V tg_443 tg_440 tg_441 tg_442 tg_4) ⟨rfl, hdZ_X4_dueOn⟩ ⟨rfl, rfl⟩ ⟨by decide, by decide⟩ rfl rfl rfl rfl (by decide) ⟨rfl, rfl⟩ rfl rfl (Nat.le_of_ble_eq_true rfl) dX0_takePrice_56 rfl rfl rfl ?_
  have q56 : R_56 ≤ 20 := by rw [hR_56]; exact Nat.le_trans xdue_le hl
  have M_59 := c_X4_sum l D cy (a 7) (a 8) (a 9) (a 10) 0 R_56 (gTr_le t) q56 (by decide)
  obtain ⟨R_59, hR_59⟩ : ∃ g : Int64, g = (f_X4_sum (gTr_le t) 0 R_56) := ⟨_, rfl⟩
  rw [← hR_59] at M_59
  refine zj_callVP C (nn := 4) (w := (WT cy a t)) (w' := (WT cy a t)) (Bs' := ([(WD cy d0 d1 (sDd_ui (sDd_middle x R_2) R_10)), (WT cy a t)] : List va_W)) (st := [.ref d0]) (st1 := [.long R_59, .ref d0]) 1 [7, 8, 9, 10] 7 4 (M_59) (zg_V tg_447 tg_444 tg_445 tg_446 tg_4) ⟨rfl, hdZ_X4_sum⟩ ⟨rfl, rfl⟩ ⟨by decide, by decide⟩ rfl rfl rfl rfl (by decide) ⟨rfl, rfl⟩ rfl rfl (Nat.le_of_ble_eq_true rfl) dX0_takePrice_59 rfl rfl rfl ?_
  refine zj_put C 0 0 3 (v := .long R_59) (ws' := ([(WD cy d0 d1 (sDd_wanted (sDd_ui (sDd_middle x R_2) R_10) R_59)), (WT cy a t)] : List va_W).flatten) tyX0 tyX0_ok nmX0 inZ0 rfl rfl (by decide) tg_202 rfl rfl rfl (Nat.le_of_ble_eq_true rfl) dX0_takePrice_62 rfl ?_
  refine zj_aload_n C dX0_takePrice_65 2 rfl ?_
  refine zj_aload_n C dX0_takePrice_66 2 rfl ?_
  refine zj_get C 0 0 3 (v := .long R_59) inZ0 rfl rfl (by decide) tg_202 rfl dX0_takePrice_67 ?_
  refine zj_aload_n C dX0_takePrice_70 3 rfl ?_
  refine zj_get C 2 6 6 (v := .ref (a 1)) inZ6 rfl rfl (by decide) tg_154 rfl dX0_takePrice_71 ?_
  refine zj_iconst C (v := (nI 3)) dX0_takePrice_74 (by decide) ?_
  refine zj_iald C 3 (f := (gTr_st t)) 3 (by decide) (vp_in_nI (by decide) (by decide)) rfl dX0_takePrice_75 ?_
  refine zj_i2l C dX0_takePrice_76 ?_
  refine zj_lload_n C dX0_takePrice_77 1 rfl ?_
  refine zj_lmul C dX0_takePrice_78 ?_
  refine zj_ldc2 C dX0_takePrice_79 tg_448 ?_
  refine zj_ldiv C dX0_takePrice_82 (by decide) ?_
  refine zj_mmin C (x := R_59) (y := ((((((gTr_st t) 3)).toInt64) * R_17) / 1000)) tg_449 ⟨by decide, Nat.le_of_ble_eq_true rfl⟩ dX0_takePrice_83 ?_
  refine zj_toplg (fun V_86 hV_86 => ?_)
  refine zj_put C 0 0 4 (v := .long V_86) (ws' := ([(WD cy d0 d1 (sDd_allowed (sDd_wanted (sDd_ui (sDd_middle x R_2) R_10) R_59) V_86)), (WT cy a t)] : List va_W).flatten) tyX0 tyX0_ok nmX0 inZ0 rfl rfl (by decide) tg_203 rfl rfl rfl (Nat.le_of_ble_eq_true rfl) dX0_takePrice_86 rfl ?_
  refine zj_lload C dX0_takePrice_89 0 rfl ?_
  refine zj_aload_n C dX0_takePrice_91 2 rfl ?_
  refine zj_get C 0 0 4 (v := .long V_86) inZ0 rfl rfl (by decide) tg_203 rfl dX0_takePrice_92 ?_
  refine zj_aload_n C dX0_takePrice_95 2 rfl ?_
  refine zj_get C 0 0 0 (v := .long R_2) inZ0 rfl rfl (by decide) tg_197 rfl dX0_takePrice_96 ?_
  refine zj_lmul C dX0_takePrice_99 ?_
  refine zj_ldc2 C dX0_takePrice_100 tg_448 ?_
  refine zj_ldiv C dX0_takePrice_103 (by decide) ?_
  refine zj_lsub C dX0_takePrice_104 ?_
  refine zj_lstore C (L' := [(6, .long (R_37 - ((V_86 * R_2) / 1000))), (4, .long R_37), (2, .long R_17), (0, .ref d0), (1, .ref (a 0))]) dX0_takePrice_105 (by decide) rfl ?_
  refine zj_aload_n C dX0_takePrice_107 3 rfl ?_
  refine zj_lload_n C dX0_takePrice_108 2 rfl ?_
  refine zj_lconst C (v := 0) dX0_takePrice_109 (by decide) ?_
  have J_110 : ∀ (x110_0 : Int32), x110_0 = (if R_17 ≤ 0 then (nI 0) else (f_X0_direction (1000 * (R_37 - ((V_86 * R_2) / 1000))) (((((gTr_st t) 1)).toInt64) * (f_X6_value t)))) → zJ E 8 0 0 ([(WD cy d0 d1 (sDd_allowed (sDd_wanted (sDd_ui (sDd_middle x R_2) R_10) R_59) V_86)), (WT cy a t)] : List va_W).flatten 139 [(6, .long (R_37 - ((V_86 * R_2) / 1000))), (4, .long R_37), (2, .long R_17), (0, .ref d0), (1, .ref (a 0))] [.int x110_0, .ref d0] := by
    intro x110_0 hx110_0
    refine zj_put C 0 0 5 (v := .int x110_0) (ws' := ([(WD cy d0 d1 (sDd_swung (sDd_allowed (sDd_wanted (sDd_ui (sDd_middle x R_2) R_10) R_59) V_86) x110_0)), (WT cy a t)] : List va_W).flatten) tyX0 tyX0_ok nmX0 inZ0 rfl rfl (by decide) tg_205 rfl rfl rfl (Nat.le_of_ble_eq_true rfl) dX0_takePrice_139 rfl ?_
    refine zj_aload_n C dX0_takePrice_142 3 rfl ?_
    refine zj_sipush C (v := (nI 1000)) dX0_takePrice_143 (by decide) ?_
    refine zj_aload_n C dX0_takePrice_146 3 rfl ?_
    refine zj_get C 0 0 5 (v := .int x110_0) inZ0 rfl rfl (by decide) tg_205 rfl dX0_takePrice_147 ?_
    refine zj_aload_n C dX0_takePrice_150 4 rfl ?_
    refine zj_get C 2 6 6 (v := .ref (a 1)) inZ6 rfl rfl (by decide) tg_154 rfl dX0_takePrice_151 ?_
    refine zj_iconst C (v := (nI 2)) dX0_takePrice_154 (by decide) ?_
    refine zj_iald C 3 (f := (gTr_st t)) 2 (by decide) (vp_in_nI (by decide) (by decide)) rfl dX0_takePrice_155 ?_
    refine zj_imul C dX0_takePrice_156 ?_
    refine zj_iadd C dX0_takePrice_157 ?_
    refine zj_i2l C dX0_takePrice_158 ?_
    refine zj_aload_n C dX0_takePrice_159 3 rfl ?_
    refine zj_get C 0 0 0 (v := .long R_2) inZ0 rfl rfl (by decide) tg_197 rfl dX0_takePrice_160 ?_
    refine zj_lmul C dX0_takePrice_163 ?_
    refine zj_ldc2 C dX0_takePrice_164 tg_448 ?_
    refine zj_ldiv C dX0_takePrice_167 (by decide) ?_
    refine zj_toplg (fun V_168 hV_168 => ?_)
    refine zj_put C 0 0 2 (v := .long V_168) (ws' := ([(WD cy d0 d1 (sDd_swung (sDd_allowed (sDd_wanted (sDd_price (sDd_ui (sDd_middle x R_2) R_10) V_168) R_59) V_86) x110_0)), (WT cy a t)] : List va_W).flatten) tyX0 tyX0_ok nmX0 inZ0 rfl rfl (by decide) tg_199 rfl rfl rfl (Nat.le_of_ble_eq_true rfl) dX0_takePrice_168 rfl ?_
    subst hV_168
    subst hx110_0
    subst hV_86
    subst hR_59
    subst hR_56
    subst hR_37
    subst hR_34
    subst hR_17
    subst hR_10
    subst hR_2
    have e : f_X0_takePrice x t = (sDd_swung (sDd_allowed (sDd_wanted (sDd_price (sDd_ui (sDd_middle x (f_X6_middle t)) (f_X6_unitIncome t)) ((((((nI 1000) + ((if (f_X6_units t) ≤ 0 then (nI 0) else (f_X0_direction (1000 * ((f_X4_sum (gTr_bu t) 0 (f_X4_dueOn (gTr_bu t) (gTr_day t))) - (((if ((((((gTr_st t) 3)).toInt64) * (f_X6_units t)) / 1000) < (f_X4_sum (gTr_le t) 0 (f_X4_dueOn (gTr_le t) (gTr_day t))) then ((((((gTr_st t) 3)).toInt64) * (f_X6_units t)) / 1000) else (f_X4_sum (gTr_le t) 0 (f_X4_dueOn (gTr_le t) (gTr_day t)))) * (f_X6_middle t)) / 1000))) (((((gTr_st t) 1)).toInt64) * (f_X6_value t)))) * ((gTr_st t) 2)))).toInt64) * (f_X6_middle t)) / 1000)) (f_X4_sum (gTr_le t) 0 (f_X4_dueOn (gTr_le t) (gTr_day t)))) (if ((((((gTr_st t) 3)).toInt64) * (f_X6_units t)) / 1000) < (f_X4_sum (gTr_le t) 0 (f_X4_dueOn (gTr_le t) (gTr_day t))) then ((((((gTr_st t) 3)).toInt64) * (f_X6_units t)) / 1000) else (f_X4_sum (gTr_le t) 0 (f_X4_dueOn (gTr_le t) (gTr_day t))))) (if (f_X6_units t) ≤ 0 then (nI 0) else (f_X0_direction (1000 * ((f_X4_sum (gTr_bu t) 0 (f_X4_dueOn (gTr_bu t) (gTr_day t))) - (((if ((((((gTr_st t) 3)).toInt64) * (f_X6_units t)) / 1000) < (f_X4_sum (gTr_le t) 0 (f_X4_dueOn (gTr_le t) (gTr_day t))) then ((((((gTr_st t) 3)).toInt64) * (f_X6_units t)) / 1000) else (f_X4_sum (gTr_le t) 0 (f_X4_dueOn (gTr_le t) (gTr_day t)))) * (f_X6_middle t)) / 1000))) (((((gTr_st t) 1)).toInt64) * (f_X6_value t))))) := by rfl
    rw [e] at hret
    exact hret _ _ dX0_takePrice_171
  refine zj_lcmp_le C 138 dX0_takePrice_110 dX0_takePrice_111 (by decide) (fun c => ?_) (fun c => ?_)
  · have c_110 : R_17 ≤ 0 := c
    refine zj_iconst C (v := (nI 0)) dX0_takePrice_138 (by decide) ?_
    exact J_110 (nI 0) (by simp only [if_pos c_110]; first | done | assumption)
  · have c_110 : ¬ (R_17 ≤ 0) := c
    refine zj_ldc2 C dX0_takePrice_114 tg_448 ?_
    refine zj_lload C dX0_takePrice_117 0 rfl ?_
    refine zj_lmul C dX0_takePrice_119 ?_
    refine zj_aload_n C dX0_takePrice_120 4 rfl ?_
    refine zj_get C 2 6 6 (v := .ref (a 1)) inZ6 rfl rfl (by decide) tg_154 rfl dX0_takePrice_121 ?_
    refine zj_iconst C (v := (nI 1)) dX0_takePrice_124 (by decide) ?_
    refine zj_iald C 3 (f := (gTr_st t)) 1 (by decide) (vp_in_nI (by decide) (by decide)) rfl dX0_takePrice_125 ?_
    refine zj_i2l C dX0_takePrice_126 ?_
    refine zj_aload_n C dX0_takePrice_127 4 rfl ?_
    have M_128 := c_X6_value l D cy a  t 
    obtain ⟨R_128, hR_128⟩ : ∃ g : Int64, g = (f_X6_value t) := ⟨_, rfl⟩
    rw [← hR_128] at M_128
    refine zj_callVF1 C (nn := 18) (Bs' := ([(WD cy d0 d1 (sDd_allowed (sDd_wanted (sDd_ui (sDd_middle x R_2) R_10) R_59) V_86)), (WT cy a t)] : List va_W)) (st := [.long ((((gTr_st t) 1)).toInt64), .long (1000 * (R_37 - ((V_86 * R_2) / 1000))), .ref d0]) (st1 := [.long R_128, .long ((((gTr_st t) 1)).toInt64), .long (1000 * (R_37 - ((V_86 * R_2) / 1000))), .ref d0]) 1 0 6 (M_128) (zg_V tg_436 tg_450 tg_434 tg_435 tg_2) ⟨rfl, hdZ_X6_value⟩ ⟨rfl, rfl⟩ ⟨by decide, by decide⟩ rfl rfl rfl ⟨rfl, rfl⟩ rfl rfl (Nat.le_of_ble_eq_true rfl) dX0_takePrice_128 rfl rfl ?_
    refine zj_lmul C dX0_takePrice_131 ?_
    have M_132 := c_X0_direction l D cy  (1000 * (R_37 - ((V_86 * R_2) / 1000))) (((((gTr_st t) 1)).toInt64) * R_128)  
    obtain ⟨R_132, hR_132⟩ : ∃ g : Int32, g = (f_X0_direction (1000 * (R_37 - ((V_86 * R_2) / 1000))) (((((gTr_st t) 1)).toInt64) * R_128)) := ⟨_, rfl⟩
    rw [← hR_132] at M_132
    refine zj_callS C (nn := 0) (ws' := ([(WD cy d0 d1 (sDd_allowed (sDd_wanted (sDd_ui (sDd_middle x R_2) R_10) R_59) V_86)), (WT cy a t)] : List va_W).flatten) (st := [.ref d0]) (st1 := [.int R_132, .ref d0]) [] (M_132) tg_453 tg_451 tg_452 tg_6 hdZ_X0_direction ⟨rfl, rfl⟩ ⟨by decide, by decide⟩ rfl (by decide) ⟨rfl, rfl⟩ rfl rfl (Nat.le_of_ble_eq_true rfl) dX0_takePrice_132 rfl rfl ?_
    refine zj_goto C 139 dX0_takePrice_135 (by decide) ?_
    subst hR_132
    subst hR_128
    exact J_110 (f_X0_direction (1000 * (R_37 - ((V_86 * R_2) / 1000))) (((((gTr_st t) 1)).toInt64) * (f_X6_value t))) (by simp only [if_neg c_110]; first | done | assumption)

noncomputable def f_X0_priceOf (x : zDd) (t : zTr) : Int64 × zDd :=
  let T_2 : zDd := (f_X0_takePrice x t)
  ((gDd_price T_2), T_2)
set_option maxHeartbeats 4000000 in
set_option maxRecDepth 100000 in
theorem c_X0_priceOf (l : Launch) (D : va_G) (cy : Nat → ClassId) (d0 d1 : Nat) (a : Nat → Nat)  (x : zDd) (t : zTr) (hb : gOd_n (gTr_bu t) ≤ 20) (hl : gOd_n (gTr_le t) ≤ 20) : zC l yX0_priceOf (zW yX0_priceOf cX0_priceOf 2 (Option.some Jvm.ClassFile.FieldType.long)) { frames := 4, cells := 0, slots := 0, locals := 92 } D cy [.ref d0, .ref (a 0)] ([(WD cy d0 d1 x), (WT cy a t)] : List va_W).flatten (some (.long ((f_X0_priceOf x t).1))) ([(WD cy d0 d1 ((f_X0_priceOf x t).2)), (WT cy a t)] : List va_W).flatten := by
  refine zC_of rfl (Nat.le_of_ble_eq_true rfl) (zOk_l _) (fun E C hret => ?_)
  show zJ E 2 0 0 ([(WD cy d0 d1 x), (WT cy a t)] : List va_W).flatten 0 [(0, .ref d0), (1, .ref (a 0))] []
  refine zj_aload_n C dX0_priceOf_0 0 rfl ?_
  refine zj_aload_n C dX0_priceOf_1 1 rfl ?_
  have M_2 := c_X0_takePrice l D cy d0 d1 a  x t hb hl
  obtain ⟨T_2, hT_2⟩ : ∃ g : zDd, g = (f_X0_takePrice x t) := ⟨_, rfl⟩
  rw [← hT_2] at M_2
  refine zj_callVF C (nn := 20) (Bs' := ([(WD cy d0 d1 T_2), (WT cy a t)] : List va_W)) (st := []) (st1 := []) [(WD cy d0 d1 x), (WT cy a t)] [(WD cy d0 d1 T_2), (WT cy a t)] [0, 1] 0 0 (M_2) rfl rfl (zg_V tg_428 tg_425 tg_427 tgp_3 tg_6) ⟨rfl, hdZ_X0_takePrice⟩ ⟨rfl, rfl⟩ ⟨by decide, by decide⟩ rfl rfl rfl (by decide) ⟨rfl, rfl⟩ rfl rfl rfl (Nat.le_of_ble_eq_true rfl) dX0_priceOf_2 rfl rfl ?_
  refine zj_aload_n C dX0_priceOf_5 0 rfl ?_
  refine zj_get C 0 0 2 (v := .long (gDd_price T_2)) inZ0 rfl rfl (by decide) tg_199 rfl dX0_priceOf_6 ?_
  subst hT_2
  have e : f_X0_priceOf x t = ((gDd_price (f_X0_takePrice x t)), (f_X0_takePrice x t)) := by rfl
  rw [e] at hret
  exact hret _ _ dX0_priceOf_9
