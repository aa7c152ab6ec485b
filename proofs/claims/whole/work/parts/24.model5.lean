theorem zsw_out {x : Int32} {n : Nat} (hn : n < 2 ^ 31) (h : ∀ k, k ≤ n → ¬ x = nI k) : x.toInt < (0 : Int) ∨ (n : Int) < x.toInt := by
  by_cases h0 : x < 0
  · exact Or.inl (by rw [Int32.lt_iff_toInt_lt] at h0; exact h0)
  · obtain ⟨j, hj, rfl⟩ := nI_of h0
    refine Or.inr ?_
    rw [nI_toInt hj]
    have := h j
    by_cases q : j ≤ n
    · exact absurd rfl (h j q)
    · omega
theorem zin_w {x : Int32} {hi : Int64} {N : Nat} (c : ¬ f_X8_in x.toInt64 0 hi = false) (hN : hi.toInt < N) : x = nI x.toNatClampNeg ∧ x.toNatClampNeg < N := by
  have h := f_in_int (zbt c)
  have h1 : (0 : Int64).toInt = 0 := by decide
  rw [h1] at h
  obtain ⟨j, hj, rfl⟩ := nI_of (x := x) (by rw [Int32.lt_iff_toInt_lt]; have : (0 : Int32).toInt = 0 := by decide
                                            omega)
  rw [nI_clamp hj]
  rw [nI_toInt hj] at h
  exact ⟨rfl, by omega⟩
theorem zord {S : zMs} {kd : Nat} {x : Int32} (hc : zCk S kd) (c : ¬ f_X8_in x.toInt64 0 (gMs_at S kd - 1) = false) : x = nI x.toNatClampNeg ∧ x.toNatClampNeg < zcn S kd := by
  have h2 := hc.2
  have c1 := c
  rw [hc.1] at c1
  rcases Nat.eq_zero_or_pos (zcn S kd) with q | q
  · rw [q] at c1
    have := f_in_int (zbt c1)
    have h3 : (lN 0 - 1).toInt = -1 := by decide
    have h1 : (0 : Int64).toInt = 0 := by decide
    omega
  · rw [show lN (zcn S kd) - 1 = lN (zcn S kd - 1) from lN_sub (b := 1) q] at c1
    exact zin_w c1 (by rw [lN_toInt (by omega)]; omega)

noncomputable def f_X8_tryEndDay (S : zMs) (b : Bool) : Int32 × zMs := zsl (
  (((((gMs_at (f_X8_endIt (f_X8_keepIf S b))) 10)).toInt32), (f_X8_endIt (f_X8_keepIf S b)))
  )
set_option maxHeartbeats 4000000 in
set_option maxRecDepth 100000 in
theorem c_X8_tryEndDay (l : Launch) (D : va_G) (cy : Nat → ClassId) (m : Nat → Nat) (b : Bool)  (S : zMs) (hf : gMs_pf S < 6) (hm : gMs_pm S ≤ 6) (hok : ok_endIt (f_X8_keepIf S b)) : zC l yX8_tryEndDay (zW yX8_tryEndDay cX8_tryEndDay 2 (Option.some Jvm.ClassFile.FieldType.int)) { frames := 7, cells := 0, slots := 0, locals := 162 } D cy [.ref (m 0), .int (zB b)] (WM cy m S) (some (.int ((f_X8_tryEndDay S b).1))) (WM cy m ((f_X8_tryEndDay S b).2)) := by
  refine zC_of rfl (Nat.le_of_ble_eq_true rfl) (zOk_i _) (fun E C hret => ?_)
  show zJ E 2 0 0 (WM cy m S) 0 [(0, .ref (m 0)), (1, .int (zB b))] []
  refine zj_aload_n C dX8_tryEndDay_0 0 rfl ?_
  refine zj_iload_n C dX8_tryEndDay_1 1 rfl ?_
  refine zj_callV C (nn := 10) (ws' := (WM cy m (f_X8_keepIf S b))) (st := []) (st1 := []) 0 8 [0, 1, 2, 3, 4, 5, 6, 7, 8, 9] (c_X8_keepIf l D cy m b S (by omega) (by omega)) (zg_V tg_752 tg_749 tg_751 tgp_16 tg_9) ⟨rfl, hdZ_X8_keepIf⟩ ⟨rfl, rfl⟩ ⟨by decide, by decide⟩ rfl rfl rfl (by decide) ⟨rfl, rfl⟩ rfl rfl (Nat.le_of_ble_eq_true rfl) dX8_tryEndDay_2 rfl rfl ?_
  refine zj_aload_n C dX8_tryEndDay_5 0 rfl ?_
  refine zj_callV C (nn := 10) (ws' := (WM cy m (f_X8_endIt (f_X8_keepIf S b)))) (st := []) (st1 := []) 0 8 [0, 1, 2, 3, 4, 5, 6, 7, 8, 9] (c_X8_endIt l D cy m  (f_X8_keepIf S b) hok) (zg_V tg_820 tg_817 tg_819 tgp_30 tg_9) ⟨rfl, hdZ_X8_endIt⟩ ⟨rfl, rfl⟩ ⟨by decide, by decide⟩ rfl rfl rfl (by decide) ⟨rfl, rfl⟩ rfl rfl (Nat.le_of_ble_eq_true rfl) dX8_tryEndDay_6 rfl rfl ?_
  refine zj_aload_n C dX8_tryEndDay_9 0 rfl ?_
  refine zj_get C 0 8 0 (v := .ref (m 1)) inZ8 rfl rfl (by decide) tg_677 rfl dX8_tryEndDay_10 ?_
  refine zj_bipush C (v := (nI 10)) dX8_tryEndDay_13 (by decide) ?_
  refine zj_lald C 1 (f := (gMs_at (f_X8_endIt (f_X8_keepIf S b)))) 10 (by decide) (vp_in_nI (by decide) (by decide)) rfl dX8_tryEndDay_15 ?_
  refine zj_l2i C dX8_tryEndDay_16 ?_
  have e : f_X8_tryEndDay S b = (((((gMs_at (f_X8_endIt (f_X8_keepIf S b))) 10)).toInt32), (f_X8_endIt (f_X8_keepIf S b))) := by refine (zsl_e _).trans ?_; rfl
  rw [e] at hret
  exact hret _ _ dX8_tryEndDay_17

noncomputable def f_X8_endDay (S : zMs) : Int32 × zMs :=
  (((f_X8_tryEndDay S true).1), ((f_X8_tryEndDay S true).2))
set_option maxHeartbeats 4000000 in
set_option maxRecDepth 100000 in
theorem c_X8_endDay (l : Launch) (D : va_G) (cy : Nat → ClassId) (m : Nat → Nat)   (S : zMs) (hf : gMs_pf S < 6) (hm : gMs_pm S ≤ 6) (hok : ok_endIt (f_X8_keepIf S true)) : zC l yX8_endDay (zW yX8_endDay cX8_endDay 1 (Option.some Jvm.ClassFile.FieldType.int)) { frames := 8, cells := 0, slots := 0, locals := 183 } D cy [.ref (m 0)] (WM cy m S) (some (.int ((f_X8_endDay S).1))) (WM cy m ((f_X8_endDay S).2)) := by
  refine zC_of rfl (Nat.le_of_ble_eq_true rfl) (zOk_i _) (fun E C hret => ?_)
  show zJ E 1 0 0 (WM cy m S) 0 [(0, .ref (m 0))] []
  refine zj_aload_n C dX8_endDay_0 0 rfl ?_
  refine zj_iconst C (v := (nI 1)) dX8_endDay_1 (by decide) ?_
  refine zj_callV C (nn := 10) (ws' := (WM cy m ((f_X8_tryEndDay S true).2))) (st := []) (st1 := [.int ((f_X8_tryEndDay S true).1)]) 0 8 [0, 1, 2, 3, 4, 5, 6, 7, 8, 9] (c_X8_tryEndDay l D cy m true S hf hm hok) (zg_V tg_816 tg_813 tg_815 tgp_29 tg_9) ⟨rfl, hdZ_X8_tryEndDay⟩ ⟨rfl, rfl⟩ ⟨by decide, by decide⟩ rfl rfl rfl (by decide) ⟨rfl, rfl⟩ rfl rfl (Nat.le_of_ble_eq_true rfl) dX8_endDay_2 rfl rfl ?_
  have e : f_X8_endDay S = (((f_X8_tryEndDay S true).1), ((f_X8_tryEndDay S true).2)) := by rfl
  rw [e] at hret
  exact hret _ _ dX8_endDay_5

noncomputable def f_X8_tryQuote (S : zMs) (q : Int32) (b : Bool) : Int32 × zMs := zsl (
  if (f_X8_in (q.toInt64) 1 10000) = false then
    ((-2), S)
  else
    (((((gMs_at (f_X8_keepIf S b)) 7)).toInt32), (sMs_at (f_X8_keepIf S b) (vp_updL (gMs_at (f_X8_keepIf S b)) 7 (q.toInt64))))
  )
set_option maxHeartbeats 4000000 in
set_option maxRecDepth 100000 in
theorem c_X8_tryQuote (l : Launch) (D : va_G) (cy : Nat → ClassId) (m : Nat → Nat) (q : Int32) (b : Bool)  (S : zMs) (hf : gMs_pf S < 6) (hm : gMs_pm S ≤ 6) : zC l yX8_tryQuote (zW yX8_tryQuote cX8_tryQuote 4 (Option.some Jvm.ClassFile.FieldType.int)) { frames := 2, cells := 0, slots := 0, locals := 43 } D cy [.ref (m 0), .int q, .int (zB b)] (WM cy m S) (some (.int ((f_X8_tryQuote S q b).1))) (WM cy m ((f_X8_tryQuote S q b).2)) := by
  refine zC_of rfl (Nat.le_of_ble_eq_true rfl) (zOk_i _) (fun E C hret => ?_)
  show zJ E 4 0 0 (WM cy m S) 0 [(0, .ref (m 0)), (1, .int q), (2, .int (zB b))] []
  refine zj_iload_n C dX8_tryQuote_0 1 rfl ?_
  refine zj_i2l C dX8_tryQuote_1 ?_
  refine zj_lconst C (v := 1) dX8_tryQuote_2 (by decide) ?_
  refine zj_ldc2 C dX8_tryQuote_3 tg_889 ?_
  refine zj_callS C (nn := 0) (ws' := (WM cy m S)) (st := []) (st1 := [.int (zB (f_X8_in (q.toInt64) 1 10000))]) [] (c_X8_in l D cy (q.toInt64) 1 10000  ) tg_730 tg_728 tg_729 tg_9 hdZ_X8_in ⟨rfl, rfl⟩ ⟨by decide, by decide⟩ rfl (by decide) ⟨rfl, rfl⟩ rfl rfl (Nat.le_of_ble_eq_true rfl) dX8_tryQuote_6 rfl rfl ?_
  refine zj_if_ne C 15 dX8_tryQuote_9 (by decide) (fun c => ?_) (fun c => ?_)
  · have c_9 : ¬ ((f_X8_in (q.toInt64) 1 10000) = false) := (zB_neq c)
    refine zj_aload_n C dX8_tryQuote_15 0 rfl ?_
    refine zj_iload_n C dX8_tryQuote_16 2 rfl ?_
    refine zj_callV C (nn := 10) (ws' := (WM cy m (f_X8_keepIf S b))) (st := []) (st1 := []) 0 8 [0, 1, 2, 3, 4, 5, 6, 7, 8, 9] (c_X8_keepIf l D cy m b S (by omega) (by omega)) (zg_V tg_752 tg_749 tg_751 tgp_16 tg_9) ⟨rfl, hdZ_X8_keepIf⟩ ⟨rfl, rfl⟩ ⟨by decide, by decide⟩ rfl rfl rfl (by decide) ⟨rfl, rfl⟩ rfl rfl (Nat.le_of_ble_eq_true rfl) dX8_tryQuote_17 rfl rfl ?_
    refine zj_aload_n C dX8_tryQuote_20 0 rfl ?_
    refine zj_get C 0 8 0 (v := .ref (m 1)) inZ8 rfl rfl (by decide) tg_677 rfl dX8_tryQuote_21 ?_
    refine zj_bipush C (v := (nI 7)) dX8_tryQuote_24 (by decide) ?_
    refine zj_lald C 1 (f := (gMs_at (f_X8_keepIf S b))) 7 (by decide) (vp_in_nI (by decide) (by decide)) rfl dX8_tryQuote_26 ?_
    refine zj_l2i C dX8_tryQuote_27 ?_
    refine zj_istore_n C (L' := [(3, .int ((((gMs_at (f_X8_keepIf S b)) 7)).toInt32)), (0, .ref (m 0)), (1, .int q), (2, .int (zB b))]) dX8_tryQuote_28 rfl (by decide) rfl ?_
    refine zj_aload_n C dX8_tryQuote_29 1 rfl ?_
    refine zj_get C 0 8 0 (v := .ref (m 1)) inZ8 rfl rfl (by decide) tg_677 rfl dX8_tryQuote_30 ?_
    refine zj_bipush C (v := (nI 7)) dX8_tryQuote_33 (by decide) ?_
    refine zj_iload_n C dX8_tryQuote_35 2 rfl ?_
    refine zj_i2l C dX8_tryQuote_36 ?_
    refine zj_last C 1 (f := (gMs_at (f_X8_keepIf S b))) (ws' := (WM cy m (sMs_at (f_X8_keepIf S b) (vp_updL (gMs_at (f_X8_keepIf S b)) 7 (q.toInt64))))) 7 (by decide) (vp_in_nI (by decide) (by decide)) rfl dX8_tryQuote_37 rfl ?_
    refine zj_iload_n C dX8_tryQuote_38 0 rfl ?_
    have e : f_X8_tryQuote S q b = (((((gMs_at (f_X8_keepIf S b)) 7)).toInt32), (sMs_at (f_X8_keepIf S b) (vp_updL (gMs_at (f_X8_keepIf S b)) 7 (q.toInt64)))) := by refine (zsl_e _).trans ?_; refine (if_neg c_9).trans ?_; rfl
    rw [e] at hret
    exact hret _ _ dX8_tryQuote_39
  · have c_9 : (f_X8_in (q.toInt64) 1 10000) = false := (zB_eq (Classical.not_not.mp c))
    refine zj_bipush C (v := (-2)) dX8_tryQuote_12 (by decide) ?_
    have e : f_X8_tryQuote S q b = ((-2), S) := by refine (zsl_e _).trans ?_; refine (if_pos c_9).trans ?_; rfl
    rw [e] at hret
    exact hret _ _ dX8_tryQuote_14

noncomputable def f_X8_quote (S : zMs) (q : Int32) : Int32 × zMs :=
  (((f_X8_tryQuote S q true).1), ((f_X8_tryQuote S q true).2))
set_option maxHeartbeats 4000000 in
set_option maxRecDepth 100000 in
theorem c_X8_quote (l : Launch) (D : va_G) (cy : Nat → ClassId) (m : Nat → Nat) (q : Int32)  (S : zMs) (hf : gMs_pf S < 6) (hm : gMs_pm S ≤ 6) : zC l yX8_quote (zW yX8_quote cX8_quote 2 (Option.some Jvm.ClassFile.FieldType.int)) { frames := 3, cells := 0, slots := 0, locals := 66 } D cy [.ref (m 0), .int q] (WM cy m S) (some (.int ((f_X8_quote S q).1))) (WM cy m ((f_X8_quote S q).2)) := by
  refine zC_of rfl (Nat.le_of_ble_eq_true rfl) (zOk_i _) (fun E C hret => ?_)
  show zJ E 2 0 0 (WM cy m S) 0 [(0, .ref (m 0)), (1, .int q)] []
  refine zj_aload_n C dX8_quote_0 0 rfl ?_
  refine zj_iload_n C dX8_quote_1 1 rfl ?_
  refine zj_iconst C (v := (nI 1)) dX8_quote_2 (by decide) ?_
  refine zj_callV C (nn := 10) (ws' := (WM cy m ((f_X8_tryQuote S q true).2))) (st := []) (st1 := [.int ((f_X8_tryQuote S q true).1)]) 0 8 [0, 1, 2, 3, 4, 5, 6, 7, 8, 9] (c_X8_tryQuote l D cy m q true S (by omega) (by omega)) (zg_V tg_888 tg_885 tg_887 tgp_45 tg_9) ⟨rfl, hdZ_X8_tryQuote⟩ ⟨rfl, rfl⟩ ⟨by decide, by decide⟩ rfl rfl rfl (by decide) ⟨rfl, rfl⟩ rfl rfl (Nat.le_of_ble_eq_true rfl) dX8_quote_3 rfl rfl ?_
  have e : f_X8_quote S q = (((f_X8_tryQuote S q true).1), ((f_X8_tryQuote S q true).2)) := by rfl
  rw [e] at hret
  exact hret _ _ dX8_quote_6

noncomputable def f_X8_trade (S : zMs) (lots : Int32) : Int32 × zMs := zsl (
  if lots = 0 then
    ((-2), S)
  else
    if (f_X8_in (lots.toInt64) (-1000) 1000) = false then
      ((-2), S)
    else
      if (((gMs_at S) 6) + (lots.toInt64)) ≤ 1000 then
        let x42_0 : Int64 := (if lots ≤ 0 then ((((-lots)).toInt64) * (((gMs_at S) 7) - (f_X8_cost S))) else ((((-lots)).toInt64) * (((gMs_at S) 7) + (f_X8_cost S))))
        if (((gMs_at S) 6) + (lots.toInt64)) < 0 then
          ((-5), S)
        else
          if lots ≤ 0 then
            (((((vp_updL (vp_updL (gMs_at (f_X8_keep S)) 6 (((gMs_at (f_X8_keep S)) 6) + (lots.toInt64))) 5 (((vp_updL (gMs_at (f_X8_keep S)) 6 (((gMs_at (f_X8_keep S)) 6) + (lots.toInt64))) 5) + x42_0)) 6)).toInt32), (sMs_at (f_X8_keep S) (vp_updL (vp_updL (gMs_at (f_X8_keep S)) 6 (((gMs_at (f_X8_keep S)) 6) + (lots.toInt64))) 5 (((vp_updL (gMs_at (f_X8_keep S)) 6 (((gMs_at (f_X8_keep S)) 6) + (lots.toInt64))) 5) + x42_0))))
          else
            if 0 ≤ ((((gMs_at S) 5) - ((gMs_at S) 8)) + x42_0) then
              (((((vp_updL (vp_updL (gMs_at (f_X8_keep S)) 6 (((gMs_at (f_X8_keep S)) 6) + (lots.toInt64))) 5 (((vp_updL (gMs_at (f_X8_keep S)) 6 (((gMs_at (f_X8_keep S)) 6) + (lots.toInt64))) 5) + x42_0)) 6)).toInt32), (sMs_at (f_X8_keep S) (vp_updL (vp_updL (gMs_at (f_X8_keep S)) 6 (((gMs_at (f_X8_keep S)) 6) + (lots.toInt64))) 5 (((vp_updL (gMs_at (f_X8_keep S)) 6 (((gMs_at (f_X8_keep S)) 6) + (lots.toInt64))) 5) + x42_0))))
            else
              ((-5), S)
      else
        ((-4), S)
  )
set_option maxHeartbeats 4000000 in
set_option maxRecDepth 100000 in
theorem c_X8_trade (l : Launch) (D : va_G) (cy : Nat → ClassId) (m : Nat → Nat) (lots : Int32)  (S : zMs) (hf : gMs_pf S < 6) (hm : gMs_pm S ≤ 6) : zC l yX8_trade (zW yX8_trade cX8_trade 4 (Option.some Jvm.ClassFile.FieldType.int)) { frames := 1, cells := 0, slots := 0, locals := 25 } D cy [.ref (m 0), .int lots] (WM cy m S) (some (.int ((f_X8_trade S lots).1))) (WM cy m ((f_X8_trade S lots).2)) := by
  refine zC_of rfl (Nat.le_of_ble_eq_true rfl) (zOk_i _) (fun E C hret => ?_)
  show zJ E 4 0 0 (WM cy m S) 0 [(0, .ref (m 0)), (1, .int lots)] []
  refine zj_iload_n C dX8_trade_0 1 rfl ?_
  refine zj_if_eq C 18 dX8_trade_1 (by decide) (fun c => ?_) (fun c => ?_)
  · have c_1 : lots = 0 := c
    refine zj_bipush C (v := (-2)) dX8_trade_18 (by decide) ?_
    have e : f_X8_trade S lots = ((-2), S) := by refine (zsl_e _).trans ?_; refine (if_pos c_1).trans ?_; rfl
    rw [e] at hret
    exact hret _ _ dX8_trade_20
  · have c_1 : ¬ (lots = 0) := c
    refine zj_iload_n C dX8_trade_4 1 rfl ?_
    refine zj_i2l C dX8_trade_5 ?_
    refine zj_ldc2 C dX8_trade_6 tg_894 ?_
    refine zj_ldc2 C dX8_trade_9 tg_675 ?_
    refine zj_callS C (nn := 0) (ws' := (WM cy m S)) (st := []) (st1 := [.int (zB (f_X8_in (lots.toInt64) (-1000) 1000))]) [] (c_X8_in l D cy (lots.toInt64) (-1000) 1000  ) tg_730 tg_728 tg_729 tg_9 hdZ_X8_in ⟨rfl, rfl⟩ ⟨by decide, by decide⟩ rfl (by decide) ⟨rfl, rfl⟩ rfl rfl (Nat.le_of_ble_eq_true rfl) dX8_trade_12 rfl rfl ?_
    refine zj_if_ne C 21 dX8_trade_15 (by decide) (fun c => ?_) (fun c => ?_)
    · have c_15 : ¬ ((f_X8_in (lots.toInt64) (-1000) 1000) = false) := (zB_neq c)
      refine zj_aload_n C dX8_trade_21 0 rfl ?_
      refine zj_get C 0 8 0 (v := .ref (m 1)) inZ8 rfl rfl (by decide) tg_677 rfl dX8_trade_22 ?_
      refine zj_bipush C (v := (nI 6)) dX8_trade_25 (by decide) ?_
      refine zj_lald C 1 (f := (gMs_at S)) 6 (by decide) (vp_in_nI (by decide) (by decide)) rfl dX8_trade_27 ?_
      refine zj_iload_n C dX8_trade_28 1 rfl ?_
      refine zj_i2l C dX8_trade_29 ?_
      refine zj_ladd C dX8_trade_30 ?_
      refine zj_ldc2 C dX8_trade_31 tg_675 ?_
      refine zj_lcmp_le C 41 dX8_trade_34 dX8_trade_35 (by decide) (fun c => ?_) (fun c => ?_)
      · have c_34 : (((gMs_at S) 6) + (lots.toInt64)) ≤ 1000 := c
        refine zj_iload_n C dX8_trade_41 1 rfl ?_
        have J_42 : ∀ (x42_0 : Int64), x42_0 = (if lots ≤ 0 then ((((-lots)).toInt64) * (((gMs_at S) 7) - (f_X8_cost S))) else ((((-lots)).toInt64) * (((gMs_at S) 7) + (f_X8_cost S)))) → zJ E 4 0 0 (WM cy m S) 80 [(0, .ref (m 0)), (1, .int lots)] [.long x42_0] := by
          intro x42_0 hx42_0
          refine zj_lstore_n C (L' := [(2, .long x42_0), (0, .ref (m 0)), (1, .int lots)]) dX8_trade_80 rfl (by decide) rfl ?_
          refine zj_aload_n C dX8_trade_81 1 rfl ?_
          refine zj_get C 0 8 0 (v := .ref (m 1)) inZ8 rfl rfl (by decide) tg_677 rfl dX8_trade_82 ?_
          refine zj_bipush C (v := (nI 6)) dX8_trade_85 (by decide) ?_
          refine zj_lald C 1 (f := (gMs_at S)) 6 (by decide) (vp_in_nI (by decide) (by decide)) rfl dX8_trade_87 ?_
          refine zj_iload_n C dX8_trade_88 2 rfl ?_
          refine zj_i2l C dX8_trade_89 ?_
          refine zj_ladd C dX8_trade_90 ?_
          refine zj_lconst C (v := 0) dX8_trade_91 (by decide) ?_
          refine zj_lcmp_lt C 121 dX8_trade_92 dX8_trade_93 (by decide) (fun c => ?_) (fun c => ?_)
          · have c_92 : (((gMs_at S) 6) + (lots.toInt64)) < 0 := c
            refine zj_bipush C (v := (-5)) dX8_trade_121 (by decide) ?_
            subst hx42_0
            have e : f_X8_trade S lots = ((-5), S) := by refine (zsl_e _).trans ?_; refine (if_neg c_1).trans ?_; refine (if_neg c_15).trans ?_; refine (if_pos c_34).trans ?_; refine (if_pos c_92).trans ?_; rfl
            rw [e] at hret
            exact hret _ _ dX8_trade_123
          · have c_92 : ¬ ((((gMs_at S) 6) + (lots.toInt64)) < 0) := c
            refine zj_iload_n C dX8_trade_96 2 rfl ?_
            refine zj_if_le C 124 dX8_trade_97 (by decide) (fun c => ?_) (fun c => ?_)
            · have c_97 : lots ≤ 0 := c
              refine zj_aload_n C dX8_trade_124 1 rfl ?_
              refine zj_callV C (nn := 10) (ws' := (WM cy m (f_X8_keep S))) (st := []) (st1 := []) 0 8 [0, 1, 2, 3, 4, 5, 6, 7, 8, 9] (c_X8_keep l D cy m  S (by omega) (by omega)) (zg_V tg_734 tg_731 tg_733 tgp_14 tg_9) ⟨rfl, hdZ_X8_keep⟩ ⟨rfl, rfl⟩ ⟨by decide, by decide⟩ rfl rfl rfl (by decide) ⟨rfl, rfl⟩ rfl rfl (Nat.le_of_ble_eq_true rfl) dX8_trade_125 rfl rfl ?_
              refine zj_aload_n C dX8_trade_128 1 rfl ?_
              refine zj_get C 0 8 0 (v := .ref (m 1)) inZ8 rfl rfl (by decide) tg_677 rfl dX8_trade_129 ?_
              refine zj_bipush C (v := (nI 6)) dX8_trade_132 (by decide) ?_
              refine zj_dup2 C dX8_trade_134 rfl rfl ?_
              refine zj_lald C 1 (f := (gMs_at (f_X8_keep S))) 6 (by decide) (vp_in_nI (by decide) (by decide)) rfl dX8_trade_135 ?_
              refine zj_iload_n C dX8_trade_136 2 rfl ?_
              refine zj_i2l C dX8_trade_137 ?_
              refine zj_ladd C dX8_trade_138 ?_
              refine zj_last C 1 (f := (gMs_at (f_X8_keep S))) (ws' := (WM cy m (sMs_at (f_X8_keep S) (vp_updL (gMs_at (f_X8_keep S)) 6 (((gMs_at (f_X8_keep S)) 6) + (lots.toInt64)))))) 6 (by decide) (vp_in_nI (by decide) (by decide)) rfl dX8_trade_139 rfl ?_
              refine zj_aload_n C dX8_trade_140 1 rfl ?_
              refine zj_get C 0 8 0 (v := .ref (m 1)) inZ8 rfl rfl (by decide) tg_677 rfl dX8_trade_141 ?_
              refine zj_iconst C (v := (nI 5)) dX8_trade_144 (by decide) ?_
              refine zj_dup2 C dX8_trade_145 rfl rfl ?_
              refine zj_lald C 1 (f := (vp_updL (gMs_at (f_X8_keep S)) 6 (((gMs_at (f_X8_keep S)) 6) + (lots.toInt64)))) 5 (by decide) (vp_in_nI (by decide) (by decide)) rfl dX8_trade_146 ?_
              refine zj_lload_n C dX8_trade_147 0 rfl ?_
              refine zj_ladd C dX8_trade_148 ?_
              refine zj_last C 1 (f := (vp_updL (gMs_at (f_X8_keep S)) 6 (((gMs_at (f_X8_keep S)) 6) + (lots.toInt64)))) (ws' := (WM cy m (sMs_at (f_X8_keep S) (vp_updL (vp_updL (gMs_at (f_X8_keep S)) 6 (((gMs_at (f_X8_keep S)) 6) + (lots.toInt64))) 5 (((vp_updL (gMs_at (f_X8_keep S)) 6 (((gMs_at (f_X8_keep S)) 6) + (lots.toInt64))) 5) + x42_0))))) 5 (by decide) (vp_in_nI (by decide) (by decide)) rfl dX8_trade_149 rfl ?_
              refine zj_aload_n C dX8_trade_150 1 rfl ?_
              refine zj_get C 0 8 0 (v := .ref (m 1)) inZ8 rfl rfl (by decide) tg_677 rfl dX8_trade_151 ?_
              refine zj_bipush C (v := (nI 6)) dX8_trade_154 (by decide) ?_
              refine zj_lald C 1 (f := (vp_updL (vp_updL (gMs_at (f_X8_keep S)) 6 (((gMs_at (f_X8_keep S)) 6) + (lots.toInt64))) 5 (((vp_updL (gMs_at (f_X8_keep S)) 6 (((gMs_at (f_X8_keep S)) 6) + (lots.toInt64))) 5) + x42_0))) 6 (by decide) (vp_in_nI (by decide) (by decide)) rfl dX8_trade_156 ?_
              refine zj_l2i C dX8_trade_157 ?_
              subst hx42_0
              have e : f_X8_trade S lots = (((((vp_updL (vp_updL (gMs_at (f_X8_keep S)) 6 (((gMs_at (f_X8_keep S)) 6) + (lots.toInt64))) 5 (((vp_updL (gMs_at (f_X8_keep S)) 6 (((gMs_at (f_X8_keep S)) 6) + (lots.toInt64))) 5) + (if lots ≤ 0 then ((((-lots)).toInt64) * (((gMs_at S) 7) - (f_X8_cost S))) else ((((-lots)).toInt64) * (((gMs_at S) 7) + (f_X8_cost S)))))) 6)).toInt32), (sMs_at (f_X8_keep S) (vp_updL (vp_updL (gMs_at (f_X8_keep S)) 6 (((gMs_at (f_X8_keep S)) 6) + (lots.toInt64))) 5 (((vp_updL (gMs_at (f_X8_keep S)) 6 (((gMs_at (f_X8_keep S)) 6) + (lots.toInt64))) 5) + (if lots ≤ 0 then ((((-lots)).toInt64) * (((gMs_at S) 7) - (f_X8_cost S))) else ((((-lots)).toInt64) * (((gMs_at S) 7) + (f_X8_cost S)))))))) := by refine (zsl_e _).trans ?_; refine (if_neg c_1).trans ?_; refine (if_neg c_15).trans ?_; refine (if_pos c_34).trans ?_; refine (if_neg c_92).trans ?_; refine (if_pos c_97).trans ?_; rfl
              rw [e] at hret
              exact hret _ _ dX8_trade_158
            · have c_97 : ¬ (lots ≤ 0) := c
              refine zj_aload_n C dX8_trade_100 1 rfl ?_
              refine zj_get C 0 8 0 (v := .ref (m 1)) inZ8 rfl rfl (by decide) tg_677 rfl dX8_trade_101 ?_
              refine zj_iconst C (v := (nI 5)) dX8_trade_104 (by decide) ?_
              refine zj_lald C 1 (f := (gMs_at S)) 5 (by decide) (vp_in_nI (by decide) (by decide)) rfl dX8_trade_105 ?_
              refine zj_aload_n C dX8_trade_106 1 rfl ?_
              refine zj_get C 0 8 0 (v := .ref (m 1)) inZ8 rfl rfl (by decide) tg_677 rfl dX8_trade_107 ?_
              refine zj_bipush C (v := (nI 8)) dX8_trade_110 (by decide) ?_
              refine zj_lald C 1 (f := (gMs_at S)) 8 (by decide) (vp_in_nI (by decide) (by decide)) rfl dX8_trade_112 ?_
              refine zj_lsub C dX8_trade_113 ?_
              refine zj_lload_n C dX8_trade_114 0 rfl ?_
              refine zj_ladd C dX8_trade_115 ?_
              refine zj_lconst C (v := 0) dX8_trade_116 (by decide) ?_
              refine zj_lcmp_ge C 124 dX8_trade_117 dX8_trade_118 (by decide) (fun c => ?_) (fun c => ?_)
              · have c_117 : 0 ≤ ((((gMs_at S) 5) - ((gMs_at S) 8)) + x42_0) := c
                refine zj_aload_n C dX8_trade_124 1 rfl ?_
                refine zj_callV C (nn := 10) (ws' := (WM cy m (f_X8_keep S))) (st := []) (st1 := []) 0 8 [0, 1, 2, 3, 4, 5, 6, 7, 8, 9] (c_X8_keep l D cy m  S (by omega) (by omega)) (zg_V tg_734 tg_731 tg_733 tgp_14 tg_9) ⟨rfl, hdZ_X8_keep⟩ ⟨rfl, rfl⟩ ⟨by decide, by decide⟩ rfl rfl rfl (by decide) ⟨rfl, rfl⟩ rfl rfl (Nat.le_of_ble_eq_true rfl) dX8_trade_125 rfl rfl ?_
                refine zj_aload_n C dX8_trade_128 1 rfl ?_
                refine zj_get C 0 8 0 (v := .ref (m 1)) inZ8 rfl rfl (by decide) tg_677 rfl dX8_trade_129 ?_
                refine zj_bipush C (v := (nI 6)) dX8_trade_132 (by decide) ?_
                refine zj_dup2 C dX8_trade_134 rfl rfl ?_
                refine zj_lald C 1 (f := (gMs_at (f_X8_keep S))) 6 (by decide) (vp_in_nI (by decide) (by decide)) rfl dX8_trade_135 ?_
                refine zj_iload_n C dX8_trade_136 2 rfl ?_
                refine zj_i2l C dX8_trade_137 ?_
                refine zj_ladd C dX8_trade_138 ?_
                refine zj_last C 1 (f := (gMs_at (f_X8_keep S))) (ws' := (WM cy m (sMs_at (f_X8_keep S) (vp_updL (gMs_at (f_X8_keep S)) 6 (((gMs_at (f_X8_keep S)) 6) + (lots.toInt64)))))) 6 (by decide) (vp_in_nI (by decide) (by decide)) rfl dX8_trade_139 rfl ?_
                refine zj_aload_n C dX8_trade_140 1 rfl ?_
                refine zj_get C 0 8 0 (v := .ref (m 1)) inZ8 rfl rfl (by decide) tg_677 rfl dX8_trade_141 ?_
                refine zj_iconst C (v := (nI 5)) dX8_trade_144 (by decide) ?_
                refine zj_dup2 C dX8_trade_145 rfl rfl ?_
                refine zj_lald C 1 (f := (vp_updL (gMs_at (f_X8_keep S)) 6 (((gMs_at (f_X8_keep S)) 6) + (lots.toInt64)))) 5 (by decide) (vp_in_nI (by decide) (by decide)) rfl dX8_trade_146 ?_
                refine zj_lload_n C dX8_trade_147 0 rfl ?_
                refine zj_ladd C dX8_trade_148 ?_
                refine zj_last C 1 (f := (vp_updL (gMs_at (f_X8_keep S)) 6 (((gMs_at (f_X8_keep S)) 6) + (lots.toInt64)))) (ws' := (WM cy m (sMs_at (f_X8_keep S) (vp_updL (vp_updL (gMs_at (f_X8_keep S)) 6 (((gMs_at (f_X8_keep S)) 6) + (lots.toInt64))) 5 (((vp_updL (gMs_at (f_X8_keep S)) 6 (((gMs_at (f_X8_keep S)) 6) + (lots.toInt64))) 5) + x42_0))))) 5 (by decide) (vp_in_nI (by decide) (by decide)) rfl dX8_trade_149 rfl ?_
                refine zj_aload_n C dX8_trade_150 1 rfl ?_
                refine zj_get C 0 8 0 (v := .ref (m 1)) inZ8 rfl rfl (by decide) tg_677 rfl dX8_trade_151 ?_
                refine zj_bipush C (v := (nI 6)) dX8_trade_154 (by decide) ?_
                refine zj_lald C 1 (f := (vp_updL (vp_updL (gMs_at (f_X8_keep S)) 6 (((gMs_at (f_X8_keep S)) 6) + (lots.toInt64))) 5 (((vp_updL (gMs_at (f_X8_keep S)) 6 (((gMs_at (f_X8_keep S)) 6) + (lots.toInt64))) 5) + x42_0))) 6 (by decide) (vp_in_nI (by decide) (by decide)) rfl dX8_trade_156 ?_
                refine zj_l2i C dX8_trade_157 ?_
                subst hx42_0
                have e : f_X8_trade S lots = (((((vp_updL (vp_updL (gMs_at (f_X8_keep S)) 6 (((gMs_at (f_X8_keep S)) 6) + (lots.toInt64))) 5 (((vp_updL (gMs_at (f_X8_keep S)) 6 (((gMs_at (f_X8_keep S)) 6) + (lots.toInt64))) 5) + (if lots ≤ 0 then ((((-lots)).toInt64) * (((gMs_at S) 7) - (f_X8_cost S))) else ((((-lots)).toInt64) * (((gMs_at S) 7) + (f_X8_cost S)))))) 6)).toInt32), (sMs_at (f_X8_keep S) (vp_updL (vp_updL (gMs_at (f_X8_keep S)) 6 (((gMs_at (f_X8_keep S)) 6) + (lots.toInt64))) 5 (((vp_updL (gMs_at (f_X8_keep S)) 6 (((gMs_at (f_X8_keep S)) 6) + (lots.toInt64))) 5) + (if lots ≤ 0 then ((((-lots)).toInt64) * (((gMs_at S) 7) - (f_X8_cost S))) else ((((-lots)).toInt64) * (((gMs_at S) 7) + (f_X8_cost S)))))))) := by refine (zsl_e _).trans ?_; refine (if_neg c_1).trans ?_; refine (if_neg c_15).trans ?_; refine (if_pos c_34).trans ?_; refine (if_neg c_92).trans ?_; refine (if_neg c_97).trans ?_; refine (if_pos c_117).trans ?_; rfl
                rw [e] at hret
                exact hret _ _ dX8_trade_158
              · have c_117 : ¬ (0 ≤ ((((gMs_at S) 5) - ((gMs_at S) 8)) + x42_0)) := c
                refine zj_bipush C (v := (-5)) dX8_trade_121 (by decide) ?_
                subst hx42_0
                have e : f_X8_trade S lots = ((-5), S) := by refine (zsl_e _).trans ?_; refine (if_neg c_1).trans ?_; refine (if_neg c_15).trans ?_; refine (if_pos c_34).trans ?_; refine (if_neg c_92).trans ?_; refine (if_neg c_97).trans ?_; refine (if_neg c_117).trans ?_; rfl
                rw [e] at hret
                exact hret _ _ dX8_trade_123
        refine zj_if_le C 64 dX8_trade_42 (by decide) (fun c => ?_) (fun c => ?_)
        · have c_42 : lots ≤ 0 := c
          refine zj_iload_n C dX8_trade_64 1 rfl ?_
          refine zj_ineg C dX8_trade_65 ?_
          refine zj_i2l C dX8_trade_66 ?_
          refine zj_aload_n C dX8_trade_67 0 rfl ?_
          refine zj_get C 0 8 0 (v := .ref (m 1)) inZ8 rfl rfl (by decide) tg_677 rfl dX8_trade_68 ?_
          refine zj_bipush C (v := (nI 7)) dX8_trade_71 (by decide) ?_
          refine zj_lald C 1 (f := (gMs_at S)) 7 (by decide) (vp_in_nI (by decide) (by decide)) rfl dX8_trade_73 ?_
          refine zj_aload_n C dX8_trade_74 0 rfl ?_
          refine zj_callV C (nn := 10) (ws' := (WM cy m S)) (st := [.long ((gMs_at S) 7), .long (((-lots)).toInt64)]) (st1 := [.long (f_X8_cost S), .long ((gMs_at S) 7), .long (((-lots)).toInt64)]) 0 8 [0, 1, 2, 3, 4, 5, 6, 7, 8, 9] (c_X8_cost l D cy m  S ) (zg_V tg_865 tg_862 tg_864 tgp_41 tg_9) ⟨rfl, hdZ_X8_cost⟩ ⟨rfl, rfl⟩ ⟨by decide, by decide⟩ rfl rfl rfl (by decide) ⟨rfl, rfl⟩ rfl rfl (Nat.le_of_ble_eq_true rfl) dX8_trade_75 rfl rfl ?_
          refine zj_lsub C dX8_trade_78 ?_
          refine zj_lmul C dX8_trade_79 ?_
          exact J_42 ((((-lots)).toInt64) * (((gMs_at S) 7) - (f_X8_cost S))) (by simp only [if_neg c_1, if_neg c_15, if_pos c_34, if_pos c_42]; first | done | assumption)
        · have c_42 : ¬ (lots ≤ 0) := c
          refine zj_iload_n C dX8_trade_45 1 rfl ?_
          refine zj_ineg C dX8_trade_46 ?_
          refine zj_i2l C dX8_trade_47 ?_
          refine zj_aload_n C dX8_trade_48 0 rfl ?_
          refine zj_get C 0 8 0 (v := .ref (m 1)) inZ8 rfl rfl (by decide) tg_677 rfl dX8_trade_49 ?_
          refine zj_bipush C (v := (nI 7)) dX8_trade_52 (by decide) ?_
          refine zj_lald C 1 (f := (gMs_at S)) 7 (by decide) (vp_in_nI (by decide) (by decide)) rfl dX8_trade_54 ?_
          refine zj_aload_n C dX8_trade_55 0 rfl ?_
          refine zj_callV C (nn := 10) (ws' := (WM cy m S)) (st := [.long ((gMs_at S) 7), .long (((-lots)).toInt64)]) (st1 := [.long (f_X8_cost S), .long ((gMs_at S) 7), .long (((-lots)).toInt64)]) 0 8 [0, 1, 2, 3, 4, 5, 6, 7, 8, 9] (c_X8_cost l D cy m  S ) (zg_V tg_865 tg_862 tg_864 tgp_41 tg_9) ⟨rfl, hdZ_X8_cost⟩ ⟨rfl, rfl⟩ ⟨by decide, by decide⟩ rfl rfl rfl (by decide) ⟨rfl, rfl⟩ rfl rfl (Nat.le_of_ble_eq_true rfl) dX8_trade_56 rfl rfl ?_
          refine zj_ladd C dX8_trade_59 ?_
          refine zj_lmul C dX8_trade_60 ?_
          refine zj_goto C 80 dX8_trade_61 (by decide) ?_
          exact J_42 ((((-lots)).toInt64) * (((gMs_at S) 7) + (f_X8_cost S))) (by simp only [if_neg c_1, if_neg c_15, if_pos c_34, if_neg c_42]; first | done | assumption)
      · have c_34 : ¬ ((((gMs_at S) 6) + (lots.toInt64)) ≤ 1000) := c
        refine zj_bipush C (v := (-4)) dX8_trade_38 (by decide) ?_
        have e : f_X8_trade S lots = ((-4), S) := by refine (zsl_e _).trans ?_; refine (if_neg c_1).trans ?_; refine (if_neg c_15).trans ?_; refine (if_neg c_34).trans ?_; rfl
        rw [e] at hret
        exact hret _ _ dX8_trade_40
    · have c_15 : (f_X8_in (lots.toInt64) (-1000) 1000) = false := (zB_eq (Classical.not_not.mp c))
      refine zj_bipush C (v := (-2)) dX8_trade_18 (by decide) ?_
      have e : f_X8_trade S lots = ((-2), S) := by refine (zsl_e _).trans ?_; refine (if_neg c_1).trans ?_; refine (if_pos c_15).trans ?_; rfl
      rw [e] at hret
      exact hret _ _ dX8_trade_20

noncomputable def f_X8_tryIncome (S : zMs) (a : Int32) (b : Bool) : Int32 × zMs := zsl (
  if (f_X8_in (a.toInt64) 1 1000000) = false then
    ((-2), S)
  else
    if (f_X8_issue S) = 0 then
      ((-5), S)
    else
      (((((vp_updL (vp_updL (gMs_at (f_X8_keepIf S b)) 5 (((gMs_at (f_X8_keepIf S b)) 5) + (a.toInt64))) 8 (((vp_updL (gMs_at (f_X8_keepIf S b)) 5 (((gMs_at (f_X8_keepIf S b)) 5) + (a.toInt64))) 8) + (a.toInt64))) 8)).toInt32), (sMs_at (f_X8_keepIf S b) (vp_updL (vp_updL (gMs_at (f_X8_keepIf S b)) 5 (((gMs_at (f_X8_keepIf S b)) 5) + (a.toInt64))) 8 (((vp_updL (gMs_at (f_X8_keepIf S b)) 5 (((gMs_at (f_X8_keepIf S b)) 5) + (a.toInt64))) 8) + (a.toInt64)))))
  )
set_option maxHeartbeats 4000000 in
set_option maxRecDepth 100000 in
theorem c_X8_tryIncome (l : Launch) (D : va_G) (cy : Nat → ClassId) (m : Nat → Nat) (a : Int32) (b : Bool)  (S : zMs) (hf : gMs_pf S < 6) (hm : gMs_pm S ≤ 6) : zC l yX8_tryIncome (zW yX8_tryIncome cX8_tryIncome 3 (Option.some Jvm.ClassFile.FieldType.int)) { frames := 3, cells := 0, slots := 0, locals := 66 } D cy [.ref (m 0), .int a, .int (zB b)] (WM cy m S) (some (.int ((f_X8_tryIncome S a b).1))) (WM cy m ((f_X8_tryIncome S a b).2)) := by
  refine zC_of rfl (Nat.le_of_ble_eq_true rfl) (zOk_i _) (fun E C hret => ?_)
  show zJ E 3 0 0 (WM cy m S) 0 [(0, .ref (m 0)), (1, .int a), (2, .int (zB b))] []
  refine zj_iload_n C dX8_tryIncome_0 1 rfl ?_
  refine zj_i2l C dX8_tryIncome_1 ?_
  refine zj_lconst C (v := 1) dX8_tryIncome_2 (by decide) ?_
  refine zj_ldc2 C dX8_tryIncome_3 tg_746 ?_
  refine zj_callS C (nn := 0) (ws' := (WM cy m S)) (st := []) (st1 := [.int (zB (f_X8_in (a.toInt64) 1 1000000))]) [] (c_X8_in l D cy (a.toInt64) 1 1000000  ) tg_730 tg_728 tg_729 tg_9 hdZ_X8_in ⟨rfl, rfl⟩ ⟨by decide, by decide⟩ rfl (by decide) ⟨rfl, rfl⟩ rfl rfl (Nat.le_of_ble_eq_true rfl) dX8_tryIncome_6 rfl rfl ?_
  refine zj_if_ne C 15 dX8_tryIncome_9 (by decide) (fun c => ?_) (fun c => ?_)
  · have c_9 : ¬ ((f_X8_in (a.toInt64) 1 1000000) = false) := (zB_neq c)
    refine zj_aload_n C dX8_tryIncome_15 0 rfl ?_
    refine zj_callV C (nn := 10) (ws' := (WM cy m S)) (st := []) (st1 := [.long (f_X8_issue S)]) 0 8 [0, 1, 2, 3, 4, 5, 6, 7, 8, 9] (c_X8_issue l D cy m  S ) (zg_V tg_788 tg_785 tg_787 tgp_23 tg_9) ⟨rfl, hdZ_X8_issue⟩ ⟨rfl, rfl⟩ ⟨by decide, by decide⟩ rfl rfl rfl (by decide) ⟨rfl, rfl⟩ rfl rfl (Nat.le_of_ble_eq_true rfl) dX8_tryIncome_16 rfl rfl ?_
    refine zj_lconst C (v := 0) dX8_tryIncome_19 (by decide) ?_
    refine zj_lcmp_ne C 27 dX8_tryIncome_20 dX8_tryIncome_21 (by decide) (fun c => ?_) (fun c => ?_)
    · have c_20 : ¬ ((f_X8_issue S) = 0) := c
      refine zj_aload_n C dX8_tryIncome_27 0 rfl ?_
      refine zj_iload_n C dX8_tryIncome_28 2 rfl ?_
      refine zj_callV C (nn := 10) (ws' := (WM cy m (f_X8_keepIf S b))) (st := []) (st1 := []) 0 8 [0, 1, 2, 3, 4, 5, 6, 7, 8, 9] (c_X8_keepIf l D cy m b S (by omega) (by omega)) (zg_V tg_752 tg_749 tg_751 tgp_16 tg_9) ⟨rfl, hdZ_X8_keepIf⟩ ⟨rfl, rfl⟩ ⟨by decide, by decide⟩ rfl rfl rfl (by decide) ⟨rfl, rfl⟩ rfl rfl (Nat.le_of_ble_eq_true rfl) dX8_tryIncome_29 rfl rfl ?_
      refine zj_aload_n C dX8_tryIncome_32 0 rfl ?_
      refine zj_get C 0 8 0 (v := .ref (m 1)) inZ8 rfl rfl (by decide) tg_677 rfl dX8_tryIncome_33 ?_
      refine zj_iconst C (v := (nI 5)) dX8_tryIncome_36 (by decide) ?_
      refine zj_dup2 C dX8_tryIncome_37 rfl rfl ?_
      refine zj_lald C 1 (f := (gMs_at (f_X8_keepIf S b))) 5 (by decide) (vp_in_nI (by decide) (by decide)) rfl dX8_tryIncome_38 ?_
      refine zj_iload_n C dX8_tryIncome_39 1 rfl ?_
      refine zj_i2l C dX8_tryIncome_40 ?_
      refine zj_ladd C dX8_tryIncome_41 ?_
      refine zj_last C 1 (f := (gMs_at (f_X8_keepIf S b))) (ws' := (WM cy m (sMs_at (f_X8_keepIf S b) (vp_updL (gMs_at (f_X8_keepIf S b)) 5 (((gMs_at (f_X8_keepIf S b)) 5) + (a.toInt64)))))) 5 (by decide) (vp_in_nI (by decide) (by decide)) rfl dX8_tryIncome_42 rfl ?_
      refine zj_aload_n C dX8_tryIncome_43 0 rfl ?_
      refine zj_get C 0 8 0 (v := .ref (m 1)) inZ8 rfl rfl (by decide) tg_677 rfl dX8_tryIncome_44 ?_
      refine zj_bipush C (v := (nI 8)) dX8_tryIncome_47 (by decide) ?_
      refine zj_dup2 C dX8_tryIncome_49 rfl rfl ?_
      refine zj_lald C 1 (f := (vp_updL (gMs_at (f_X8_keepIf S b)) 5 (((gMs_at (f_X8_keepIf S b)) 5) + (a.toInt64)))) 8 (by decide) (vp_in_nI (by decide) (by decide)) rfl dX8_tryIncome_50 ?_
      refine zj_iload_n C dX8_tryIncome_51 1 rfl ?_
      refine zj_i2l C dX8_tryIncome_52 ?_
      refine zj_ladd C dX8_tryIncome_53 ?_
      refine zj_last C 1 (f := (vp_updL (gMs_at (f_X8_keepIf S b)) 5 (((gMs_at (f_X8_keepIf S b)) 5) + (a.toInt64)))) (ws' := (WM cy m (sMs_at (f_X8_keepIf S b) (vp_updL (vp_updL (gMs_at (f_X8_keepIf S b)) 5 (((gMs_at (f_X8_keepIf S b)) 5) + (a.toInt64))) 8 (((vp_updL (gMs_at (f_X8_keepIf S b)) 5 (((gMs_at (f_X8_keepIf S b)) 5) + (a.toInt64))) 8) + (a.toInt64)))))) 8 (by decide) (vp_in_nI (by decide) (by decide)) rfl dX8_tryIncome_54 rfl ?_
      refine zj_aload_n C dX8_tryIncome_55 0 rfl ?_
      refine zj_get C 0 8 0 (v := .ref (m 1)) inZ8 rfl rfl (by decide) tg_677 rfl dX8_tryIncome_56 ?_
      refine zj_bipush C (v := (nI 8)) dX8_tryIncome_59 (by decide) ?_
      refine zj_lald C 1 (f := (vp_updL (vp_updL (gMs_at (f_X8_keepIf S b)) 5 (((gMs_at (f_X8_keepIf S b)) 5) + (a.toInt64))) 8 (((vp_updL (gMs_at (f_X8_keepIf S b)) 5 (((gMs_at (f_X8_keepIf S b)) 5) + (a.toInt64))) 8) + (a.toInt64)))) 8 (by decide) (vp_in_nI (by decide) (by decide)) rfl dX8_tryIncome_61 ?_
      refine zj_l2i C dX8_tryIncome_62 ?_
      have e : f_X8_tryIncome S a b = (((((vp_updL (vp_updL (gMs_at (f_X8_keepIf S b)) 5 (((gMs_at (f_X8_keepIf S b)) 5) + (a.toInt64))) 8 (((vp_updL (gMs_at (f_X8_keepIf S b)) 5 (((gMs_at (f_X8_keepIf S b)) 5) + (a.toInt64))) 8) + (a.toInt64))) 8)).toInt32), (sMs_at (f_X8_keepIf S b) (vp_updL (vp_updL (gMs_at (f_X8_keepIf S b)) 5 (((gMs_at (f_X8_keepIf S b)) 5) + (a.toInt64))) 8 (((vp_updL (gMs_at (f_X8_keepIf S b)) 5 (((gMs_at (f_X8_keepIf S b)) 5) + (a.toInt64))) 8) + (a.toInt64))))) := by refine (zsl_e _).trans ?_; refine (if_neg c_9).trans ?_; refine (if_neg c_20).trans ?_; rfl
      rw [e] at hret
      exact hret _ _ dX8_tryIncome_63
    · have c_20 : (f_X8_issue S) = 0 := (Classical.not_not.mp c)
      refine zj_bipush C (v := (-5)) dX8_tryIncome_24 (by decide) ?_
      have e : f_X8_tryIncome S a b = ((-5), S) := by refine (zsl_e _).trans ?_; refine (if_neg c_9).trans ?_; refine (if_pos c_20).trans ?_; rfl
      rw [e] at hret
      exact hret _ _ dX8_tryIncome_26
  · have c_9 : (f_X8_in (a.toInt64) 1 1000000) = false := (zB_eq (Classical.not_not.mp c))
    refine zj_bipush C (v := (-2)) dX8_tryIncome_12 (by decide) ?_
    have e : f_X8_tryIncome S a b = ((-2), S) := by refine (zsl_e _).trans ?_; refine (if_pos c_9).trans ?_; rfl
    rw [e] at hret
    exact hret _ _ dX8_tryIncome_14

noncomputable def f_X8_income (S : zMs) (a : Int32) : Int32 × zMs :=
  (((f_X8_tryIncome S a true).1), ((f_X8_tryIncome S a true).2))
set_option maxHeartbeats 4000000 in
set_option maxRecDepth 100000 in
theorem c_X8_income (l : Launch) (D : va_G) (cy : Nat → ClassId) (m : Nat → Nat) (a : Int32)  (S : zMs) (hf : gMs_pf S < 6) (hm : gMs_pm S ≤ 6) : zC l yX8_income (zW yX8_income cX8_income 2 (Option.some Jvm.ClassFile.FieldType.int)) { frames := 4, cells := 0, slots := 0, locals := 88 } D cy [.ref (m 0), .int a] (WM cy m S) (some (.int ((f_X8_income S a).1))) (WM cy m ((f_X8_income S a).2)) := by
  refine zC_of rfl (Nat.le_of_ble_eq_true rfl) (zOk_i _) (fun E C hret => ?_)
  show zJ E 2 0 0 (WM cy m S) 0 [(0, .ref (m 0)), (1, .int a)] []
  refine zj_aload_n C dX8_income_0 0 rfl ?_
  refine zj_iload_n C dX8_income_1 1 rfl ?_
  refine zj_iconst C (v := (nI 1)) dX8_income_2 (by decide) ?_
  refine zj_callV C (nn := 10) (ws' := (WM cy m ((f_X8_tryIncome S a true).2))) (st := []) (st1 := [.int ((f_X8_tryIncome S a true).1)]) 0 8 [0, 1, 2, 3, 4, 5, 6, 7, 8, 9] (c_X8_tryIncome l D cy m a true S (by omega) (by omega)) (zg_V tg_902 tg_899 tg_901 tgp_46 tg_9) ⟨rfl, hdZ_X8_tryIncome⟩ ⟨rfl, rfl⟩ ⟨by decide, by decide⟩ rfl rfl rfl (by decide) ⟨rfl, rfl⟩ rfl rfl (Nat.le_of_ble_eq_true rfl) dX8_income_3 rfl rfl ?_
  have e : f_X8_income S a = (((f_X8_tryIncome S a true).1), ((f_X8_tryIncome S a true).2)) := by rfl
  rw [e] at hret
  exact hret _ _ dX8_income_6

noncomputable def L_X8_tp1 (S : zMs) (b : Bool) (x15_0 : Int64) : Nat → (zMs) → (Int64) → (Nat) → (zMs) × (Int64) × (Nat)
  | 0, X, al, j => (X, al, j)
  | fuel + 1, X, al, j =>
    if 6 ≤ j then
      (X, al, j)
    else
      let x101_0 : Int64 := (if (((f_X8_units X j) * (f_X8_incomeOfUnit (f_X8_keepIf S b))) / 1000) ≤ (((f_X8_of X j 1) * x15_0) / 1000) then (((f_X8_units X j) * (f_X8_incomeOfUnit (f_X8_keepIf S b))) / 1000) else (((f_X8_of X j 1) * x15_0) / 1000))
      L_X8_tp1 S b x15_0 fuel (f_X8_add (f_X8_add X j 4 (((f_X8_units X j) * (f_X8_incomeOfUnit (f_X8_keepIf S b))) / 1000)) j 5 x101_0) (al + (((f_X8_units X j) * (f_X8_incomeOfUnit (f_X8_keepIf S b))) / 1000)) (j + 1)
theorem L_X8_tp1_s (S : zMs) (b : Bool) (x15_0 : Int64) (fuel : Nat) (X : zMs) (al : Int64) (j : Nat) : L_X8_tp1 S b x15_0 (fuel + 1) X al j = (
    if 6 ≤ j then
      (X, al, j)
    else
      let x101_0 : Int64 := (if (((f_X8_units X j) * (f_X8_incomeOfUnit (f_X8_keepIf S b))) / 1000) ≤ (((f_X8_of X j 1) * x15_0) / 1000) then (((f_X8_units X j) * (f_X8_incomeOfUnit (f_X8_keepIf S b))) / 1000) else (((f_X8_of X j 1) * x15_0) / 1000))
      L_X8_tp1 S b x15_0 fuel (f_X8_add (f_X8_add X j 4 (((f_X8_units X j) * (f_X8_incomeOfUnit (f_X8_keepIf S b))) / 1000)) j 5 x101_0) (al + (((f_X8_units X j) * (f_X8_incomeOfUnit (f_X8_keepIf S b))) / 1000)) (j + 1)
  ) := rfl
noncomputable def L_X8_tp2  : Nat → (zMs) → (Nat) → (zMs) × (Nat)
  | 0, X, j => (X, j)
  | fuel + 1, X, j =>
    if 6 ≤ j then
      (X, j)
    else
      L_X8_tp2  fuel (f_X8_add (f_X8_add X j 0 (f_X8_of X j 1)) j 1 (-(f_X8_of X j 1))) (j + 1)
theorem L_X8_tp2_s  (fuel : Nat) (X : zMs) (j : Nat) : L_X8_tp2  (fuel + 1) X j = (
    if 6 ≤ j then
      (X, j)
    else
      L_X8_tp2  fuel (f_X8_add (f_X8_add X j 0 (f_X8_of X j 1)) j 1 (-(f_X8_of X j 1))) (j + 1)
  ) := rfl
noncomputable def f_X8_tryPay (S : zMs) (b : Bool) : Int32 × zMs := zsl (
  let x15_0 : Int64 := (if (f_X8_allNew (f_X8_keepIf S b)) = 0 then 0 else ((1000 * ((gMs_at (f_X8_keepIf S b)) 9)) / (f_X8_allNew (f_X8_keepIf S b))))
  let X1 : zMs := ((L_X8_tp1 S b x15_0 (6 - 0 + 1) (f_X8_keepIf S b) 0 0).1)
  let al1 : Int64 := ((L_X8_tp1 S b x15_0 (6 - 0 + 1) (f_X8_keepIf S b) 0 0).2.1)
  let j1 : Nat := ((L_X8_tp1 S b x15_0 (6 - 0 + 1) (f_X8_keepIf S b) 0 0).2.2)
  let X2 : zMs := ((L_X8_tp2  (6 - 0 + 1) X1 0).1)
  let j2 : Nat := ((L_X8_tp2  (6 - 0 + 1) X1 0).2)
  (((al1).toInt32), (sMs_at X2 (vp_updL (vp_updL (vp_updL (gMs_at X2) 5 (((gMs_at X2) 5) - al1)) 8 (((vp_updL (gMs_at X2) 5 (((gMs_at X2) 5) - al1)) 8) - al1)) 9 0)))
  )
set_option maxHeartbeats 4000000 in
set_option maxRecDepth 100000 in
theorem c_X8_tryPay (l : Launch) (D : va_G) (cy : Nat → ClassId) (m : Nat → Nat) (b : Bool)  (S : zMs) (hf : gMs_pf S < 6) (hm : gMs_pm S ≤ 6) : zC l yX8_tryPay (zW yX8_tryPay cX8_tryPay 13 (Option.some Jvm.ClassFile.FieldType.int)) { frames := 4, cells := 0, slots := 0, locals := 86 } D cy [.ref (m 0), .int (zB b)] (WM cy m S) (some (.int ((f_X8_tryPay S b).1))) (WM cy m ((f_X8_tryPay S b).2)) := by
  refine zC_of rfl (Nat.le_of_ble_eq_true rfl) (zOk_i _) (fun E C hret => ?_)
  show zJ E 13 0 0 (WM cy m S) 0 [(0, .ref (m 0)), (1, .int (zB b))] []
  refine zj_aload_n C dX8_tryPay_0 0 rfl ?_
  refine zj_iload_n C dX8_tryPay_1 1 rfl ?_
  refine zj_callV C (nn := 10) (ws' := (WM cy m (f_X8_keepIf S b))) (st := []) (st1 := []) 0 8 [0, 1, 2, 3, 4, 5, 6, 7, 8, 9] (c_X8_keepIf l D cy m b S (by omega) (by omega)) (zg_V tg_752 tg_749 tg_751 tgp_16 tg_9) ⟨rfl, hdZ_X8_keepIf⟩ ⟨rfl, rfl⟩ ⟨by decide, by decide⟩ rfl rfl rfl (by decide) ⟨rfl, rfl⟩ rfl rfl (Nat.le_of_ble_eq_true rfl) dX8_tryPay_2 rfl rfl ?_
  refine zj_aload_n C dX8_tryPay_5 0 rfl ?_
  refine zj_callV C (nn := 10) (ws' := (WM cy m (f_X8_keepIf S b))) (st := []) (st1 := [.long (f_X8_incomeOfUnit (f_X8_keepIf S b))]) 0 8 [0, 1, 2, 3, 4, 5, 6, 7, 8, 9] (c_X8_incomeOfUnit l D cy m  (f_X8_keepIf S b) ) (zg_V tg_792 tg_789 tg_791 tgp_24 tg_9) ⟨rfl, hdZ_X8_incomeOfUnit⟩ ⟨rfl, rfl⟩ ⟨by decide, by decide⟩ rfl rfl rfl (by decide) ⟨rfl, rfl⟩ rfl rfl (Nat.le_of_ble_eq_true rfl) dX8_tryPay_6 rfl rfl ?_
  refine zj_lstore_n C (L' := [(2, .long (f_X8_incomeOfUnit (f_X8_keepIf S b))), (0, .ref (m 0)), (1, .int (zB b))]) dX8_tryPay_9 rfl (by decide) rfl ?_
  refine zj_aload_n C dX8_tryPay_10 1 rfl ?_
  refine zj_callV C (nn := 10) (ws' := (WM cy m (f_X8_keepIf S b))) (st := []) (st1 := [.long (f_X8_allNew (f_X8_keepIf S b))]) 0 8 [0, 1, 2, 3, 4, 5, 6, 7, 8, 9] (c_X8_allNew l D cy m  (f_X8_keepIf S b) ) (zg_V tg_800 tg_797 tg_799 tgp_26 tg_9) ⟨rfl, hdZ_X8_allNew⟩ ⟨rfl, rfl⟩ ⟨by decide, by decide⟩ rfl rfl rfl (by decide) ⟨rfl, rfl⟩ rfl rfl (Nat.le_of_ble_eq_true rfl) dX8_tryPay_11 rfl rfl ?_
  refine zj_lconst C (v := 0) dX8_tryPay_14 (by decide) ?_
  have J_15 : ∀ (x15_0 : Int64), x15_0 = (if (f_X8_allNew (f_X8_keepIf S b)) = 0 then 0 else ((1000 * ((gMs_at (f_X8_keepIf S b)) 9)) / (f_X8_allNew (f_X8_keepIf S b)))) → zJ E 13 0 0 (WM cy m (f_X8_keepIf S b)) 39 [(2, .long (f_X8_incomeOfUnit (f_X8_keepIf S b))), (0, .ref (m 0)), (1, .int (zB b))] [.long x15_0] := by
    intro x15_0 hx15_0
    refine zj_lstore C (L' := [(4, .long x15_0), (2, .long (f_X8_incomeOfUnit (f_X8_keepIf S b))), (0, .ref (m 0)), (1, .int (zB b))]) dX8_tryPay_39 (by decide) rfl ?_
    refine zj_lconst C (v := 0) dX8_tryPay_41 (by decide) ?_
    refine zj_lstore C (L' := [(6, .long 0), (4, .long x15_0), (2, .long (f_X8_incomeOfUnit (f_X8_keepIf S b))), (0, .ref (m 0)), (1, .int (zB b))]) dX8_tryPay_42 (by decide) rfl ?_
    refine zj_iconst C (v := (nI 0)) dX8_tryPay_44 (by decide) ?_
    refine zj_istore C (L' := [(8, .int (nI 0)), (6, .long 0), (4, .long x15_0), (2, .long (f_X8_incomeOfUnit (f_X8_keepIf S b))), (0, .ref (m 0)), (1, .int (zB b))]) dX8_tryPay_45 (by decide) rfl ?_
    have loop_47 : ∀ (fuel : Nat) (X : zMs) (al : Int64) (j : Nat), (hj : j ≤ 6) → 6 - j < fuel → (zJ E 13 0 0 (WM cy m ((L_X8_tp1 S b x15_0 fuel X al j).1)) 128 [(0, .ref (m 0)), (1, .int (zB b)), (2, .long (f_X8_incomeOfUnit (f_X8_keepIf S b))), (4, .long x15_0), (6, .long ((L_X8_tp1 S b x15_0 fuel X al j).2.1))] []) → zJ E 13 0 0 (WM cy m X) 47 [(0, .ref (m 0)), (1, .int (zB b)), (2, .long (f_X8_incomeOfUnit (f_X8_keepIf S b))), (4, .long x15_0), (6, .long al), (8, .int (nI j))] [] := by
      intro fuel
      induction fuel with
      | zero => intro X al j hj hmu; exact absurd hmu (Nat.not_lt_zero _)
      | succ fuel ih_47 =>
        intro X al j hj hmu_47 K_47
        refine zj_iload C dX8_tryPay_47 5 rfl ?_
        refine zj_bipush C (v := (nI 6)) dX8_tryPay_49 (by decide) ?_
        refine zj_icmp_ge C 128 dX8_tryPay_51 (by decide) (fun c => ?_) (fun c => ?_)
        · have c_51 : 6 ≤ j := ((nI_leI (by omega) (by omega)).mp c)
          refine zj_sub (L' := [(0, .ref (m 0)), (1, .int (zB b)), (2, .long (f_X8_incomeOfUnit (f_X8_keepIf S b))), (4, .long x15_0), (6, .long al)]) [0, 1, 2, 3, 4] rfl ?_
          have e_47 : (L_X8_tp1 S b x15_0 (fuel + 1) X al j) = (X, al, j) := by refine (L_X8_tp1_s S b x15_0 fuel X al j).trans ?_; refine (if_pos c_51).trans ?_; rfl
          rw [e_47] at K_47
          exact K_47 
        · have c_51 : ¬ (6 ≤ j) := (fun q => c ((nI_leI (by omega) (by omega)).mpr q))
          refine zj_aload_n C dX8_tryPay_54 0 rfl ?_
          refine zj_iload C dX8_tryPay_55 5 rfl ?_
          refine zj_callV C (nn := 10) (ws' := (WM cy m X)) (st := []) (st1 := [.long (f_X8_units X j)]) 0 8 [0, 1, 2, 3, 4, 5, 6, 7, 8, 9] (c_X8_units l D cy m j X (by omega)) (zg_V tg_772 tg_769 tg_771 tgp_20 tg_9) ⟨rfl, hdZ_X8_units⟩ ⟨rfl, rfl⟩ ⟨by decide, by decide⟩ rfl rfl rfl (by decide) ⟨rfl, rfl⟩ rfl rfl (Nat.le_of_ble_eq_true rfl) dX8_tryPay_57 rfl rfl ?_
          refine zj_lload_n C dX8_tryPay_60 2 rfl ?_
          refine zj_lmul C dX8_tryPay_61 ?_
          refine zj_ldc2 C dX8_tryPay_62 tg_675 ?_
          refine zj_ldiv C dX8_tryPay_65 (by decide) ?_
          refine zj_lstore C (L' := [(9, .long (((f_X8_units X j) * (f_X8_incomeOfUnit (f_X8_keepIf S b))) / 1000)), (0, .ref (m 0)), (1, .int (zB b)), (2, .long (f_X8_incomeOfUnit (f_X8_keepIf S b))), (4, .long x15_0), (6, .long al), (8, .int (nI j))]) dX8_tryPay_66 (by decide) rfl ?_
          refine zj_aload_n C dX8_tryPay_68 1 rfl ?_
          refine zj_iload C dX8_tryPay_69 6 rfl ?_
          refine zj_iconst C (v := (nI 1)) dX8_tryPay_71 (by decide) ?_
          refine zj_callV C (nn := 10) (ws' := (WM cy m X)) (st := []) (st1 := [.long (f_X8_of X j 1)]) 0 8 [0, 1, 2, 3, 4, 5, 6, 7, 8, 9] (c_X8_of l D cy m j 1 X (by omega) (by omega)) (zg_V tg_776 tg_773 tg_775 tgp_21 tg_9) ⟨rfl, hdZ_X8_of⟩ ⟨rfl, rfl⟩ ⟨by decide, by decide⟩ rfl rfl rfl (by decide) ⟨rfl, rfl⟩ rfl rfl (Nat.le_of_ble_eq_true rfl) dX8_tryPay_72 rfl rfl ?_
          refine zj_lload C dX8_tryPay_75 4 rfl ?_
          refine zj_lmul C dX8_tryPay_77 ?_
          refine zj_ldc2 C dX8_tryPay_78 tg_675 ?_
          refine zj_ldiv C dX8_tryPay_81 (by decide) ?_
          refine zj_lstore C (L' := [(11, .long (((f_X8_of X j 1) * x15_0) / 1000)), (9, .long (((f_X8_units X j) * (f_X8_incomeOfUnit (f_X8_keepIf S b))) / 1000)), (0, .ref (m 0)), (1, .int (zB b)), (2, .long (f_X8_incomeOfUnit (f_X8_keepIf S b))), (4, .long x15_0), (6, .long al), (8, .int (nI j))]) dX8_tryPay_82 (by decide) rfl ?_
          refine zj_aload_n C dX8_tryPay_84 2 rfl ?_
          refine zj_iload C dX8_tryPay_85 7 rfl ?_
          refine zj_iconst C (v := (nI 4)) dX8_tryPay_87 (by decide) ?_
          refine zj_lload C dX8_tryPay_88 1 rfl ?_
          refine zj_callV C (nn := 10) (ws' := (WM cy m (f_X8_add X j 4 (((f_X8_units X j) * (f_X8_incomeOfUnit (f_X8_keepIf S b))) / 1000)))) (st := []) (st1 := []) 0 8 [0, 1, 2, 3, 4, 5, 6, 7, 8, 9] (c_X8_add l D cy m j 4 (((f_X8_units X j) * (f_X8_incomeOfUnit (f_X8_keepIf S b))) / 1000) X (by omega) (by omega)) (zg_V tg_804 tg_801 tg_803 tgp_27 tg_9) ⟨rfl, hdZ_X8_add⟩ ⟨rfl, rfl⟩ ⟨by decide, by decide⟩ rfl rfl rfl (by decide) ⟨rfl, rfl⟩ rfl rfl (Nat.le_of_ble_eq_true rfl) dX8_tryPay_90 rfl rfl ?_
          refine zj_aload_n C dX8_tryPay_93 2 rfl ?_
          refine zj_iload C dX8_tryPay_94 7 rfl ?_
          refine zj_iconst C (v := (nI 5)) dX8_tryPay_96 (by decide) ?_
          refine zj_lload C dX8_tryPay_97 0 rfl ?_
          refine zj_lload C dX8_tryPay_99 1 rfl ?_
          have J_101 : ∀ (x101_0 : Int64), x101_0 = (if (((f_X8_units X j) * (f_X8_incomeOfUnit (f_X8_keepIf S b))) / 1000) ≤ (((f_X8_of X j 1) * x15_0) / 1000) then (((f_X8_units X j) * (f_X8_incomeOfUnit (f_X8_keepIf S b))) / 1000) else (((f_X8_of X j 1) * x15_0) / 1000)) → zJ E 13 0 0 (WM cy m (f_X8_add X j 4 (((f_X8_units X j) * (f_X8_incomeOfUnit (f_X8_keepIf S b))) / 1000))) 112 [(11, .long (((f_X8_of X j 1) * x15_0) / 1000)), (9, .long (((f_X8_units X j) * (f_X8_incomeOfUnit (f_X8_keepIf S b))) / 1000)), (0, .ref (m 0)), (1, .int (zB b)), (2, .long (f_X8_incomeOfUnit (f_X8_keepIf S b))), (4, .long x15_0), (6, .long al), (8, .int (nI j))] [.long x101_0, .int (nI 5), .int (nI j), .ref (m 0)] := by
            intro x101_0 hx101_0
            refine zj_callV C (nn := 10) (ws' := (WM cy m (f_X8_add (f_X8_add X j 4 (((f_X8_units X j) * (f_X8_incomeOfUnit (f_X8_keepIf S b))) / 1000)) j 5 x101_0))) (st := []) (st1 := []) 0 8 [0, 1, 2, 3, 4, 5, 6, 7, 8, 9] (c_X8_add l D cy m j 5 x101_0 (f_X8_add X j 4 (((f_X8_units X j) * (f_X8_incomeOfUnit (f_X8_keepIf S b))) / 1000)) (by omega) (by omega)) (zg_V tg_804 tg_801 tg_803 tgp_27 tg_9) ⟨rfl, hdZ_X8_add⟩ ⟨rfl, rfl⟩ ⟨by decide, by decide⟩ rfl rfl rfl (by decide) ⟨rfl, rfl⟩ rfl rfl (Nat.le_of_ble_eq_true rfl) dX8_tryPay_112 rfl rfl ?_
            refine zj_lload C dX8_tryPay_115 6 rfl ?_
            refine zj_lload C dX8_tryPay_117 1 rfl ?_
            refine zj_ladd C dX8_tryPay_119 ?_
            refine zj_lstore C (L' := [(6, .long (al + (((f_X8_units X j) * (f_X8_incomeOfUnit (f_X8_keepIf S b))) / 1000))), (11, .long (((f_X8_of X j 1) * x15_0) / 1000)), (9, .long (((f_X8_units X j) * (f_X8_incomeOfUnit (f_X8_keepIf S b))) / 1000)), (0, .ref (m 0)), (1, .int (zB b)), (2, .long (f_X8_incomeOfUnit (f_X8_keepIf S b))), (4, .long x15_0), (8, .int (nI j))]) dX8_tryPay_120 (by decide) rfl ?_
            refine zj_iinc C (j := 7) (v := (nI (j + 1))) (L' := [(8, .int (nI (j + 1))), (6, .long (al + (((f_X8_units X j) * (f_X8_incomeOfUnit (f_X8_keepIf S b))) / 1000))), (11, .long (((f_X8_of X j 1) * x15_0) / 1000)), (9, .long (((f_X8_units X j) * (f_X8_incomeOfUnit (f_X8_keepIf S b))) / 1000)), (0, .ref (m 0)), (1, .int (zB b)), (2, .long (f_X8_incomeOfUnit (f_X8_keepIf S b))), (4, .long x15_0)]) dX8_tryPay_122 rfl (nI_1 _) (by decide) rfl ?_
            refine zj_goto C 47 dX8_tryPay_125 (by decide) ?_
            refine zj_sub (L' := [(0, .ref (m 0)), (1, .int (zB b)), (2, .long (f_X8_incomeOfUnit (f_X8_keepIf S b))), (4, .long x15_0), (6, .long (al + (((f_X8_units X j) * (f_X8_incomeOfUnit (f_X8_keepIf S b))) / 1000))), (8, .int (nI (j + 1)))]) [4, 5, 6, 7, 1, 0] rfl ?_
            have hn_hj : (j + 1) ≤ 6 := (by omega)
            have hn_mu : 6 - (j + 1) < fuel := (by omega)
            subst hx101_0
            have e_47 : (L_X8_tp1 S b x15_0 (fuel + 1) X al j) = (L_X8_tp1 S b x15_0 fuel (f_X8_add (f_X8_add X j 4 (((f_X8_units X j) * (f_X8_incomeOfUnit (f_X8_keepIf S b))) / 1000)) j 5 (if (((f_X8_units X j) * (f_X8_incomeOfUnit (f_X8_keepIf S b))) / 1000) ≤ (((f_X8_of X j 1) * x15_0) / 1000) then (((f_X8_units X j) * (f_X8_incomeOfUnit (f_X8_keepIf S b))) / 1000) else (((f_X8_of X j 1) * x15_0) / 1000))) (al + (((f_X8_units X j) * (f_X8_incomeOfUnit (f_X8_keepIf S b))) / 1000)) (j + 1)) := by refine (L_X8_tp1_s S b x15_0 fuel X al j).trans ?_; refine (if_neg c_51).trans ?_; rfl
            rw [e_47] at K_47
            exact ih_47 (f_X8_add (f_X8_add X j 4 (((f_X8_units X j) * (f_X8_incomeOfUnit (f_X8_keepIf S b))) / 1000)) j 5 (if (((f_X8_units X j) * (f_X8_incomeOfUnit (f_X8_keepIf S b))) / 1000) ≤ (((f_X8_of X j 1) * x15_0) / 1000) then (((f_X8_units X j) * (f_X8_incomeOfUnit (f_X8_keepIf S b))) / 1000) else (((f_X8_of X j 1) * x15_0) / 1000))) (al + (((f_X8_units X j) * (f_X8_incomeOfUnit (f_X8_keepIf S b))) / 1000)) (j + 1) hn_hj hn_mu K_47
          refine zj_lcmp_ge C 110 dX8_tryPay_101 dX8_tryPay_102 (by decide) (fun c => ?_) (fun c => ?_)
          · have c_101 : (((f_X8_units X j) * (f_X8_incomeOfUnit (f_X8_keepIf S b))) / 1000) ≤ (((f_X8_of X j 1) * x15_0) / 1000) := c
            refine zj_lload C dX8_tryPay_110 1 rfl ?_
            exact J_101 (((f_X8_units X j) * (f_X8_incomeOfUnit (f_X8_keepIf S b))) / 1000) (by simp only [if_neg c_51, if_pos c_101]; first | done | assumption)
          · have c_101 : ¬ ((((f_X8_units X j) * (f_X8_incomeOfUnit (f_X8_keepIf S b))) / 1000) ≤ (((f_X8_of X j 1) * x15_0) / 1000)) := c
            refine zj_lload C dX8_tryPay_105 0 rfl ?_
            refine zj_goto C 112 dX8_tryPay_107 (by decide) ?_
            exact J_101 (((f_X8_of X j 1) * x15_0) / 1000) (by simp only [if_neg c_51, if_neg c_101]; first | done | assumption)
    have K_47 : ∀ (X1 : zMs) (al1 : Int64) (j1 : Nat), X1 = ((L_X8_tp1 S b x15_0 (6 - 0 + 1) (f_X8_keepIf S b) 0 0).1) → al1 = ((L_X8_tp1 S b x15_0 (6 - 0 + 1) (f_X8_keepIf S b) 0 0).2.1) → j1 = ((L_X8_tp1 S b x15_0 (6 - 0 + 1) (f_X8_keepIf S b) 0 0).2.2) → zJ E 13 0 0 (WM cy m X1) 128 [(0, .ref (m 0)), (1, .int (zB b)), (2, .long (f_X8_incomeOfUnit (f_X8_keepIf S b))), (4, .long x15_0), (6, .long al1)] [] := by
      intro X1 al1 j1 hX1 hal1 hj1 
      refine zj_iconst C (v := (nI 0)) dX8_tryPay_128 (by decide) ?_
      refine zj_istore C (L' := [(8, .int (nI 0)), (0, .ref (m 0)), (1, .int (zB b)), (2, .long (f_X8_incomeOfUnit (f_X8_keepIf S b))), (4, .long x15_0), (6, .long al1)]) dX8_tryPay_129 (by decide) rfl ?_
      have loop_131 : ∀ (fuel : Nat) (X : zMs) (j : Nat), (hj : j ≤ 6) → 6 - j < fuel → (zJ E 13 0 0 (WM cy m ((L_X8_tp2  fuel X j).1)) 172 [(0, .ref (m 0)), (6, .long al1)] []) → zJ E 13 0 0 (WM cy m X) 131 [(0, .ref (m 0)), (1, .int (zB b)), (2, .long (f_X8_incomeOfUnit (f_X8_keepIf S b))), (4, .long x15_0), (6, .long al1), (8, .int (nI j))] [] := by
        intro fuel
        induction fuel with
        | zero => intro X j hj hmu; exact absurd hmu (Nat.not_lt_zero _)
        | succ fuel ih_131 =>
          intro X j hj hmu_131 K_131
          refine zj_iload C dX8_tryPay_131 5 rfl ?_
          refine zj_bipush C (v := (nI 6)) dX8_tryPay_133 (by decide) ?_
          refine zj_icmp_ge C 172 dX8_tryPay_135 (by decide) (fun c => ?_) (fun c => ?_)
          · have c_135 : 6 ≤ j := ((nI_leI (by omega) (by omega)).mp c)
            refine zj_sub (L' := [(0, .ref (m 0)), (6, .long al1)]) [0, 4] rfl ?_
            have e_131 : (L_X8_tp2  (fuel + 1) X j) = (X, j) := by refine (L_X8_tp2_s  fuel X j).trans ?_; refine (if_pos c_135).trans ?_; rfl
            rw [e_131] at K_131
            exact K_131 
          · have c_135 : ¬ (6 ≤ j) := (fun q => c ((nI_leI (by omega) (by omega)).mpr q))
            refine zj_aload_n C dX8_tryPay_138 0 rfl ?_
            refine zj_iload C dX8_tryPay_139 5 rfl ?_
            refine zj_iconst C (v := (nI 1)) dX8_tryPay_141 (by decide) ?_
            refine zj_callV C (nn := 10) (ws' := (WM cy m X)) (st := []) (st1 := [.long (f_X8_of X j 1)]) 0 8 [0, 1, 2, 3, 4, 5, 6, 7, 8, 9] (c_X8_of l D cy m j 1 X (by omega) (by omega)) (zg_V tg_776 tg_773 tg_775 tgp_21 tg_9) ⟨rfl, hdZ_X8_of⟩ ⟨rfl, rfl⟩ ⟨by decide, by decide⟩ rfl rfl rfl (by decide) ⟨rfl, rfl⟩ rfl rfl (Nat.le_of_ble_eq_true rfl) dX8_tryPay_142 rfl rfl ?_
            refine zj_lstore C (L' := [(9, .long (f_X8_of X j 1)), (0, .ref (m 0)), (1, .int (zB b)), (2, .long (f_X8_incomeOfUnit (f_X8_keepIf S b))), (4, .long x15_0), (6, .long al1), (8, .int (nI j))]) dX8_tryPay_145 (by decide) rfl ?_
            refine zj_aload_n C dX8_tryPay_147 1 rfl ?_
            refine zj_iload C dX8_tryPay_148 6 rfl ?_
            refine zj_iconst C (v := (nI 0)) dX8_tryPay_150 (by decide) ?_
            refine zj_lload C dX8_tryPay_151 0 rfl ?_
            refine zj_callV C (nn := 10) (ws' := (WM cy m (f_X8_add X j 0 (f_X8_of X j 1)))) (st := []) (st1 := []) 0 8 [0, 1, 2, 3, 4, 5, 6, 7, 8, 9] (c_X8_add l D cy m j 0 (f_X8_of X j 1) X (by omega) (by omega)) (zg_V tg_804 tg_801 tg_803 tgp_27 tg_9) ⟨rfl, hdZ_X8_add⟩ ⟨rfl, rfl⟩ ⟨by decide, by decide⟩ rfl rfl rfl (by decide) ⟨rfl, rfl⟩ rfl rfl (Nat.le_of_ble_eq_true rfl) dX8_tryPay_153 rfl rfl ?_
            refine zj_aload_n C dX8_tryPay_156 1 rfl ?_
            refine zj_iload C dX8_tryPay_157 6 rfl ?_
            refine zj_iconst C (v := (nI 1)) dX8_tryPay_159 (by decide) ?_
            refine zj_lload C dX8_tryPay_160 0 rfl ?_
            refine zj_lneg C dX8_tryPay_162 ?_
            refine zj_callV C (nn := 10) (ws' := (WM cy m (f_X8_add (f_X8_add X j 0 (f_X8_of X j 1)) j 1 (-(f_X8_of X j 1))))) (st := []) (st1 := []) 0 8 [0, 1, 2, 3, 4, 5, 6, 7, 8, 9] (c_X8_add l D cy m j 1 (-(f_X8_of X j 1)) (f_X8_add X j 0 (f_X8_of X j 1)) (by omega) (by omega)) (zg_V tg_804 tg_801 tg_803 tgp_27 tg_9) ⟨rfl, hdZ_X8_add⟩ ⟨rfl, rfl⟩ ⟨by decide, by decide⟩ rfl rfl rfl (by decide) ⟨rfl, rfl⟩ rfl rfl (Nat.le_of_ble_eq_true rfl) dX8_tryPay_163 rfl rfl ?_
            refine zj_iinc C (j := 6) (v := (nI (j + 1))) (L' := [(8, .int (nI (j + 1))), (9, .long (f_X8_of X j 1)), (0, .ref (m 0)), (1, .int (zB b)), (2, .long (f_X8_incomeOfUnit (f_X8_keepIf S b))), (4, .long x15_0), (6, .long al1)]) dX8_tryPay_166 rfl (nI_1 _) (by decide) rfl ?_
            refine zj_goto C 131 dX8_tryPay_169 (by decide) ?_
            refine zj_sub (L' := [(0, .ref (m 0)), (1, .int (zB b)), (2, .long (f_X8_incomeOfUnit (f_X8_keepIf S b))), (4, .long x15_0), (6, .long al1), (8, .int (nI (j + 1)))]) [2, 3, 4, 5, 6, 0] rfl ?_
            have hn_hj : (j + 1) ≤ 6 := (by omega)
            have hn_mu : 6 - (j + 1) < fuel := (by omega)
            have e_131 : (L_X8_tp2  (fuel + 1) X j) = (L_X8_tp2  fuel (f_X8_add (f_X8_add X j 0 (f_X8_of X j 1)) j 1 (-(f_X8_of X j 1))) (j + 1)) := by refine (L_X8_tp2_s  fuel X j).trans ?_; refine (if_neg c_135).trans ?_; rfl
            rw [e_131] at K_131
            exact ih_131 (f_X8_add (f_X8_add X j 0 (f_X8_of X j 1)) j 1 (-(f_X8_of X j 1))) (j + 1) hn_hj hn_mu K_131
      have K_131 : ∀ (X2 : zMs) (j2 : Nat), X2 = ((L_X8_tp2  (6 - 0 + 1) X1 0).1) → j2 = ((L_X8_tp2  (6 - 0 + 1) X1 0).2) → zJ E 13 0 0 (WM cy m X2) 172 [(0, .ref (m 0)), (6, .long al1)] [] := by
        intro X2 j2 hX2 hj2 
        refine zj_aload_n C dX8_tryPay_172 0 rfl ?_
        refine zj_get C 0 8 0 (v := .ref (m 1)) inZ8 rfl rfl (by decide) tg_677 rfl dX8_tryPay_173 ?_
        refine zj_iconst C (v := (nI 5)) dX8_tryPay_176 (by decide) ?_
        refine zj_dup2 C dX8_tryPay_177 rfl rfl ?_
        refine zj_lald C 1 (f := (gMs_at X2)) 5 (by decide) (vp_in_nI (by decide) (by decide)) rfl dX8_tryPay_178 ?_
        refine zj_lload C dX8_tryPay_179 1 rfl ?_
        refine zj_lsub C dX8_tryPay_181 ?_
        refine zj_last C 1 (f := (gMs_at X2)) (ws' := (WM cy m (sMs_at X2 (vp_updL (gMs_at X2) 5 (((gMs_at X2) 5) - al1))))) 5 (by decide) (vp_in_nI (by decide) (by decide)) rfl dX8_tryPay_182 rfl ?_
        refine zj_aload_n C dX8_tryPay_183 0 rfl ?_
        refine zj_get C 0 8 0 (v := .ref (m 1)) inZ8 rfl rfl (by decide) tg_677 rfl dX8_tryPay_184 ?_
        refine zj_bipush C (v := (nI 8)) dX8_tryPay_187 (by decide) ?_
        refine zj_dup2 C dX8_tryPay_189 rfl rfl ?_
        refine zj_lald C 1 (f := (vp_updL (gMs_at X2) 5 (((gMs_at X2) 5) - al1))) 8 (by decide) (vp_in_nI (by decide) (by decide)) rfl dX8_tryPay_190 ?_
        refine zj_lload C dX8_tryPay_191 1 rfl ?_
        refine zj_lsub C dX8_tryPay_193 ?_
        refine zj_last C 1 (f := (vp_updL (gMs_at X2) 5 (((gMs_at X2) 5) - al1))) (ws' := (WM cy m (sMs_at X2 (vp_updL (vp_updL (gMs_at X2) 5 (((gMs_at X2) 5) - al1)) 8 (((vp_updL (gMs_at X2) 5 (((gMs_at X2) 5) - al1)) 8) - al1))))) 8 (by decide) (vp_in_nI (by decide) (by decide)) rfl dX8_tryPay_194 rfl ?_
        refine zj_aload_n C dX8_tryPay_195 0 rfl ?_
        refine zj_get C 0 8 0 (v := .ref (m 1)) inZ8 rfl rfl (by decide) tg_677 rfl dX8_tryPay_196 ?_
        refine zj_bipush C (v := (nI 9)) dX8_tryPay_199 (by decide) ?_
        refine zj_lconst C (v := 0) dX8_tryPay_201 (by decide) ?_
        refine zj_last C 1 (f := (vp_updL (vp_updL (gMs_at X2) 5 (((gMs_at X2) 5) - al1)) 8 (((vp_updL (gMs_at X2) 5 (((gMs_at X2) 5) - al1)) 8) - al1))) (ws' := (WM cy m (sMs_at X2 (vp_updL (vp_updL (vp_updL (gMs_at X2) 5 (((gMs_at X2) 5) - al1)) 8 (((vp_updL (gMs_at X2) 5 (((gMs_at X2) 5) - al1)) 8) - al1)) 9 0)))) 9 (by decide) (vp_in_nI (by decide) (by decide)) rfl dX8_tryPay_202 rfl ?_
        refine zj_lload C dX8_tryPay_203 1 rfl ?_
        refine zj_l2i C dX8_tryPay_205 ?_
        subst hj2
        subst hX2
        subst hj1
        subst hal1
        subst hX1
        subst hx15_0
        have e : f_X8_tryPay S b = (((((L_X8_tp1 S b (if (f_X8_allNew (f_X8_keepIf S b)) = 0 then 0 else ((1000 * ((gMs_at (f_X8_keepIf S b)) 9)) / (f_X8_allNew (f_X8_keepIf S b)))) (6 - 0 + 1) (f_X8_keepIf S b) 0 0).2.1)).toInt32), (sMs_at ((L_X8_tp2  (6 - 0 + 1) ((L_X8_tp1 S b (if (f_X8_allNew (f_X8_keepIf S b)) = 0 then 0 else ((1000 * ((gMs_at (f_X8_keepIf S b)) 9)) / (f_X8_allNew (f_X8_keepIf S b)))) (6 - 0 + 1) (f_X8_keepIf S b) 0 0).1) 0).1) (vp_updL (vp_updL (vp_updL (gMs_at ((L_X8_tp2  (6 - 0 + 1) ((L_X8_tp1 S b (if (f_X8_allNew (f_X8_keepIf S b)) = 0 then 0 else ((1000 * ((gMs_at (f_X8_keepIf S b)) 9)) / (f_X8_allNew (f_X8_keepIf S b)))) (6 - 0 + 1) (f_X8_keepIf S b) 0 0).1) 0).1)) 5 (((gMs_at ((L_X8_tp2  (6 - 0 + 1) ((L_X8_tp1 S b (if (f_X8_allNew (f_X8_keepIf S b)) = 0 then 0 else ((1000 * ((gMs_at (f_X8_keepIf S b)) 9)) / (f_X8_allNew (f_X8_keepIf S b)))) (6 - 0 + 1) (f_X8_keepIf S b) 0 0).1) 0).1)) 5) - ((L_X8_tp1 S b (if (f_X8_allNew (f_X8_keepIf S b)) = 0 then 0 else ((1000 * ((gMs_at (f_X8_keepIf S b)) 9)) / (f_X8_allNew (f_X8_keepIf S b)))) (6 - 0 + 1) (f_X8_keepIf S b) 0 0).2.1))) 8 (((vp_updL (gMs_at ((L_X8_tp2  (6 - 0 + 1) ((L_X8_tp1 S b (if (f_X8_allNew (f_X8_keepIf S b)) = 0 then 0 else ((1000 * ((gMs_at (f_X8_keepIf S b)) 9)) / (f_X8_allNew (f_X8_keepIf S b)))) (6 - 0 + 1) (f_X8_keepIf S b) 0 0).1) 0).1)) 5 (((gMs_at ((L_X8_tp2  (6 - 0 + 1) ((L_X8_tp1 S b (if (f_X8_allNew (f_X8_keepIf S b)) = 0 then 0 else ((1000 * ((gMs_at (f_X8_keepIf S b)) 9)) / (f_X8_allNew (f_X8_keepIf S b)))) (6 - 0 + 1) (f_X8_keepIf S b) 0 0).1) 0).1)) 5) - ((L_X8_tp1 S b (if (f_X8_allNew (f_X8_keepIf S b)) = 0 then 0 else ((1000 * ((gMs_at (f_X8_keepIf S b)) 9)) / (f_X8_allNew (f_X8_keepIf S b)))) (6 - 0 + 1) (f_X8_keepIf S b) 0 0).2.1))) 8) - ((L_X8_tp1 S b (if (f_X8_allNew (f_X8_keepIf S b)) = 0 then 0 else ((1000 * ((gMs_at (f_X8_keepIf S b)) 9)) / (f_X8_allNew (f_X8_keepIf S b)))) (6 - 0 + 1) (f_X8_keepIf S b) 0 0).2.1))) 9 0))) := by refine (zsl_e _).trans ?_; rfl
        rw [e] at hret
        exact hret _ _ dX8_tryPay_206
      refine zj_sub (L' := [(0, .ref (m 0)), (1, .int (zB b)), (2, .long (f_X8_incomeOfUnit (f_X8_keepIf S b))), (4, .long x15_0), (6, .long al1), (8, .int (nI 0))]) [1, 2, 3, 4, 5, 0] rfl ?_
      exact loop_131 (6 - 0 + 1) X1 0 (by omega) (Nat.lt_succ_self _) (K_131 _ _ rfl rfl)
    refine zj_sub (L' := [(0, .ref (m 0)), (1, .int (zB b)), (2, .long (f_X8_incomeOfUnit (f_X8_keepIf S b))), (4, .long x15_0), (6, .long 0), (8, .int (nI 0))]) [4, 5, 3, 2, 1, 0] rfl ?_
    exact loop_47 (6 - 0 + 1) (f_X8_keepIf S b) 0 0 (by omega) (Nat.lt_succ_self _) (K_47 _ _ _ rfl rfl rfl)
  refine zj_lcmp_ne C 23 dX8_tryPay_15 dX8_tryPay_16 (by decide) (fun c => ?_) (fun c => ?_)
  · have c_15 : ¬ ((f_X8_allNew (f_X8_keepIf S b)) = 0) := c
    refine zj_ldc2 C dX8_tryPay_23 tg_675 ?_
    refine zj_aload_n C dX8_tryPay_26 1 rfl ?_
    refine zj_get C 0 8 0 (v := .ref (m 1)) inZ8 rfl rfl (by decide) tg_677 rfl dX8_tryPay_27 ?_
    refine zj_bipush C (v := (nI 9)) dX8_tryPay_30 (by decide) ?_
    refine zj_lald C 1 (f := (gMs_at (f_X8_keepIf S b))) 9 (by decide) (vp_in_nI (by decide) (by decide)) rfl dX8_tryPay_32 ?_
    refine zj_lmul C dX8_tryPay_33 ?_
    refine zj_aload_n C dX8_tryPay_34 1 rfl ?_
    refine zj_callV C (nn := 10) (ws' := (WM cy m (f_X8_keepIf S b))) (st := [.long (1000 * ((gMs_at (f_X8_keepIf S b)) 9))]) (st1 := [.long (f_X8_allNew (f_X8_keepIf S b)), .long (1000 * ((gMs_at (f_X8_keepIf S b)) 9))]) 0 8 [0, 1, 2, 3, 4, 5, 6, 7, 8, 9] (c_X8_allNew l D cy m  (f_X8_keepIf S b) ) (zg_V tg_800 tg_797 tg_799 tgp_26 tg_9) ⟨rfl, hdZ_X8_allNew⟩ ⟨rfl, rfl⟩ ⟨by decide, by decide⟩ rfl rfl rfl (by decide) ⟨rfl, rfl⟩ rfl rfl (Nat.le_of_ble_eq_true rfl) dX8_tryPay_35 rfl rfl ?_
    refine zj_ldiv C dX8_tryPay_38 c_15 ?_
    exact J_15 ((1000 * ((gMs_at (f_X8_keepIf S b)) 9)) / (f_X8_allNew (f_X8_keepIf S b))) (by simp only [if_neg c_15]; first | done | assumption)
  · have c_15 : (f_X8_allNew (f_X8_keepIf S b)) = 0 := (Classical.not_not.mp c)
    refine zj_lconst C (v := 0) dX8_tryPay_19 (by decide) ?_
    refine zj_goto C 39 dX8_tryPay_20 (by decide) ?_
    exact J_15 0 (by simp only [if_pos c_15]; first | done | assumption)

noncomputable def f_X8_pay (S : zMs) : Int32 × zMs :=
  (((f_X8_tryPay S true).1), ((f_X8_tryPay S true).2))
set_option maxHeartbeats 4000000 in
set_option maxRecDepth 100000 in
theorem c_X8_pay (l : Launch) (D : va_G) (cy : Nat → ClassId) (m : Nat → Nat)   (S : zMs) (hf : gMs_pf S < 6) (hm : gMs_pm S ≤ 6) : zC l yX8_pay (zW yX8_pay cX8_pay 1 (Option.some Jvm.ClassFile.FieldType.int)) { frames := 5, cells := 0, slots := 0, locals := 118 } D cy [.ref (m 0)] (WM cy m S) (some (.int ((f_X8_pay S).1))) (WM cy m ((f_X8_pay S).2)) := by
  refine zC_of rfl (Nat.le_of_ble_eq_true rfl) (zOk_i _) (fun E C hret => ?_)
  show zJ E 1 0 0 (WM cy m S) 0 [(0, .ref (m 0))] []
  refine zj_aload_n C dX8_pay_0 0 rfl ?_
  refine zj_iconst C (v := (nI 1)) dX8_pay_1 (by decide) ?_
  refine zj_callV C (nn := 10) (ws' := (WM cy m ((f_X8_tryPay S true).2))) (st := []) (st1 := [.int ((f_X8_tryPay S true).1)]) 0 8 [0, 1, 2, 3, 4, 5, 6, 7, 8, 9] (c_X8_tryPay l D cy m true S (by omega) (by omega)) (zg_V tg_910 tg_907 tg_909 tgp_47 tg_9) ⟨rfl, hdZ_X8_tryPay⟩ ⟨rfl, rfl⟩ ⟨by decide, by decide⟩ rfl rfl rfl (by decide) ⟨rfl, rfl⟩ rfl rfl (Nat.le_of_ble_eq_true rfl) dX8_pay_2 rfl rfl ?_
  have e : f_X8_pay S = (((f_X8_tryPay S true).1), ((f_X8_tryPay S true).2)) := by rfl
  rw [e] at hret
  exact hret _ _ dX8_pay_5

noncomputable def f_X8_ofHolder (S : zMs) (h : Int32) (wh : Int32) : Int32 :=
  if (f_X8_isHolder h) = false then
    (-1)
  else
    if wh = nI 0 then
      (((f_X8_units S h.toNatClampNeg)).toInt32)
    else
      if wh = nI 1 then
        (((f_X8_of S h.toNatClampNeg 0)).toInt32)
      else
        if wh = nI 2 then
          (((f_X8_of S h.toNatClampNeg 1)).toInt32)
        else
          if wh = nI 3 then
            (((f_X8_bound S h.toNatClampNeg)).toInt32)
          else
            if wh = nI 4 then
              (((f_X8_of S h.toNatClampNeg 2)).toInt32)
            else
              if wh = nI 5 then
                (((f_X8_of S h.toNatClampNeg 3)).toInt32)
              else
                if wh = nI 6 then
                  (((f_X8_of S h.toNatClampNeg 4)).toInt32)
                else
                  if wh = nI 7 then
                    (((f_X8_of S h.toNatClampNeg 5)).toInt32)
                  else
                    if wh = nI 8 then
                      (((f_X8_of S h.toNatClampNeg 6)).toInt32)
                    else
                      (-2)
set_option maxHeartbeats 4000000 in
set_option maxRecDepth 100000 in
theorem c_X8_ofHolder (l : Launch) (D : va_G) (cy : Nat → ClassId) (m : Nat → Nat) (h : Int32) (wh : Int32)  (S : zMs) (hc : zCk S 122) : zC l yX8_ofHolder (zW yX8_ofHolder cX8_ofHolder 3 (Option.some Jvm.ClassFile.FieldType.int)) { frames := 2, cells := 0, slots := 0, locals := 47 } D cy [.ref (m 0), .int h, .int wh] (WM cy m S) (some (.int (f_X8_ofHolder S h wh))) (WM cy m S) := by
  refine zC_of rfl (Nat.le_of_ble_eq_true rfl) (zOk_i _) (fun E C hret => ?_)
  show zJ E 3 0 0 (WM cy m S) 0 [(0, .ref (m 0)), (1, .int h), (2, .int wh)] []
  refine zj_iload_n C dX8_ofHolder_0 1 rfl ?_
  refine zj_callS C (nn := 0) (ws' := (WM cy m S)) (st := []) (st1 := [.int (zB (f_X8_isHolder h))]) [] (c_X8_isHolder l D cy h  ) tg_745 tg_743 tg_744 tg_9 hdZ_X8_isHolder ⟨rfl, rfl⟩ ⟨by decide, by decide⟩ rfl (by decide) ⟨rfl, rfl⟩ rfl rfl (Nat.le_of_ble_eq_true rfl) dX8_ofHolder_1 rfl rfl ?_
  refine zj_if_ne C 9 dX8_ofHolder_4 (by decide) (fun c => ?_) (fun c => ?_)
  · have c_4 : ¬ ((f_X8_isHolder h) = false) := (zB_neq c)
    refine zj_iload_n C dX8_ofHolder_9 2 rfl ?_
    by_cases c_10_0 : wh = nI 0
    · refine zj_topi (nI 0) c_10_0 ?_
      refine zj_tin C (off := 50) 60 dX8_ofHolder_10 (by decide) (by decide) rfl (by decide) ?_
      refine zj_aload_n C dX8_ofHolder_60 0 rfl ?_
      refine zj_iload_n C dX8_ofHolder_61 1 rfl ?_
      refine zj_topi (nI h.toNatClampNeg) (zh_eq c_4) ?_
      refine zj_callV C (nn := 10) (ws' := (WM cy m S)) (st := []) (st1 := [.long (f_X8_units S h.toNatClampNeg)]) 0 8 [0, 1, 2, 3, 4, 5, 6, 7, 8, 9] (c_X8_units l D cy m h.toNatClampNeg S (zh_lt c_4)) (zg_V tg_772 tg_769 tg_771 tgp_20 tg_9) ⟨rfl, hdZ_X8_units⟩ ⟨rfl, rfl⟩ ⟨by decide, by decide⟩ rfl rfl rfl (by decide) ⟨rfl, rfl⟩ rfl rfl (Nat.le_of_ble_eq_true rfl) dX8_ofHolder_62 rfl rfl ?_
      refine zj_l2i C dX8_ofHolder_65 ?_
      have e : f_X8_ofHolder S h wh = (((f_X8_units S h.toNatClampNeg)).toInt32) := by refine (if_neg c_4).trans ?_; refine (if_pos c_10_0).trans ?_; rfl
      rw [e] at hret
      exact hret _ _ dX8_ofHolder_66
    · skip
      by_cases c_10_1 : wh = nI 1
      · refine zj_topi (nI 1) c_10_1 ?_
        refine zj_tin C (off := 57) 67 dX8_ofHolder_10 (by decide) (by decide) rfl (by decide) ?_
        refine zj_aload_n C dX8_ofHolder_67 0 rfl ?_
        refine zj_iload_n C dX8_ofHolder_68 1 rfl ?_
        refine zj_topi (nI h.toNatClampNeg) (zh_eq c_4) ?_
        refine zj_iload_n C dX8_ofHolder_69 2 rfl ?_
        refine zj_topi (nI 1) c_10_1 ?_
        refine zj_iconst C (v := (nI 1)) dX8_ofHolder_70 (by decide) ?_
        refine zj_isub C dX8_ofHolder_71 ?_
        refine zj_topi (nI 0) (by decide) ?_
        refine zj_callV C (nn := 10) (ws' := (WM cy m S)) (st := []) (st1 := [.long (f_X8_of S h.toNatClampNeg 0)]) 0 8 [0, 1, 2, 3, 4, 5, 6, 7, 8, 9] (c_X8_of l D cy m h.toNatClampNeg 0 S (zh_lt c_4) (by decide)) (zg_V tg_776 tg_773 tg_775 tgp_21 tg_9) ⟨rfl, hdZ_X8_of⟩ ⟨rfl, rfl⟩ ⟨by decide, by decide⟩ rfl rfl rfl (by decide) ⟨rfl, rfl⟩ rfl rfl (Nat.le_of_ble_eq_true rfl) dX8_ofHolder_72 rfl rfl ?_
        refine zj_l2i C dX8_ofHolder_75 ?_
        have e : f_X8_ofHolder S h wh = (((f_X8_of S h.toNatClampNeg 0)).toInt32) := by refine (if_neg c_4).trans ?_; refine (if_neg c_10_0).trans ?_; refine (if_pos c_10_1).trans ?_; rfl
        rw [e] at hret
        exact hret _ _ dX8_ofHolder_76
      · skip
        by_cases c_10_2 : wh = nI 2
        · refine zj_topi (nI 2) c_10_2 ?_
          refine zj_tin C (off := 57) 67 dX8_ofHolder_10 (by decide) (by decide) rfl (by decide) ?_
          refine zj_aload_n C dX8_ofHolder_67 0 rfl ?_
          refine zj_iload_n C dX8_ofHolder_68 1 rfl ?_
          refine zj_topi (nI h.toNatClampNeg) (zh_eq c_4) ?_
          refine zj_iload_n C dX8_ofHolder_69 2 rfl ?_
          refine zj_topi (nI 2) c_10_2 ?_
          refine zj_iconst C (v := (nI 1)) dX8_ofHolder_70 (by decide) ?_
          refine zj_isub C dX8_ofHolder_71 ?_
          refine zj_topi (nI 1) (by decide) ?_
          refine zj_callV C (nn := 10) (ws' := (WM cy m S)) (st := []) (st1 := [.long (f_X8_of S h.toNatClampNeg 1)]) 0 8 [0, 1, 2, 3, 4, 5, 6, 7, 8, 9] (c_X8_of l D cy m h.toNatClampNeg 1 S (zh_lt c_4) (by decide)) (zg_V tg_776 tg_773 tg_775 tgp_21 tg_9) ⟨rfl, hdZ_X8_of⟩ ⟨rfl, rfl⟩ ⟨by decide, by decide⟩ rfl rfl rfl (by decide) ⟨rfl, rfl⟩ rfl rfl (Nat.le_of_ble_eq_true rfl) dX8_ofHolder_72 rfl rfl ?_
          refine zj_l2i C dX8_ofHolder_75 ?_
          have e : f_X8_ofHolder S h wh = (((f_X8_of S h.toNatClampNeg 1)).toInt32) := by refine (if_neg c_4).trans ?_; refine (if_neg c_10_0).trans ?_; refine (if_neg c_10_1).trans ?_; refine (if_pos c_10_2).trans ?_; rfl
          rw [e] at hret
          exact hret _ _ dX8_ofHolder_76
        · skip
          by_cases c_10_3 : wh = nI 3
          · refine zj_topi (nI 3) c_10_3 ?_
            refine zj_tin C (off := 67) 77 dX8_ofHolder_10 (by decide) (by decide) rfl (by decide) ?_
            refine zj_aload_n C dX8_ofHolder_77 0 rfl ?_
            refine zj_iload_n C dX8_ofHolder_78 1 rfl ?_
            refine zj_topi (nI h.toNatClampNeg) (zh_eq c_4) ?_
            refine zj_callV C (nn := 10) (ws' := (WM cy m S)) (st := []) (st1 := [.long (f_X8_bound S h.toNatClampNeg)]) 0 8 [0, 1, 2, 3, 4, 5, 6, 7, 8, 9] (c_X8_bound l D cy m h.toNatClampNeg S (zh_lt c_4) hc) (zg_V tg_780 tg_777 tg_779 tgp_22 tg_9) ⟨rfl, hdZ_X8_bound⟩ ⟨rfl, rfl⟩ ⟨by decide, by decide⟩ rfl rfl rfl (by decide) ⟨rfl, rfl⟩ rfl rfl (Nat.le_of_ble_eq_true rfl) dX8_ofHolder_79 rfl rfl ?_
            refine zj_l2i C dX8_ofHolder_82 ?_
            have e : f_X8_ofHolder S h wh = (((f_X8_bound S h.toNatClampNeg)).toInt32) := by refine (if_neg c_4).trans ?_; refine (if_neg c_10_0).trans ?_; refine (if_neg c_10_1).trans ?_; refine (if_neg c_10_2).trans ?_; refine (if_pos c_10_3).trans ?_; rfl
            rw [e] at hret
            exact hret _ _ dX8_ofHolder_83
          · skip
            by_cases c_10_4 : wh = nI 4
            · refine zj_topi (nI 4) c_10_4 ?_
              refine zj_tin C (off := 74) 84 dX8_ofHolder_10 (by decide) (by decide) rfl (by decide) ?_
              refine zj_aload_n C dX8_ofHolder_84 0 rfl ?_
              refine zj_iload_n C dX8_ofHolder_85 1 rfl ?_
              refine zj_topi (nI h.toNatClampNeg) (zh_eq c_4) ?_
              refine zj_iload_n C dX8_ofHolder_86 2 rfl ?_
              refine zj_topi (nI 4) c_10_4 ?_
              refine zj_iconst C (v := (nI 2)) dX8_ofHolder_87 (by decide) ?_
              refine zj_isub C dX8_ofHolder_88 ?_
              refine zj_topi (nI 2) (by decide) ?_
              refine zj_callV C (nn := 10) (ws' := (WM cy m S)) (st := []) (st1 := [.long (f_X8_of S h.toNatClampNeg 2)]) 0 8 [0, 1, 2, 3, 4, 5, 6, 7, 8, 9] (c_X8_of l D cy m h.toNatClampNeg 2 S (zh_lt c_4) (by decide)) (zg_V tg_776 tg_773 tg_775 tgp_21 tg_9) ⟨rfl, hdZ_X8_of⟩ ⟨rfl, rfl⟩ ⟨by decide, by decide⟩ rfl rfl rfl (by decide) ⟨rfl, rfl⟩ rfl rfl (Nat.le_of_ble_eq_true rfl) dX8_ofHolder_89 rfl rfl ?_
              refine zj_l2i C dX8_ofHolder_92 ?_
              have e : f_X8_ofHolder S h wh = (((f_X8_of S h.toNatClampNeg 2)).toInt32) := by refine (if_neg c_4).trans ?_; refine (if_neg c_10_0).trans ?_; refine (if_neg c_10_1).trans ?_; refine (if_neg c_10_2).trans ?_; refine (if_neg c_10_3).trans ?_; refine (if_pos c_10_4).trans ?_; rfl
              rw [e] at hret
              exact hret _ _ dX8_ofHolder_93
            · skip
              by_cases c_10_5 : wh = nI 5
              · refine zj_topi (nI 5) c_10_5 ?_
                refine zj_tin C (off := 74) 84 dX8_ofHolder_10 (by decide) (by decide) rfl (by decide) ?_
                refine zj_aload_n C dX8_ofHolder_84 0 rfl ?_
                refine zj_iload_n C dX8_ofHolder_85 1 rfl ?_
                refine zj_topi (nI h.toNatClampNeg) (zh_eq c_4) ?_
                refine zj_iload_n C dX8_ofHolder_86 2 rfl ?_
                refine zj_topi (nI 5) c_10_5 ?_
                refine zj_iconst C (v := (nI 2)) dX8_ofHolder_87 (by decide) ?_
                refine zj_isub C dX8_ofHolder_88 ?_
                refine zj_topi (nI 3) (by decide) ?_
                refine zj_callV C (nn := 10) (ws' := (WM cy m S)) (st := []) (st1 := [.long (f_X8_of S h.toNatClampNeg 3)]) 0 8 [0, 1, 2, 3, 4, 5, 6, 7, 8, 9] (c_X8_of l D cy m h.toNatClampNeg 3 S (zh_lt c_4) (by decide)) (zg_V tg_776 tg_773 tg_775 tgp_21 tg_9) ⟨rfl, hdZ_X8_of⟩ ⟨rfl, rfl⟩ ⟨by decide, by decide⟩ rfl rfl rfl (by decide) ⟨rfl, rfl⟩ rfl rfl (Nat.le_of_ble_eq_true rfl) dX8_ofHolder_89 rfl rfl ?_
                refine zj_l2i C dX8_ofHolder_92 ?_
                have e : f_X8_ofHolder S h wh = (((f_X8_of S h.toNatClampNeg 3)).toInt32) := by refine (if_neg c_4).trans ?_; refine (if_neg c_10_0).trans ?_; refine (if_neg c_10_1).trans ?_; refine (if_neg c_10_2).trans ?_; refine (if_neg c_10_3).trans ?_; refine (if_neg c_10_4).trans ?_; refine (if_pos c_10_5).trans ?_; rfl
                rw [e] at hret
                exact hret _ _ dX8_ofHolder_93
              · skip
                by_cases c_10_6 : wh = nI 6
                · refine zj_topi (nI 6) c_10_6 ?_
                  refine zj_tin C (off := 74) 84 dX8_ofHolder_10 (by decide) (by decide) rfl (by decide) ?_
                  refine zj_aload_n C dX8_ofHolder_84 0 rfl ?_
                  refine zj_iload_n C dX8_ofHolder_85 1 rfl ?_
                  refine zj_topi (nI h.toNatClampNeg) (zh_eq c_4) ?_
                  refine zj_iload_n C dX8_ofHolder_86 2 rfl ?_
                  refine zj_topi (nI 6) c_10_6 ?_
                  refine zj_iconst C (v := (nI 2)) dX8_ofHolder_87 (by decide) ?_
                  refine zj_isub C dX8_ofHolder_88 ?_
                  refine zj_topi (nI 4) (by decide) ?_
                  refine zj_callV C (nn := 10) (ws' := (WM cy m S)) (st := []) (st1 := [.long (f_X8_of S h.toNatClampNeg 4)]) 0 8 [0, 1, 2, 3, 4, 5, 6, 7, 8, 9] (c_X8_of l D cy m h.toNatClampNeg 4 S (zh_lt c_4) (by decide)) (zg_V tg_776 tg_773 tg_775 tgp_21 tg_9) ⟨rfl, hdZ_X8_of⟩ ⟨rfl, rfl⟩ ⟨by decide, by decide⟩ rfl rfl rfl (by decide) ⟨rfl, rfl⟩ rfl rfl (Nat.le_of_ble_eq_true rfl) dX8_ofHolder_89 rfl rfl ?_
                  refine zj_l2i C dX8_ofHolder_92 ?_
                  have e : f_X8_ofHolder S h wh = (((f_X8_of S h.toNatClampNeg 4)).toInt32) := by refine (if_neg c_4).trans ?_; refine (if_neg c_10_0).trans ?_; refine (if_neg c_10_1).trans ?_; refine (if_neg c_10_2).trans ?_; refine (if_neg c_10_3).trans ?_; refine (if_neg c_10_4).trans ?_; refine (if_neg c_10_5).trans ?_; refine (if_pos c_10_6).trans ?_; rfl
                  rw [e] at hret
                  exact hret _ _ dX8_ofHolder_93
                · skip
                  by_cases c_10_7 : wh = nI 7
                  · refine zj_topi (nI 7) c_10_7 ?_
                    refine zj_tin C (off := 74) 84 dX8_ofHolder_10 (by decide) (by decide) rfl (by decide) ?_
                    refine zj_aload_n C dX8_ofHolder_84 0 rfl ?_
                    refine zj_iload_n C dX8_ofHolder_85 1 rfl ?_
                    refine zj_topi (nI h.toNatClampNeg) (zh_eq c_4) ?_
                    refine zj_iload_n C dX8_ofHolder_86 2 rfl ?_
                    refine zj_topi (nI 7) c_10_7 ?_
                    refine zj_iconst C (v := (nI 2)) dX8_ofHolder_87 (by decide) ?_
                    refine zj_isub C dX8_ofHolder_88 ?_
                    refine zj_topi (nI 5) (by decide) ?_
                    refine zj_callV C (nn := 10) (ws' := (WM cy m S)) (st := []) (st1 := [.long (f_X8_of S h.toNatClampNeg 5)]) 0 8 [0, 1, 2, 3, 4, 5, 6, 7, 8, 9] (c_X8_of l D cy m h.toNatClampNeg 5 S (zh_lt c_4) (by decide)) (zg_V tg_776 tg_773 tg_775 tgp_21 tg_9) ⟨rfl, hdZ_X8_of⟩ ⟨rfl, rfl⟩ ⟨by decide, by decide⟩ rfl rfl rfl (by decide) ⟨rfl, rfl⟩ rfl rfl (Nat.le_of_ble_eq_true rfl) dX8_ofHolder_89 rfl rfl ?_
                    refine zj_l2i C dX8_ofHolder_92 ?_
                    have e : f_X8_ofHolder S h wh = (((f_X8_of S h.toNatClampNeg 5)).toInt32) := by refine (if_neg c_4).trans ?_; refine (if_neg c_10_0).trans ?_; refine (if_neg c_10_1).trans ?_; refine (if_neg c_10_2).trans ?_; refine (if_neg c_10_3).trans ?_; refine (if_neg c_10_4).trans ?_; refine (if_neg c_10_5).trans ?_; refine (if_neg c_10_6).trans ?_; refine (if_pos c_10_7).trans ?_; rfl
                    rw [e] at hret
                    exact hret _ _ dX8_ofHolder_93
                  · skip
                    by_cases c_10_8 : wh = nI 8
                    · refine zj_topi (nI 8) c_10_8 ?_
                      refine zj_tin C (off := 74) 84 dX8_ofHolder_10 (by decide) (by decide) rfl (by decide) ?_
                      refine zj_aload_n C dX8_ofHolder_84 0 rfl ?_
                      refine zj_iload_n C dX8_ofHolder_85 1 rfl ?_
                      refine zj_topi (nI h.toNatClampNeg) (zh_eq c_4) ?_
                      refine zj_iload_n C dX8_ofHolder_86 2 rfl ?_
                      refine zj_topi (nI 8) c_10_8 ?_
                      refine zj_iconst C (v := (nI 2)) dX8_ofHolder_87 (by decide) ?_
                      refine zj_isub C dX8_ofHolder_88 ?_
                      refine zj_topi (nI 6) (by decide) ?_
                      refine zj_callV C (nn := 10) (ws' := (WM cy m S)) (st := []) (st1 := [.long (f_X8_of S h.toNatClampNeg 6)]) 0 8 [0, 1, 2, 3, 4, 5, 6, 7, 8, 9] (c_X8_of l D cy m h.toNatClampNeg 6 S (zh_lt c_4) (by decide)) (zg_V tg_776 tg_773 tg_775 tgp_21 tg_9) ⟨rfl, hdZ_X8_of⟩ ⟨rfl, rfl⟩ ⟨by decide, by decide⟩ rfl rfl rfl (by decide) ⟨rfl, rfl⟩ rfl rfl (Nat.le_of_ble_eq_true rfl) dX8_ofHolder_89 rfl rfl ?_
                      refine zj_l2i C dX8_ofHolder_92 ?_
                      have e : f_X8_ofHolder S h wh = (((f_X8_of S h.toNatClampNeg 6)).toInt32) := by refine (if_neg c_4).trans ?_; refine (if_neg c_10_0).trans ?_; refine (if_neg c_10_1).trans ?_; refine (if_neg c_10_2).trans ?_; refine (if_neg c_10_3).trans ?_; refine (if_neg c_10_4).trans ?_; refine (if_neg c_10_5).trans ?_; refine (if_neg c_10_6).trans ?_; refine (if_neg c_10_7).trans ?_; refine (if_pos c_10_8).trans ?_; rfl
                      rw [e] at hret
                      exact hret _ _ dX8_ofHolder_93
                    · skip
                      refine zj_tout C 94 dX8_ofHolder_10 (zsw_out (x := wh) (n := 8) (by decide) (fun k hk => by rcases (show k = 0 ∨ k = 1 ∨ k = 2 ∨ k = 3 ∨ k = 4 ∨ k = 5 ∨ k = 6 ∨ k = 7 ∨ k = 8 by omega) with rfl | rfl | rfl | rfl | rfl | rfl | rfl | rfl | rfl <;> assumption)) (by decide) ?_
                      refine zj_bipush C (v := (-2)) dX8_ofHolder_94 (by decide) ?_
                      have e : f_X8_ofHolder S h wh = (-2) := by refine (if_neg c_4).trans ?_; refine (if_neg c_10_0).trans ?_; refine (if_neg c_10_1).trans ?_; refine (if_neg c_10_2).trans ?_; refine (if_neg c_10_3).trans ?_; refine (if_neg c_10_4).trans ?_; refine (if_neg c_10_5).trans ?_; refine (if_neg c_10_6).trans ?_; refine (if_neg c_10_7).trans ?_; refine (if_neg c_10_8).trans ?_; rfl
                      rw [e] at hret
                      exact hret _ _ dX8_ofHolder_96
  · have c_4 : (f_X8_isHolder h) = false := (zB_eq (Classical.not_not.mp c))
    refine zj_iconst C (v := (-1)) dX8_ofHolder_7 (by decide) ?_
    have e : f_X8_ofHolder S h wh = (-1) := by refine (if_pos c_4).trans ?_; rfl
    rw [e] at hret
    exact hret _ _ dX8_ofHolder_8

noncomputable def f_X8_count (S : zMs) (wh : Int32) : Int32 :=
  if wh = nI 0 then
    ((((gMs_at S) 5)).toInt32)
  else
    if wh = nI 1 then
      ((((gMs_at S) 6)).toInt32)
    else
      if wh = nI 2 then
        ((((gMs_at S) 7)).toInt32)
      else
        if wh = nI 3 then
          (((f_X8_value S)).toInt32)
        else
          if wh = nI 4 then
            (((f_X8_issue S)).toInt32)
          else
            if wh = nI 5 then
              (((f_X8_allNew S)).toInt32)
            else
              if wh = nI 6 then
                ((((gMs_at S) 8)).toInt32)
              else
                if wh = nI 7 then
                  ((((gMs_at S) 9)).toInt32)
                else
                  if wh = nI 8 then
                    ((((gMs_at S) 10)).toInt32)
                  else
                    if wh = nI 9 then
                      ((((gMs_at S) 61)).toInt32)
                    else
                      if wh = nI 10 then
                        ((((gMs_at S) 122)).toInt32)
                      else
                        if wh = nI 11 then
                          (((f_X8_sumOf S 122 (((gMs_at S) 10) + 1))).toInt32)
                        else
                          if wh = nI 12 then
                            ((((gMs_at S) 0)).toInt32)
                          else
                            if wh = nI 13 then
                              ((((gMs_at S) 1)).toInt32)
                            else
                              if wh = nI 14 then
                                ((((gMs_at S) 2)).toInt32)
                              else
                                if wh = nI 15 then
                                  ((((gMs_at S) 3)).toInt32)
                                else
                                  if wh = nI 16 then
                                    ((((gMs_at S) 4)).toInt32)
                                  else
                                    if wh = nI 17 then
                                      (nI (gMs_pdm S))
                                    else
                                      if wh = nI 18 then
                                        (nI (gMs_pm S))
                                      else
                                        (-2)
set_option maxHeartbeats 4000000 in
set_option maxRecDepth 100000 in
theorem c_X8_count (l : Launch) (D : va_G) (cy : Nat → ClassId) (m : Nat → Nat) (wh : Int32)  (S : zMs) (hc : zCk S 122) : zC l yX8_count (zW yX8_count cX8_count 2 (Option.some Jvm.ClassFile.FieldType.int)) { frames := 3, cells := 0, slots := 0, locals := 66 } D cy [.ref (m 0), .int wh] (WM cy m S) (some (.int (f_X8_count S wh))) (WM cy m S) := by
  refine zC_of rfl (Nat.le_of_ble_eq_true rfl) (zOk_i _) (fun E C hret => ?_)
  show zJ E 2 0 0 (WM cy m S) 0 [(0, .ref (m 0)), (1, .int wh)] []
  refine zj_iload_n C dX8_count_0 1 rfl ?_
  by_cases c_1_0 : wh = nI 0
  · refine zj_topi (nI 0) c_1_0 ?_
    refine zj_tin C (off := 91) 92 dX8_count_1 (by decide) (by decide) rfl (by decide) ?_
    refine zj_aload_n C dX8_count_92 0 rfl ?_
    refine zj_get C 0 8 0 (v := .ref (m 1)) inZ8 rfl rfl (by decide) tg_677 rfl dX8_count_93 ?_
    refine zj_iconst C (v := (nI 5)) dX8_count_96 (by decide) ?_
    refine zj_iload_n C dX8_count_97 1 rfl ?_
    refine zj_topi (nI 0) c_1_0 ?_
    refine zj_iadd C dX8_count_98 ?_
    refine zj_topi (nI 5) (by decide) ?_
    refine zj_lald C 1 (f := (gMs_at S)) 5 (by decide) (vp_in_nI (by decide) (by decide)) rfl dX8_count_99 ?_
    refine zj_l2i C dX8_count_100 ?_
    have e : f_X8_count S wh = ((((gMs_at S) 5)).toInt32) := by refine (if_pos c_1_0).trans ?_; rfl
    rw [e] at hret
    exact hret _ _ dX8_count_101
  · skip
    by_cases c_1_1 : wh = nI 1
    · refine zj_topi (nI 1) c_1_1 ?_
      refine zj_tin C (off := 91) 92 dX8_count_1 (by decide) (by decide) rfl (by decide) ?_
      refine zj_aload_n C dX8_count_92 0 rfl ?_
      refine zj_get C 0 8 0 (v := .ref (m 1)) inZ8 rfl rfl (by decide) tg_677 rfl dX8_count_93 ?_
      refine zj_iconst C (v := (nI 5)) dX8_count_96 (by decide) ?_
      refine zj_iload_n C dX8_count_97 1 rfl ?_
      refine zj_topi (nI 1) c_1_1 ?_
      refine zj_iadd C dX8_count_98 ?_
      refine zj_topi (nI 6) (by decide) ?_
      refine zj_lald C 1 (f := (gMs_at S)) 6 (by decide) (vp_in_nI (by decide) (by decide)) rfl dX8_count_99 ?_
      refine zj_l2i C dX8_count_100 ?_
      have e : f_X8_count S wh = ((((gMs_at S) 6)).toInt32) := by refine (if_neg c_1_0).trans ?_; refine (if_pos c_1_1).trans ?_; rfl
      rw [e] at hret
      exact hret _ _ dX8_count_101
    · skip
      by_cases c_1_2 : wh = nI 2
      · refine zj_topi (nI 2) c_1_2 ?_
        refine zj_tin C (off := 91) 92 dX8_count_1 (by decide) (by decide) rfl (by decide) ?_
        refine zj_aload_n C dX8_count_92 0 rfl ?_
        refine zj_get C 0 8 0 (v := .ref (m 1)) inZ8 rfl rfl (by decide) tg_677 rfl dX8_count_93 ?_
        refine zj_iconst C (v := (nI 5)) dX8_count_96 (by decide) ?_
        refine zj_iload_n C dX8_count_97 1 rfl ?_
        refine zj_topi (nI 2) c_1_2 ?_
        refine zj_iadd C dX8_count_98 ?_
        refine zj_topi (nI 7) (by decide) ?_
        refine zj_lald C 1 (f := (gMs_at S)) 7 (by decide) (vp_in_nI (by decide) (by decide)) rfl dX8_count_99 ?_
        refine zj_l2i C dX8_count_100 ?_
        have e : f_X8_count S wh = ((((gMs_at S) 7)).toInt32) := by refine (if_neg c_1_0).trans ?_; refine (if_neg c_1_1).trans ?_; refine (if_pos c_1_2).trans ?_; rfl
        rw [e] at hret
        exact hret _ _ dX8_count_101
      · skip
        by_cases c_1_3 : wh = nI 3
        · refine zj_topi (nI 3) c_1_3 ?_
          refine zj_tin C (off := 101) 102 dX8_count_1 (by decide) (by decide) rfl (by decide) ?_
          refine zj_aload_n C dX8_count_102 0 rfl ?_
          refine zj_callV C (nn := 10) (ws' := (WM cy m S)) (st := []) (st1 := [.long (f_X8_value S)]) 0 8 [0, 1, 2, 3, 4, 5, 6, 7, 8, 9] (c_X8_value l D cy m  S ) (zg_V tg_833 tg_830 tg_832 tgp_33 tg_9) ⟨rfl, hdZ_X8_value⟩ ⟨rfl, rfl⟩ ⟨by decide, by decide⟩ rfl rfl rfl (by decide) ⟨rfl, rfl⟩ rfl rfl (Nat.le_of_ble_eq_true rfl) dX8_count_103 rfl rfl ?_
          refine zj_l2i C dX8_count_106 ?_
          have e : f_X8_count S wh = (((f_X8_value S)).toInt32) := by refine (if_neg c_1_0).trans ?_; refine (if_neg c_1_1).trans ?_; refine (if_neg c_1_2).trans ?_; refine (if_pos c_1_3).trans ?_; rfl
          rw [e] at hret
          exact hret _ _ dX8_count_107
        · skip
          by_cases c_1_4 : wh = nI 4
          · refine zj_topi (nI 4) c_1_4 ?_
            refine zj_tin C (off := 107) 108 dX8_count_1 (by decide) (by decide) rfl (by decide) ?_
            refine zj_aload_n C dX8_count_108 0 rfl ?_
            refine zj_callV C (nn := 10) (ws' := (WM cy m S)) (st := []) (st1 := [.long (f_X8_issue S)]) 0 8 [0, 1, 2, 3, 4, 5, 6, 7, 8, 9] (c_X8_issue l D cy m  S ) (zg_V tg_788 tg_785 tg_787 tgp_23 tg_9) ⟨rfl, hdZ_X8_issue⟩ ⟨rfl, rfl⟩ ⟨by decide, by decide⟩ rfl rfl rfl (by decide) ⟨rfl, rfl⟩ rfl rfl (Nat.le_of_ble_eq_true rfl) dX8_count_109 rfl rfl ?_
            refine zj_l2i C dX8_count_112 ?_
            have e : f_X8_count S wh = (((f_X8_issue S)).toInt32) := by refine (if_neg c_1_0).trans ?_; refine (if_neg c_1_1).trans ?_; refine (if_neg c_1_2).trans ?_; refine (if_neg c_1_3).trans ?_; refine (if_pos c_1_4).trans ?_; rfl
            rw [e] at hret
            exact hret _ _ dX8_count_113
          · skip
            by_cases c_1_5 : wh = nI 5
            · refine zj_topi (nI 5) c_1_5 ?_
              refine zj_tin C (off := 113) 114 dX8_count_1 (by decide) (by decide) rfl (by decide) ?_
              refine zj_aload_n C dX8_count_114 0 rfl ?_
              refine zj_callV C (nn := 10) (ws' := (WM cy m S)) (st := []) (st1 := [.long (f_X8_allNew S)]) 0 8 [0, 1, 2, 3, 4, 5, 6, 7, 8, 9] (c_X8_allNew l D cy m  S ) (zg_V tg_800 tg_797 tg_799 tgp_26 tg_9) ⟨rfl, hdZ_X8_allNew⟩ ⟨rfl, rfl⟩ ⟨by decide, by decide⟩ rfl rfl rfl (by decide) ⟨rfl, rfl⟩ rfl rfl (Nat.le_of_ble_eq_true rfl) dX8_count_115 rfl rfl ?_
              refine zj_l2i C dX8_count_118 ?_
              have e : f_X8_count S wh = (((f_X8_allNew S)).toInt32) := by refine (if_neg c_1_0).trans ?_; refine (if_neg c_1_1).trans ?_; refine (if_neg c_1_2).trans ?_; refine (if_neg c_1_3).trans ?_; refine (if_neg c_1_4).trans ?_; refine (if_pos c_1_5).trans ?_; rfl
              rw [e] at hret
              exact hret _ _ dX8_count_119
            · skip
              by_cases c_1_6 : wh = nI 6
              · refine zj_topi (nI 6) c_1_6 ?_
                refine zj_tin C (off := 119) 120 dX8_count_1 (by decide) (by decide) rfl (by decide) ?_
                refine zj_aload_n C dX8_count_120 0 rfl ?_
                refine zj_get C 0 8 0 (v := .ref (m 1)) inZ8 rfl rfl (by decide) tg_677 rfl dX8_count_121 ?_
                refine zj_bipush C (v := (nI 8)) dX8_count_124 (by decide) ?_
                refine zj_iload_n C dX8_count_126 1 rfl ?_
                refine zj_topi (nI 6) c_1_6 ?_
                refine zj_iadd C dX8_count_127 ?_
                refine zj_topi (nI 14) (by decide) ?_
                refine zj_bipush C (v := (nI 6)) dX8_count_128 (by decide) ?_
                refine zj_isub C dX8_count_130 ?_
                refine zj_topi (nI 8) (by decide) ?_
                refine zj_lald C 1 (f := (gMs_at S)) 8 (by decide) (vp_in_nI (by decide) (by decide)) rfl dX8_count_131 ?_
                refine zj_l2i C dX8_count_132 ?_
                have e : f_X8_count S wh = ((((gMs_at S) 8)).toInt32) := by refine (if_neg c_1_0).trans ?_; refine (if_neg c_1_1).trans ?_; refine (if_neg c_1_2).trans ?_; refine (if_neg c_1_3).trans ?_; refine (if_neg c_1_4).trans ?_; refine (if_neg c_1_5).trans ?_; refine (if_pos c_1_6).trans ?_; rfl
                rw [e] at hret
                exact hret _ _ dX8_count_133
              · skip
                by_cases c_1_7 : wh = nI 7
                · refine zj_topi (nI 7) c_1_7 ?_
                  refine zj_tin C (off := 119) 120 dX8_count_1 (by decide) (by decide) rfl (by decide) ?_
                  refine zj_aload_n C dX8_count_120 0 rfl ?_
                  refine zj_get C 0 8 0 (v := .ref (m 1)) inZ8 rfl rfl (by decide) tg_677 rfl dX8_count_121 ?_
                  refine zj_bipush C (v := (nI 8)) dX8_count_124 (by decide) ?_
                  refine zj_iload_n C dX8_count_126 1 rfl ?_
                  refine zj_topi (nI 7) c_1_7 ?_
                  refine zj_iadd C dX8_count_127 ?_
                  refine zj_topi (nI 15) (by decide) ?_
                  refine zj_bipush C (v := (nI 6)) dX8_count_128 (by decide) ?_
                  refine zj_isub C dX8_count_130 ?_
                  refine zj_topi (nI 9) (by decide) ?_
                  refine zj_lald C 1 (f := (gMs_at S)) 9 (by decide) (vp_in_nI (by decide) (by decide)) rfl dX8_count_131 ?_
                  refine zj_l2i C dX8_count_132 ?_
                  have e : f_X8_count S wh = ((((gMs_at S) 9)).toInt32) := by refine (if_neg c_1_0).trans ?_; refine (if_neg c_1_1).trans ?_; refine (if_neg c_1_2).trans ?_; refine (if_neg c_1_3).trans ?_; refine (if_neg c_1_4).trans ?_; refine (if_neg c_1_5).trans ?_; refine (if_neg c_1_6).trans ?_; refine (if_pos c_1_7).trans ?_; rfl
                  rw [e] at hret
                  exact hret _ _ dX8_count_133
                · skip
                  by_cases c_1_8 : wh = nI 8
                  · refine zj_topi (nI 8) c_1_8 ?_
                    refine zj_tin C (off := 119) 120 dX8_count_1 (by decide) (by decide) rfl (by decide) ?_
                    refine zj_aload_n C dX8_count_120 0 rfl ?_
                    refine zj_get C 0 8 0 (v := .ref (m 1)) inZ8 rfl rfl (by decide) tg_677 rfl dX8_count_121 ?_
                    refine zj_bipush C (v := (nI 8)) dX8_count_124 (by decide) ?_
                    refine zj_iload_n C dX8_count_126 1 rfl ?_
                    refine zj_topi (nI 8) c_1_8 ?_
                    refine zj_iadd C dX8_count_127 ?_
                    refine zj_topi (nI 16) (by decide) ?_
                    refine zj_bipush C (v := (nI 6)) dX8_count_128 (by decide) ?_
                    refine zj_isub C dX8_count_130 ?_
                    refine zj_topi (nI 10) (by decide) ?_
                    refine zj_lald C 1 (f := (gMs_at S)) 10 (by decide) (vp_in_nI (by decide) (by decide)) rfl dX8_count_131 ?_
                    refine zj_l2i C dX8_count_132 ?_
                    have e : f_X8_count S wh = ((((gMs_at S) 10)).toInt32) := by refine (if_neg c_1_0).trans ?_; refine (if_neg c_1_1).trans ?_; refine (if_neg c_1_2).trans ?_; refine (if_neg c_1_3).trans ?_; refine (if_neg c_1_4).trans ?_; refine (if_neg c_1_5).trans ?_; refine (if_neg c_1_6).trans ?_; refine (if_neg c_1_7).trans ?_; refine (if_pos c_1_8).trans ?_; rfl
                    rw [e] at hret
                    exact hret _ _ dX8_count_133
                  · skip
                    by_cases c_1_9 : wh = nI 9
                    · refine zj_topi (nI 9) c_1_9 ?_
                      refine zj_tin C (off := 133) 134 dX8_count_1 (by decide) (by decide) rfl (by decide) ?_
                      refine zj_aload_n C dX8_count_134 0 rfl ?_
                      refine zj_get C 0 8 0 (v := .ref (m 1)) inZ8 rfl rfl (by decide) tg_677 rfl dX8_count_135 ?_
                      refine zj_bipush C (v := (nI 61)) dX8_count_138 (by decide) ?_
                      refine zj_lald C 1 (f := (gMs_at S)) 61 (by decide) (vp_in_nI (by decide) (by decide)) rfl dX8_count_140 ?_
                      refine zj_l2i C dX8_count_141 ?_
                      have e : f_X8_count S wh = ((((gMs_at S) 61)).toInt32) := by refine (if_neg c_1_0).trans ?_; refine (if_neg c_1_1).trans ?_; refine (if_neg c_1_2).trans ?_; refine (if_neg c_1_3).trans ?_; refine (if_neg c_1_4).trans ?_; refine (if_neg c_1_5).trans ?_; refine (if_neg c_1_6).trans ?_; refine (if_neg c_1_7).trans ?_; refine (if_neg c_1_8).trans ?_; refine (if_pos c_1_9).trans ?_; rfl
                      rw [e] at hret
                      exact hret _ _ dX8_count_142
                    · skip
                      by_cases c_1_10 : wh = nI 10
                      · refine zj_topi (nI 10) c_1_10 ?_
                        refine zj_tin C (off := 142) 143 dX8_count_1 (by decide) (by decide) rfl (by decide) ?_
                        refine zj_aload_n C dX8_count_143 0 rfl ?_
                        refine zj_get C 0 8 0 (v := .ref (m 1)) inZ8 rfl rfl (by decide) tg_677 rfl dX8_count_144 ?_
                        refine zj_bipush C (v := (nI 122)) dX8_count_147 (by decide) ?_
                        refine zj_lald C 1 (f := (gMs_at S)) 122 (by decide) (vp_in_nI (by decide) (by decide)) rfl dX8_count_149 ?_
                        refine zj_l2i C dX8_count_150 ?_
                        have e : f_X8_count S wh = ((((gMs_at S) 122)).toInt32) := by refine (if_neg c_1_0).trans ?_; refine (if_neg c_1_1).trans ?_; refine (if_neg c_1_2).trans ?_; refine (if_neg c_1_3).trans ?_; refine (if_neg c_1_4).trans ?_; refine (if_neg c_1_5).trans ?_; refine (if_neg c_1_6).trans ?_; refine (if_neg c_1_7).trans ?_; refine (if_neg c_1_8).trans ?_; refine (if_neg c_1_9).trans ?_; refine (if_pos c_1_10).trans ?_; rfl
                        rw [e] at hret
                        exact hret _ _ dX8_count_151
                      · skip
                        by_cases c_1_11 : wh = nI 11
                        · refine zj_topi (nI 11) c_1_11 ?_
                          refine zj_tin C (off := 151) 152 dX8_count_1 (by decide) (by decide) rfl (by decide) ?_
                          refine zj_aload_n C dX8_count_152 0 rfl ?_
                          refine zj_bipush C (v := (nI 122)) dX8_count_153 (by decide) ?_
                          refine zj_aload_n C dX8_count_155 0 rfl ?_
                          refine zj_get C 0 8 0 (v := .ref (m 1)) inZ8 rfl rfl (by decide) tg_677 rfl dX8_count_156 ?_
                          refine zj_bipush C (v := (nI 10)) dX8_count_159 (by decide) ?_
                          refine zj_lald C 1 (f := (gMs_at S)) 10 (by decide) (vp_in_nI (by decide) (by decide)) rfl dX8_count_161 ?_
                          refine zj_lconst C (v := 1) dX8_count_162 (by decide) ?_
                          refine zj_ladd C dX8_count_163 ?_
                          refine zj_callV C (nn := 10) (ws' := (WM cy m S)) (st := []) (st1 := [.long (f_X8_sumOf S 122 (((gMs_at S) 10) + 1))]) 0 8 [0, 1, 2, 3, 4, 5, 6, 7, 8, 9] (c_X8_sumOf l D cy m 122 (((gMs_at S) 10) + 1) S (by decide) hc) (zg_V tg_841 tg_838 tg_840 tgp_35 tg_9) ⟨rfl, hdZ_X8_sumOf⟩ ⟨rfl, rfl⟩ ⟨by decide, by decide⟩ rfl rfl rfl (by decide) ⟨rfl, rfl⟩ rfl rfl (Nat.le_of_ble_eq_true rfl) dX8_count_164 rfl rfl ?_
                          refine zj_l2i C dX8_count_167 ?_
                          have e : f_X8_count S wh = (((f_X8_sumOf S 122 (((gMs_at S) 10) + 1))).toInt32) := by refine (if_neg c_1_0).trans ?_; refine (if_neg c_1_1).trans ?_; refine (if_neg c_1_2).trans ?_; refine (if_neg c_1_3).trans ?_; refine (if_neg c_1_4).trans ?_; refine (if_neg c_1_5).trans ?_; refine (if_neg c_1_6).trans ?_; refine (if_neg c_1_7).trans ?_; refine (if_neg c_1_8).trans ?_; refine (if_neg c_1_9).trans ?_; refine (if_neg c_1_10).trans ?_; refine (if_pos c_1_11).trans ?_; rfl
                          rw [e] at hret
                          exact hret _ _ dX8_count_168
                        · skip
                          by_cases c_1_12 : wh = nI 12
                          · refine zj_topi (nI 12) c_1_12 ?_
                            refine zj_tin C (off := 168) 169 dX8_count_1 (by decide) (by decide) rfl (by decide) ?_
                            refine zj_aload_n C dX8_count_169 0 rfl ?_
                            refine zj_get C 0 8 0 (v := .ref (m 1)) inZ8 rfl rfl (by decide) tg_677 rfl dX8_count_170 ?_
                            refine zj_iload_n C dX8_count_173 1 rfl ?_
                            refine zj_topi (nI 12) c_1_12 ?_
                            refine zj_bipush C (v := (nI 12)) dX8_count_174 (by decide) ?_
                            refine zj_isub C dX8_count_176 ?_
                            refine zj_topi (nI 0) (by decide) ?_
                            refine zj_lald C 1 (f := (gMs_at S)) 0 (by decide) (vp_in_nI (by decide) (by decide)) rfl dX8_count_177 ?_
                            refine zj_l2i C dX8_count_178 ?_
                            have e : f_X8_count S wh = ((((gMs_at S) 0)).toInt32) := by refine (if_neg c_1_0).trans ?_; refine (if_neg c_1_1).trans ?_; refine (if_neg c_1_2).trans ?_; refine (if_neg c_1_3).trans ?_; refine (if_neg c_1_4).trans ?_; refine (if_neg c_1_5).trans ?_; refine (if_neg c_1_6).trans ?_; refine (if_neg c_1_7).trans ?_; refine (if_neg c_1_8).trans ?_; refine (if_neg c_1_9).trans ?_; refine (if_neg c_1_10).trans ?_; refine (if_neg c_1_11).trans ?_; refine (if_pos c_1_12).trans ?_; rfl
                            rw [e] at hret
                            exact hret _ _ dX8_count_179
                          · skip
                            by_cases c_1_13 : wh = nI 13
                            · refine zj_topi (nI 13) c_1_13 ?_
                              refine zj_tin C (off := 168) 169 dX8_count_1 (by decide) (by decide) rfl (by decide) ?_
                              refine zj_aload_n C dX8_count_169 0 rfl ?_
                              refine zj_get C 0 8 0 (v := .ref (m 1)) inZ8 rfl rfl (by decide) tg_677 rfl dX8_count_170 ?_
                              refine zj_iload_n C dX8_count_173 1 rfl ?_
                              refine zj_topi (nI 13) c_1_13 ?_
                              refine zj_bipush C (v := (nI 12)) dX8_count_174 (by decide) ?_
                              refine zj_isub C dX8_count_176 ?_
                              refine zj_topi (nI 1) (by decide) ?_
                              refine zj_lald C 1 (f := (gMs_at S)) 1 (by decide) (vp_in_nI (by decide) (by decide)) rfl dX8_count_177 ?_
                              refine zj_l2i C dX8_count_178 ?_
                              have e : f_X8_count S wh = ((((gMs_at S) 1)).toInt32) := by refine (if_neg c_1_0).trans ?_; refine (if_neg c_1_1).trans ?_; refine (if_neg c_1_2).trans ?_; refine (if_neg c_1_3).trans ?_; refine (if_neg c_1_4).trans ?_; refine (if_neg c_1_5).trans ?_; refine (if_neg c_1_6).trans ?_; refine (if_neg c_1_7).trans ?_; refine (if_neg c_1_8).trans ?_; refine (if_neg c_1_9).trans ?_; refine (if_neg c_1_10).trans ?_; refine (if_neg c_1_11).trans ?_; refine (if_neg c_1_12).trans ?_; refine (if_pos c_1_13).trans ?_; rfl
                              rw [e] at hret
                              exact hret _ _ dX8_count_179
                            · skip
                              by_cases c_1_14 : wh = nI 14
                              · refine zj_topi (nI 14) c_1_14 ?_
                                refine zj_tin C (off := 168) 169 dX8_count_1 (by decide) (by decide) rfl (by decide) ?_
                                refine zj_aload_n C dX8_count_169 0 rfl ?_
                                refine zj_get C 0 8 0 (v := .ref (m 1)) inZ8 rfl rfl (by decide) tg_677 rfl dX8_count_170 ?_
                                refine zj_iload_n C dX8_count_173 1 rfl ?_
                                refine zj_topi (nI 14) c_1_14 ?_
                                refine zj_bipush C (v := (nI 12)) dX8_count_174 (by decide) ?_
                                refine zj_isub C dX8_count_176 ?_
                                refine zj_topi (nI 2) (by decide) ?_
                                refine zj_lald C 1 (f := (gMs_at S)) 2 (by decide) (vp_in_nI (by decide) (by decide)) rfl dX8_count_177 ?_
                                refine zj_l2i C dX8_count_178 ?_
                                have e : f_X8_count S wh = ((((gMs_at S) 2)).toInt32) := by refine (if_neg c_1_0).trans ?_; refine (if_neg c_1_1).trans ?_; refine (if_neg c_1_2).trans ?_; refine (if_neg c_1_3).trans ?_; refine (if_neg c_1_4).trans ?_; refine (if_neg c_1_5).trans ?_; refine (if_neg c_1_6).trans ?_; refine (if_neg c_1_7).trans ?_; refine (if_neg c_1_8).trans ?_; refine (if_neg c_1_9).trans ?_; refine (if_neg c_1_10).trans ?_; refine (if_neg c_1_11).trans ?_; refine (if_neg c_1_12).trans ?_; refine (if_neg c_1_13).trans ?_; refine (if_pos c_1_14).trans ?_; rfl
                                rw [e] at hret
                                exact hret _ _ dX8_count_179
                              · skip
                                by_cases c_1_15 : wh = nI 15
                                · refine zj_topi (nI 15) c_1_15 ?_
                                  refine zj_tin C (off := 168) 169 dX8_count_1 (by decide) (by decide) rfl (by decide) ?_
                                  refine zj_aload_n C dX8_count_169 0 rfl ?_
                                  refine zj_get C 0 8 0 (v := .ref (m 1)) inZ8 rfl rfl (by decide) tg_677 rfl dX8_count_170 ?_
                                  refine zj_iload_n C dX8_count_173 1 rfl ?_
                                  refine zj_topi (nI 15) c_1_15 ?_
                                  refine zj_bipush C (v := (nI 12)) dX8_count_174 (by decide) ?_
                                  refine zj_isub C dX8_count_176 ?_
                                  refine zj_topi (nI 3) (by decide) ?_
                                  refine zj_lald C 1 (f := (gMs_at S)) 3 (by decide) (vp_in_nI (by decide) (by decide)) rfl dX8_count_177 ?_
                                  refine zj_l2i C dX8_count_178 ?_
                                  have e : f_X8_count S wh = ((((gMs_at S) 3)).toInt32) := by refine (if_neg c_1_0).trans ?_; refine (if_neg c_1_1).trans ?_; refine (if_neg c_1_2).trans ?_; refine (if_neg c_1_3).trans ?_; refine (if_neg c_1_4).trans ?_; refine (if_neg c_1_5).trans ?_; refine (if_neg c_1_6).trans ?_; refine (if_neg c_1_7).trans ?_; refine (if_neg c_1_8).trans ?_; refine (if_neg c_1_9).trans ?_; refine (if_neg c_1_10).trans ?_; refine (if_neg c_1_11).trans ?_; refine (if_neg c_1_12).trans ?_; refine (if_neg c_1_13).trans ?_; refine (if_neg c_1_14).trans ?_; refine (if_pos c_1_15).trans ?_; rfl
                                  rw [e] at hret
                                  exact hret _ _ dX8_count_179
                                · skip
                                  by_cases c_1_16 : wh = nI 16
                                  · refine zj_topi (nI 16) c_1_16 ?_
                                    refine zj_tin C (off := 168) 169 dX8_count_1 (by decide) (by decide) rfl (by decide) ?_
                                    refine zj_aload_n C dX8_count_169 0 rfl ?_
                                    refine zj_get C 0 8 0 (v := .ref (m 1)) inZ8 rfl rfl (by decide) tg_677 rfl dX8_count_170 ?_
                                    refine zj_iload_n C dX8_count_173 1 rfl ?_
                                    refine zj_topi (nI 16) c_1_16 ?_
                                    refine zj_bipush C (v := (nI 12)) dX8_count_174 (by decide) ?_
                                    refine zj_isub C dX8_count_176 ?_
                                    refine zj_topi (nI 4) (by decide) ?_
                                    refine zj_lald C 1 (f := (gMs_at S)) 4 (by decide) (vp_in_nI (by decide) (by decide)) rfl dX8_count_177 ?_
                                    refine zj_l2i C dX8_count_178 ?_
                                    have e : f_X8_count S wh = ((((gMs_at S) 4)).toInt32) := by refine (if_neg c_1_0).trans ?_; refine (if_neg c_1_1).trans ?_; refine (if_neg c_1_2).trans ?_; refine (if_neg c_1_3).trans ?_; refine (if_neg c_1_4).trans ?_; refine (if_neg c_1_5).trans ?_; refine (if_neg c_1_6).trans ?_; refine (if_neg c_1_7).trans ?_; refine (if_neg c_1_8).trans ?_; refine (if_neg c_1_9).trans ?_; refine (if_neg c_1_10).trans ?_; refine (if_neg c_1_11).trans ?_; refine (if_neg c_1_12).trans ?_; refine (if_neg c_1_13).trans ?_; refine (if_neg c_1_14).trans ?_; refine (if_neg c_1_15).trans ?_; refine (if_pos c_1_16).trans ?_; rfl
                                    rw [e] at hret
                                    exact hret _ _ dX8_count_179
                                  · skip
                                    by_cases c_1_17 : wh = nI 17
                                    · refine zj_topi (nI 17) c_1_17 ?_
                                      refine zj_tin C (off := 179) 180 dX8_count_1 (by decide) (by decide) rfl (by decide) ?_
                                      refine zj_aload_n C dX8_count_180 0 rfl ?_
                                      refine zj_get C 0 8 9 (v := .int (nI (gMs_pdm S))) inZ8 rfl rfl (by decide) tg_686 rfl dX8_count_181 ?_
                                      have e : f_X8_count S wh = (nI (gMs_pdm S)) := by refine (if_neg c_1_0).trans ?_; refine (if_neg c_1_1).trans ?_; refine (if_neg c_1_2).trans ?_; refine (if_neg c_1_3).trans ?_; refine (if_neg c_1_4).trans ?_; refine (if_neg c_1_5).trans ?_; refine (if_neg c_1_6).trans ?_; refine (if_neg c_1_7).trans ?_; refine (if_neg c_1_8).trans ?_; refine (if_neg c_1_9).trans ?_; refine (if_neg c_1_10).trans ?_; refine (if_neg c_1_11).trans ?_; refine (if_neg c_1_12).trans ?_; refine (if_neg c_1_13).trans ?_; refine (if_neg c_1_14).trans ?_; refine (if_neg c_1_15).trans ?_; refine (if_neg c_1_16).trans ?_; refine (if_pos c_1_17).trans ?_; rfl
                                      rw [e] at hret
                                      exact hret _ _ dX8_count_184
                                    · skip
                                      by_cases c_1_18 : wh = nI 18
                                      · refine zj_topi (nI 18) c_1_18 ?_
                                        refine zj_tin C (off := 184) 185 dX8_count_1 (by decide) (by decide) rfl (by decide) ?_
                                        refine zj_aload_n C dX8_count_185 0 rfl ?_
                                        refine zj_get C 0 8 3 (v := .int (nI (gMs_pm S))) inZ8 rfl rfl (by decide) tg_680 rfl dX8_count_186 ?_
                                        have e : f_X8_count S wh = (nI (gMs_pm S)) := by refine (if_neg c_1_0).trans ?_; refine (if_neg c_1_1).trans ?_; refine (if_neg c_1_2).trans ?_; refine (if_neg c_1_3).trans ?_; refine (if_neg c_1_4).trans ?_; refine (if_neg c_1_5).trans ?_; refine (if_neg c_1_6).trans ?_; refine (if_neg c_1_7).trans ?_; refine (if_neg c_1_8).trans ?_; refine (if_neg c_1_9).trans ?_; refine (if_neg c_1_10).trans ?_; refine (if_neg c_1_11).trans ?_; refine (if_neg c_1_12).trans ?_; refine (if_neg c_1_13).trans ?_; refine (if_neg c_1_14).trans ?_; refine (if_neg c_1_15).trans ?_; refine (if_neg c_1_16).trans ?_; refine (if_neg c_1_17).trans ?_; refine (if_pos c_1_18).trans ?_; rfl
                                        rw [e] at hret
                                        exact hret _ _ dX8_count_189
                                      · skip
                                        refine zj_tout C 190 dX8_count_1 (zsw_out (x := wh) (n := 18) (by decide) (fun k hk => by rcases (show k = 0 ∨ k = 1 ∨ k = 2 ∨ k = 3 ∨ k = 4 ∨ k = 5 ∨ k = 6 ∨ k = 7 ∨ k = 8 ∨ k = 9 ∨ k = 10 ∨ k = 11 ∨ k = 12 ∨ k = 13 ∨ k = 14 ∨ k = 15 ∨ k = 16 ∨ k = 17 ∨ k = 18 by omega) with rfl | rfl | rfl | rfl | rfl | rfl | rfl | rfl | rfl | rfl | rfl | rfl | rfl | rfl | rfl | rfl | rfl | rfl | rfl <;> assumption)) (by decide) ?_
                                        refine zj_bipush C (v := (-2)) dX8_count_190 (by decide) ?_
                                        have e : f_X8_count S wh = (-2) := by refine (if_neg c_1_0).trans ?_; refine (if_neg c_1_1).trans ?_; refine (if_neg c_1_2).trans ?_; refine (if_neg c_1_3).trans ?_; refine (if_neg c_1_4).trans ?_; refine (if_neg c_1_5).trans ?_; refine (if_neg c_1_6).trans ?_; refine (if_neg c_1_7).trans ?_; refine (if_neg c_1_8).trans ?_; refine (if_neg c_1_9).trans ?_; refine (if_neg c_1_10).trans ?_; refine (if_neg c_1_11).trans ?_; refine (if_neg c_1_12).trans ?_; refine (if_neg c_1_13).trans ?_; refine (if_neg c_1_14).trans ?_; refine (if_neg c_1_15).trans ?_; refine (if_neg c_1_16).trans ?_; refine (if_neg c_1_17).trans ?_; refine (if_neg c_1_18).trans ?_; rfl
                                        rw [e] at hret
                                        exact hret _ _ dX8_count_192

noncomputable def f_X8_order (S : zMs) (kd : Int32) (o : Int32) (wh : Int32) : Int32 :=
  if (f_X8_in (kd.toInt64) 0 1) = false then
    (-2)
  else
    if (f_X8_in (wh.toInt64) 0 2) = false then
      (-2)
    else
      let x26_0 : Nat := (if kd = 0 then 61 else 122)
      let x53_0 : Int32 := (if (f_X8_in (o.toInt64) 0 (((gMs_at S) x26_0) - 1)) = false then (-1) else (((f_X8_ofOrder S x26_0 o.toNatClampNeg wh.toNatClampNeg)).toInt32))
      x53_0
set_option maxHeartbeats 4000000 in
set_option maxRecDepth 100000 in
theorem c_X8_order (l : Launch) (D : va_G) (cy : Nat → ClassId) (m : Nat → Nat) (kd : Int32) (o : Int32) (wh : Int32)  (S : zMs) (hb : zCk S 61) (hc : zCk S 122) : zC l yX8_order (zW yX8_order cX8_order 5 (Option.some Jvm.ClassFile.FieldType.int)) { frames := 1, cells := 0, slots := 0, locals := 25 } D cy [.ref (m 0), .int kd, .int o, .int wh] (WM cy m S) (some (.int (f_X8_order S kd o wh))) (WM cy m S) := by
  refine zC_of rfl (Nat.le_of_ble_eq_true rfl) (zOk_i _) (fun E C hret => ?_)
  show zJ E 5 0 0 (WM cy m S) 0 [(0, .ref (m 0)), (1, .int kd), (2, .int o), (3, .int wh)] []
  refine zj_iload_n C dX8_order_0 1 rfl ?_
  refine zj_i2l C dX8_order_1 ?_
  refine zj_lconst C (v := 0) dX8_order_2 (by decide) ?_
  refine zj_lconst C (v := 1) dX8_order_3 (by decide) ?_
  refine zj_callS C (nn := 0) (ws' := (WM cy m S)) (st := []) (st1 := [.int (zB (f_X8_in (kd.toInt64) 0 1))]) [] (c_X8_in l D cy (kd.toInt64) 0 1  ) tg_730 tg_728 tg_729 tg_9 hdZ_X8_in ⟨rfl, rfl⟩ ⟨by decide, by decide⟩ rfl (by decide) ⟨rfl, rfl⟩ rfl rfl (Nat.le_of_ble_eq_true rfl) dX8_order_4 rfl rfl ?_
  refine zj_if_eq C 22 dX8_order_7 (by decide) (fun c => ?_) (fun c => ?_)
  · have c_7 : (f_X8_in (kd.toInt64) 0 1) = false := (zB_eq c)
    refine zj_bipush C (v := (-2)) dX8_order_22 (by decide) ?_
    have e : f_X8_order S kd o wh = (-2) := by refine (if_pos c_7).trans ?_; rfl
    rw [e] at hret
    exact hret _ _ dX8_order_24
  · have c_7 : ¬ ((f_X8_in (kd.toInt64) 0 1) = false) := (zB_neq c)
    refine zj_iload_n C dX8_order_10 3 rfl ?_
    refine zj_i2l C dX8_order_11 ?_
    refine zj_lconst C (v := 0) dX8_order_12 (by decide) ?_
    refine zj_ldc2 C dX8_order_13 tg_923 ?_
    refine zj_callS C (nn := 0) (ws' := (WM cy m S)) (st := []) (st1 := [.int (zB (f_X8_in (wh.toInt64) 0 2))]) [] (c_X8_in l D cy (wh.toInt64) 0 2  ) tg_730 tg_728 tg_729 tg_9 hdZ_X8_in ⟨rfl, rfl⟩ ⟨by decide, by decide⟩ rfl (by decide) ⟨rfl, rfl⟩ rfl rfl (Nat.le_of_ble_eq_true rfl) dX8_order_16 rfl rfl ?_
    refine zj_if_ne C 25 dX8_order_19 (by decide) (fun c => ?_) (fun c => ?_)
    · have c_19 : ¬ ((f_X8_in (wh.toInt64) 0 2) = false) := (zB_neq c)
      refine zj_iload_n C dX8_order_25 1 rfl ?_
      have J_26 : ∀ (x26_0 : Nat), x26_0 = (if kd = 0 then 61 else 122) → zJ E 5 0 0 (WM cy m S) 36 [(0, .ref (m 0)), (1, .int kd), (2, .int o), (3, .int wh)] [.int (nI x26_0)] := by
        intro x26_0 hx26_0
        have hx : x26_0 = 61 ∨ x26_0 = 122 := by rw [hx26_0]; split; exact Or.inl rfl; exact Or.inr rfl
        have hcx : zCk S x26_0 := by rcases hx with q | q; rw [q]; exact hb; rw [q]; exact hc
        have hcx2 := hcx.2
        refine zj_istore C (L' := [(4, .int (nI x26_0)), (0, .ref (m 0)), (1, .int kd), (2, .int o), (3, .int wh)]) dX8_order_36 (by decide) rfl ?_
        refine zj_iload_n C dX8_order_38 3 rfl ?_
        refine zj_i2l C dX8_order_39 ?_
        refine zj_lconst C (v := 0) dX8_order_40 (by decide) ?_
        refine zj_aload_n C dX8_order_41 1 rfl ?_
        refine zj_get C 0 8 0 (v := .ref (m 1)) inZ8 rfl rfl (by decide) tg_677 rfl dX8_order_42 ?_
        refine zj_iload C dX8_order_45 0 rfl ?_
        refine zj_lald C 1 (f := (gMs_at S)) x26_0 (nI_clamp (by omega)) (vp_in_nI (by omega) (by omega)) rfl dX8_order_47 ?_
        refine zj_lconst C (v := 1) dX8_order_48 (by decide) ?_
        refine zj_lsub C dX8_order_49 ?_
        refine zj_callS C (nn := 0) (ws' := (WM cy m S)) (st := []) (st1 := [.int (zB (f_X8_in (o.toInt64) 0 (((gMs_at S) x26_0) - 1)))]) [] (c_X8_in l D cy (o.toInt64) 0 (((gMs_at S) x26_0) - 1)  ) tg_730 tg_728 tg_729 tg_9 hdZ_X8_in ⟨rfl, rfl⟩ ⟨by decide, by decide⟩ rfl (by decide) ⟨rfl, rfl⟩ rfl rfl (Nat.le_of_ble_eq_true rfl) dX8_order_50 rfl rfl ?_
        have J_53 : ∀ (x53_0 : Int32), x53_0 = (if (f_X8_in (o.toInt64) 0 (((gMs_at S) x26_0) - 1)) = false then (-1) else (((f_X8_ofOrder S x26_0 o.toNatClampNeg wh.toNatClampNeg)).toInt32)) → zJ E 5 0 0 (WM cy m S) 69 [(4, .int (nI x26_0)), (0, .ref (m 0)), (1, .int kd), (2, .int o), (3, .int wh)] [.int x53_0] := by
          intro x53_0 hx53_0
          subst hx53_0
          subst hx26_0
          have e : f_X8_order S kd o wh = (if (f_X8_in (o.toInt64) 0 (((gMs_at S) (if kd = 0 then 61 else 122)) - 1)) = false then (-1) else (((f_X8_ofOrder S (if kd = 0 then 61 else 122) o.toNatClampNeg wh.toNatClampNeg)).toInt32)) := by refine (if_neg c_7).trans ?_; refine (if_neg c_19).trans ?_; rfl
          rw [e] at hret
          exact hret _ _ dX8_order_69
        refine zj_if_eq C 68 dX8_order_53 (by decide) (fun c => ?_) (fun c => ?_)
        · have c_53 : (f_X8_in (o.toInt64) 0 (((gMs_at S) x26_0) - 1)) = false := (zB_eq c)
          refine zj_iconst C (v := (-1)) dX8_order_68 (by decide) ?_
          exact J_53 (-1) (by simp only [if_neg c_7, if_neg c_19, if_pos c_53]; first | done | assumption)
        · have c_53 : ¬ ((f_X8_in (o.toInt64) 0 (((gMs_at S) x26_0) - 1)) = false) := (zB_neq c)
          refine zj_aload_n C dX8_order_56 1 rfl ?_
          refine zj_iload C dX8_order_57 0 rfl ?_
          refine zj_iload_n C dX8_order_59 3 rfl ?_
          refine zj_topi (nI o.toNatClampNeg) (zord hcx c_53).1 ?_
          refine zj_iload_n C dX8_order_60 4 rfl ?_
          refine zj_topi (nI wh.toNatClampNeg) (zin_w (N := 3) c_19 (by decide)).1 ?_
          refine zj_callV C (nn := 10) (ws' := (WM cy m S)) (st := []) (st1 := [.long (f_X8_ofOrder S x26_0 o.toNatClampNeg wh.toNatClampNeg)]) 0 8 [0, 1, 2, 3, 4, 5, 6, 7, 8, 9] (c_X8_ofOrder l D cy m x26_0 o.toNatClampNeg wh.toNatClampNeg S (by have q1 := (zord hcx c_53).2; have q2 := (zin_w (N := 3) c_19 (by decide)).2; omega)) (zg_V tg_760 tg_757 tg_759 tgp_18 tg_9) ⟨rfl, hdZ_X8_ofOrder⟩ ⟨rfl, rfl⟩ ⟨by decide, by decide⟩ rfl rfl rfl (by decide) ⟨rfl, rfl⟩ rfl rfl (Nat.le_of_ble_eq_true rfl) dX8_order_61 rfl rfl ?_
          refine zj_l2i C dX8_order_64 ?_
          refine zj_goto C 69 dX8_order_65 (by decide) ?_
          exact J_53 (((f_X8_ofOrder S x26_0 o.toNatClampNeg wh.toNatClampNeg)).toInt32) (by simp only [if_neg c_7, if_neg c_19, if_neg c_53]; first | done | assumption)
      refine zj_if_ne C 34 dX8_order_26 (by decide) (fun c => ?_) (fun c => ?_)
      · have c_26 : ¬ (kd = 0) := c
        refine zj_bipush C (v := (nI 122)) dX8_order_34 (by decide) ?_
        exact J_26 122 (by simp only [if_neg c_7, if_neg c_19, if_neg c_26]; first | done | assumption)
      · have c_26 : kd = 0 := (Classical.not_not.mp c)
        refine zj_bipush C (v := (nI 61)) dX8_order_29 (by decide) ?_
        refine zj_goto C 36 dX8_order_31 (by decide) ?_
        exact J_26 61 (by simp only [if_neg c_7, if_neg c_19, if_pos c_26]; first | done | assumption)
    · have c_19 : (f_X8_in (wh.toInt64) 0 2) = false := (zB_eq (Classical.not_not.mp c))
      refine zj_bipush C (v := (-2)) dX8_order_22 (by decide) ?_
      have e : f_X8_order S kd o wh = (-2) := by refine (if_neg c_7).trans ?_; refine (if_pos c_19).trans ?_; rfl
      rw [e] at hret
      exact hret _ _ dX8_order_24

noncomputable def f_X8_lastDay (S : zMs) (wh : Int32) : Int32 :=
  if (f_X8_in (wh.toInt64) 0 5) = false then
    (-2)
  else
    let x23_0 : Int32 := (if ((gMs_at S) 18) = 0 then (-6) else ((((gMs_at S) (12 + wh.toNatClampNeg))).toInt32))
    x23_0
set_option maxHeartbeats 4000000 in
set_option maxRecDepth 100000 in
theorem c_X8_lastDay (l : Launch) (D : va_G) (cy : Nat → ClassId) (m : Nat → Nat) (wh : Int32)  (S : zMs)  : zC l yX8_lastDay (zW yX8_lastDay cX8_lastDay 2 (Option.some Jvm.ClassFile.FieldType.int)) { frames := 1, cells := 0, slots := 0, locals := 25 } D cy [.ref (m 0), .int wh] (WM cy m S) (some (.int (f_X8_lastDay S wh))) (WM cy m S) := by
  refine zC_of rfl (Nat.le_of_ble_eq_true rfl) (zOk_i _) (fun E C hret => ?_)
  show zJ E 2 0 0 (WM cy m S) 0 [(0, .ref (m 0)), (1, .int wh)] []
  refine zj_iload_n C dX8_lastDay_0 1 rfl ?_
  refine zj_i2l C dX8_lastDay_1 ?_
  refine zj_lconst C (v := 0) dX8_lastDay_2 (by decide) ?_
  refine zj_ldc2 C dX8_lastDay_3 tg_674 ?_
  refine zj_callS C (nn := 0) (ws' := (WM cy m S)) (st := []) (st1 := [.int (zB (f_X8_in (wh.toInt64) 0 5))]) [] (c_X8_in l D cy (wh.toInt64) 0 5  ) tg_730 tg_728 tg_729 tg_9 hdZ_X8_in ⟨rfl, rfl⟩ ⟨by decide, by decide⟩ rfl (by decide) ⟨rfl, rfl⟩ rfl rfl (Nat.le_of_ble_eq_true rfl) dX8_lastDay_6 rfl rfl ?_
  refine zj_if_ne C 15 dX8_lastDay_9 (by decide) (fun c => ?_) (fun c => ?_)
  · have c_9 : ¬ ((f_X8_in (wh.toInt64) 0 5) = false) := (zB_neq c)
    refine zj_aload_n C dX8_lastDay_15 0 rfl ?_
    refine zj_get C 0 8 0 (v := .ref (m 1)) inZ8 rfl rfl (by decide) tg_677 rfl dX8_lastDay_16 ?_
    refine zj_bipush C (v := (nI 18)) dX8_lastDay_19 (by decide) ?_
    refine zj_lald C 1 (f := (gMs_at S)) 18 (by decide) (vp_in_nI (by decide) (by decide)) rfl dX8_lastDay_21 ?_
    refine zj_lconst C (v := 0) dX8_lastDay_22 (by decide) ?_
    have J_23 : ∀ (x23_0 : Int32), x23_0 = (if ((gMs_at S) 18) = 0 then (-6) else ((((gMs_at S) (12 + wh.toNatClampNeg))).toInt32)) → zJ E 2 0 0 (WM cy m S) 42 [(0, .ref (m 0)), (1, .int wh)] [.int x23_0] := by
      intro x23_0 hx23_0
      subst hx23_0
      have e : f_X8_lastDay S wh = (if ((gMs_at S) 18) = 0 then (-6) else ((((gMs_at S) (12 + wh.toNatClampNeg))).toInt32)) := by refine (if_neg c_9).trans ?_; rfl
      rw [e] at hret
      exact hret _ _ dX8_lastDay_42
    refine zj_lcmp_ne C 32 dX8_lastDay_23 dX8_lastDay_24 (by decide) (fun c => ?_) (fun c => ?_)
    · have c_23 : ¬ (((gMs_at S) 18) = 0) := c
      refine zj_aload_n C dX8_lastDay_32 0 rfl ?_
      refine zj_get C 0 8 0 (v := .ref (m 1)) inZ8 rfl rfl (by decide) tg_677 rfl dX8_lastDay_33 ?_
      refine zj_bipush C (v := (nI 12)) dX8_lastDay_36 (by decide) ?_
      refine zj_iload_n C dX8_lastDay_38 1 rfl ?_
      refine zj_topi (nI wh.toNatClampNeg) (zin_w (N := 6) c_9 (by decide)).1 ?_
      refine zj_iadd C dX8_lastDay_39 ?_
      refine zj_topi (nI (12 + wh.toNatClampNeg)) (nI_add _ _) ?_
      refine zj_lald C 1 (f := (gMs_at S)) (12 + wh.toNatClampNeg) (nI_clamp (by have q2 := (zin_w (N := 6) c_9 (by decide)).2; omega)) (vp_in_nI (by have q2 := (zin_w (N := 6) c_9 (by decide)).2; omega) (by decide)) rfl dX8_lastDay_40 ?_
      refine zj_l2i C dX8_lastDay_41 ?_
      exact J_23 ((((gMs_at S) (12 + wh.toNatClampNeg))).toInt32) (by simp only [if_neg c_9, if_neg c_23]; first | done | assumption)
    · have c_23 : ((gMs_at S) 18) = 0 := (Classical.not_not.mp c)
      refine zj_bipush C (v := (-6)) dX8_lastDay_27 (by decide) ?_
      refine zj_goto C 42 dX8_lastDay_29 (by decide) ?_
      exact J_23 (-6) (by simp only [if_neg c_9, if_pos c_23]; first | done | assumption)
  · have c_9 : (f_X8_in (wh.toInt64) 0 5) = false := (zB_eq (Classical.not_not.mp c))
    refine zj_bipush C (v := (-2)) dX8_lastDay_12 (by decide) ?_
    have e : f_X8_lastDay S wh = (-2) := by refine (if_pos c_9).trans ?_; rfl
    rw [e] at hret
    exact hret _ _ dX8_lastDay_14

noncomputable def f_X8_price (S : zMs) (wh : Int32) : Int64 :=
  if wh = nI 0 then
    (f_X8_middle S)
  else
    if wh = nI 1 then
      (f_X8_priceNow S)
    else
      if wh = nI 2 then
        ((gMs_at S) 11)
      else
        if wh = nI 3 then
          (f_X8_incomeOfUnit S)
        else
          (-2)
set_option maxHeartbeats 4000000 in
set_option maxRecDepth 100000 in
theorem c_X8_price (l : Launch) (D : va_G) (cy : Nat → ClassId) (m : Nat → Nat) (wh : Int32)  (S : zMs) (hb : zCk S 61) (hc : zCk S 122) : zC l yX8_price (zW yX8_price cX8_price 2 (Option.some Jvm.ClassFile.FieldType.long)) { frames := 6, cells := 0, slots := 0, locals := 134 } D cy [.ref (m 0), .int wh] (WM cy m S) (some (.long (f_X8_price S wh))) (WM cy m S) := by
  refine zC_of rfl (Nat.le_of_ble_eq_true rfl) (zOk_l _) (fun E C hret => ?_)
  show zJ E 2 0 0 (WM cy m S) 0 [(0, .ref (m 0)), (1, .int wh)] []
  refine zj_iload_n C dX8_price_0 1 rfl ?_
  by_cases c_1_0 : wh = nI 0
  · refine zj_topi (nI 0) c_1_0 ?_
    refine zj_tin C (off := 31) 32 dX8_price_1 (by decide) (by decide) rfl (by decide) ?_
    refine zj_aload_n C dX8_price_32 0 rfl ?_
    refine zj_callV C (nn := 10) (ws' := (WM cy m S)) (st := []) (st1 := [.long (f_X8_middle S)]) 0 8 [0, 1, 2, 3, 4, 5, 6, 7, 8, 9] (c_X8_middle l D cy m  S ) (zg_V tg_828 tg_825 tg_827 tgp_32 tg_9) ⟨rfl, hdZ_X8_middle⟩ ⟨rfl, rfl⟩ ⟨by decide, by decide⟩ rfl rfl rfl (by decide) ⟨rfl, rfl⟩ rfl rfl (Nat.le_of_ble_eq_true rfl) dX8_price_33 rfl rfl ?_
    have e : f_X8_price S wh = (f_X8_middle S) := by refine (if_pos c_1_0).trans ?_; rfl
    rw [e] at hret
    exact hret _ _ dX8_price_36
  · skip
    by_cases c_1_1 : wh = nI 1
    · refine zj_topi (nI 1) c_1_1 ?_
      refine zj_tin C (off := 36) 37 dX8_price_1 (by decide) (by decide) rfl (by decide) ?_
      refine zj_aload_n C dX8_price_37 0 rfl ?_
      refine zj_callV C (nn := 10) (ws' := (WM cy m S)) (st := []) (st1 := [.long (f_X8_priceNow S)]) 0 8 [0, 1, 2, 3, 4, 5, 6, 7, 8, 9] (c_X8_priceNow l D cy m  S hb hc) (zg_V tg_824 tg_821 tg_823 tgp_31 tg_9) ⟨rfl, hdZ_X8_priceNow⟩ ⟨rfl, rfl⟩ ⟨by decide, by decide⟩ rfl rfl rfl (by decide) ⟨rfl, rfl⟩ rfl rfl (Nat.le_of_ble_eq_true rfl) dX8_price_38 rfl rfl ?_
      have e : f_X8_price S wh = (f_X8_priceNow S) := by refine (if_neg c_1_0).trans ?_; refine (if_pos c_1_1).trans ?_; rfl
      rw [e] at hret
      exact hret _ _ dX8_price_41
    · skip
      by_cases c_1_2 : wh = nI 2
      · refine zj_topi (nI 2) c_1_2 ?_
        refine zj_tin C (off := 41) 42 dX8_price_1 (by decide) (by decide) rfl (by decide) ?_
        refine zj_aload_n C dX8_price_42 0 rfl ?_
        refine zj_get C 0 8 0 (v := .ref (m 1)) inZ8 rfl rfl (by decide) tg_677 rfl dX8_price_43 ?_
        refine zj_bipush C (v := (nI 11)) dX8_price_46 (by decide) ?_
        refine zj_lald C 1 (f := (gMs_at S)) 11 (by decide) (vp_in_nI (by decide) (by decide)) rfl dX8_price_48 ?_
        have e : f_X8_price S wh = ((gMs_at S) 11) := by refine (if_neg c_1_0).trans ?_; refine (if_neg c_1_1).trans ?_; refine (if_pos c_1_2).trans ?_; rfl
        rw [e] at hret
        exact hret _ _ dX8_price_49
      · skip
        by_cases c_1_3 : wh = nI 3
        · refine zj_topi (nI 3) c_1_3 ?_
          refine zj_tin C (off := 49) 50 dX8_price_1 (by decide) (by decide) rfl (by decide) ?_
          refine zj_aload_n C dX8_price_50 0 rfl ?_
          refine zj_callV C (nn := 10) (ws' := (WM cy m S)) (st := []) (st1 := [.long (f_X8_incomeOfUnit S)]) 0 8 [0, 1, 2, 3, 4, 5, 6, 7, 8, 9] (c_X8_incomeOfUnit l D cy m  S ) (zg_V tg_792 tg_789 tg_791 tgp_24 tg_9) ⟨rfl, hdZ_X8_incomeOfUnit⟩ ⟨rfl, rfl⟩ ⟨by decide, by decide⟩ rfl rfl rfl (by decide) ⟨rfl, rfl⟩ rfl rfl (Nat.le_of_ble_eq_true rfl) dX8_price_51 rfl rfl ?_
          have e : f_X8_price S wh = (f_X8_incomeOfUnit S) := by refine (if_neg c_1_0).trans ?_; refine (if_neg c_1_1).trans ?_; refine (if_neg c_1_2).trans ?_; refine (if_pos c_1_3).trans ?_; rfl
          rw [e] at hret
          exact hret _ _ dX8_price_54
        · skip
          refine zj_tout C 55 dX8_price_1 (zsw_out (x := wh) (n := 3) (by decide) (fun k hk => by rcases (show k = 0 ∨ k = 1 ∨ k = 2 ∨ k = 3 by omega) with rfl | rfl | rfl | rfl <;> assumption)) (by decide) ?_
          refine zj_ldc2 C dX8_price_55 tg_932 ?_
          have e : f_X8_price S wh = (-2) := by refine (if_neg c_1_0).trans ?_; refine (if_neg c_1_1).trans ?_; refine (if_neg c_1_2).trans ?_; refine (if_neg c_1_3).trans ?_; rfl
          rw [e] at hret
          exact hret _ _ dX8_price_58
