theorem zbt {b : Bool} (h : ¬ b = false) : b = true := by cases b; exact absurd rfl h; rfl
theorem f_in_iff {v lo hi : Int64} : f_X8_in v lo hi = true ↔ lo ≤ v ∧ v ≤ hi := by
  show (if v < lo then false else (if hi < v then false else true)) = true ↔ _
  by_cases h1 : v < lo
  · rw [if_pos h1]
    exact ⟨fun q => (by cases q), fun q => absurd h1 (Int64.not_lt.mpr q.1)⟩
  · rw [if_neg h1]
    by_cases h2 : hi < v
    · rw [if_pos h2]
      exact ⟨fun q => (by cases q), fun q => absurd h2 (Int64.not_lt.mpr q.2)⟩
    · rw [if_neg h2]
      exact ⟨fun _ => ⟨Int64.not_lt.mp h1, Int64.not_lt.mp h2⟩, fun _ => rfl⟩
theorem f_in_int {x : Int32} {lo hi : Int64} (h : f_X8_in x.toInt64 lo hi = true) : lo.toInt ≤ x.toInt ∧ x.toInt ≤ hi.toInt := by
  have := f_in_iff.mp h
  rw [Int64.le_iff_toInt_le, Int64.le_iff_toInt_le, Int32.toInt_toInt64] at this
  exact this
theorem zin_idx {x : Int32} {hi : Int64} {N : Nat} (h : f_X8_in x.toInt64 0 hi = true) (hN : hi.toInt < N) : vp_in x N := vp_in_iff.mpr ⟨(f_in_int h).1, by have := (f_in_int h).2; omega⟩
theorem zh_lt {h : Int32} (c : ¬ f_X8_isHolder h = false) : h.toNatClampNeg < 6 := by
  have c1 : f_X8_in h.toInt64 0 5 = true := by cases hb : f_X8_isHolder h; exact absurd hb c; exact hb
  have := (f_in_int c1).2
  have h5 : (5 : Int64).toInt = 5 := by decide
  rw [h5] at this
  show h.toInt.toNat < 6
  omega
theorem zh_eq {h : Int32} (c : ¬ f_X8_isHolder h = false) : h = nI h.toNatClampNeg := by
  have c1 : f_X8_in h.toInt64 0 5 = true := by cases hb : f_X8_isHolder h; exact absurd hb c; exact hb
  have h0 := (f_in_int c1).1
  have h1 : (0 : Int64).toInt = 0 := by decide
  rw [h1] at h0
  obtain ⟨j, hj, rfl⟩ := nI_of (x := h) (by rw [Int32.lt_iff_toInt_lt]; have : (0 : Int32).toInt = 0 := by decide
                                            omega)
  rw [nI_clamp hj]

noncomputable def f_X8_set (S : zMs) (st : Int32) (v : Int32) : Int32 × zMs := zsl (
  let x1_0 : Nat := (if st = 0 then 23 else (if st = (nI 2) then 100 else (if st = (nI 4) then 50 else 1000)))
  if (f_X8_in (st.toInt64) 0 4) = false then
    ((-2), S)
  else
    if (f_X8_in (v.toInt64) 0 (lN x1_0)) = false then
      ((-2), S)
    else
      (((((gMs_at (f_X8_keep S)) st.toNatClampNeg)).toInt32), (sMs_at (f_X8_keep S) (vp_updL (gMs_at (f_X8_keep S)) st.toNatClampNeg (v.toInt64))))
  )
set_option maxHeartbeats 4000000 in
set_option maxRecDepth 100000 in
theorem c_X8_set (l : Launch) (D : va_G) (cy : Nat → ClassId) (m : Nat → Nat) (st : Int32) (v : Int32)  (S : zMs) (hf : gMs_pf S < 6) (hm : gMs_pm S ≤ 6) : zC l yX8_set (zW yX8_set cX8_set 5 (Option.some Jvm.ClassFile.FieldType.int)) { frames := 1, cells := 0, slots := 0, locals := 25 } D cy [.ref (m 0), .int st, .int v] (WM cy m S) (some (.int ((f_X8_set S st v).1))) (WM cy m ((f_X8_set S st v).2)) := by
  refine zC_of rfl (Nat.le_of_ble_eq_true rfl) (zOk_i _) (fun E C hret => ?_)
  show zJ E 5 0 0 (WM cy m S) 0 [(0, .ref (m 0)), (1, .int st), (2, .int v)] []
  refine zj_iload_n C dX8_set_0 1 rfl ?_
  have J_1 : ∀ (x1_0 : Nat), x1_0 = (if st = 0 then 23 else (if st = (nI 2) then 100 else (if st = (nI 4) then 50 else 1000))) → zJ E 5 0 0 (WM cy m S) 32 [(0, .ref (m 0)), (1, .int st), (2, .int v)] [.int (nI x1_0)] := by
    intro x1_0 hx1_0
    have hb : x1_0 ≤ 1000 := by rw [hx1_0]; repeat (first | omega | split)
    refine zj_istore_n C (L' := [(3, .int (nI x1_0)), (0, .ref (m 0)), (1, .int st), (2, .int v)]) dX8_set_32 rfl (by decide) rfl ?_
    refine zj_iload_n C dX8_set_33 2 rfl ?_
    refine zj_i2l C dX8_set_34 ?_
    refine zj_lconst C (v := 0) dX8_set_35 (by decide) ?_
    refine zj_ldc2 C dX8_set_36 tg_727 ?_
    refine zj_callS C (nn := 0) (ws' := (WM cy m S)) (st := []) (st1 := [.int (zB (f_X8_in (st.toInt64) 0 4))]) [] (c_X8_in l D cy (st.toInt64) 0 4  ) tg_730 tg_728 tg_729 tg_9 hdZ_X8_in ⟨rfl, rfl⟩ ⟨by decide, by decide⟩ rfl (by decide) ⟨rfl, rfl⟩ rfl rfl (Nat.le_of_ble_eq_true rfl) dX8_set_39 rfl rfl ?_
    refine zj_if_eq C 56 dX8_set_42 (by decide) (fun c => ?_) (fun c => ?_)
    · have c_42 : (f_X8_in (st.toInt64) 0 4) = false := (zB_eq c)
      refine zj_bipush C (v := (-2)) dX8_set_56 (by decide) ?_
      subst hx1_0
      have e : f_X8_set S st v = ((-2), S) := by refine (zsl_e _).trans ?_; refine (if_pos c_42).trans ?_; rfl
      rw [e] at hret
      exact hret _ _ dX8_set_58
    · have c_42 : ¬ ((f_X8_in (st.toInt64) 0 4) = false) := (zB_neq c)
      refine zj_iload_n C dX8_set_45 3 rfl ?_
      refine zj_i2l C dX8_set_46 ?_
      refine zj_lconst C (v := 0) dX8_set_47 (by decide) ?_
      refine zj_iload_n C dX8_set_48 0 rfl ?_
      refine zj_i2l C dX8_set_49 ?_
      refine zj_topl (lN x1_0) (nI_l (by omega)) ?_
      refine zj_callS C (nn := 0) (ws' := (WM cy m S)) (st := []) (st1 := [.int (zB (f_X8_in (v.toInt64) 0 (lN x1_0)))]) [] (c_X8_in l D cy (v.toInt64) 0 (lN x1_0)  ) tg_730 tg_728 tg_729 tg_9 hdZ_X8_in ⟨rfl, rfl⟩ ⟨by decide, by decide⟩ rfl (by decide) ⟨rfl, rfl⟩ rfl rfl (Nat.le_of_ble_eq_true rfl) dX8_set_50 rfl rfl ?_
      refine zj_if_ne C 59 dX8_set_53 (by decide) (fun c => ?_) (fun c => ?_)
      · have c_53 : ¬ ((f_X8_in (v.toInt64) 0 (lN x1_0)) = false) := (zB_neq c)
        refine zj_aload_n C dX8_set_59 1 rfl ?_
        refine zj_callV C (nn := 10) (ws' := (WM cy m (f_X8_keep S))) (st := []) (st1 := []) 0 8 [0, 1, 2, 3, 4, 5, 6, 7, 8, 9] (c_X8_keep l D cy m  S (by omega) (by omega)) (zg_V tg_734 tg_731 tg_733 tgp_14 tg_9) ⟨rfl, hdZ_X8_keep⟩ ⟨rfl, rfl⟩ ⟨by decide, by decide⟩ rfl rfl rfl (by decide) ⟨rfl, rfl⟩ rfl rfl (Nat.le_of_ble_eq_true rfl) dX8_set_60 rfl rfl ?_
        refine zj_aload_n C dX8_set_63 1 rfl ?_
        refine zj_get C 0 8 0 (v := .ref (m 1)) inZ8 rfl rfl (by decide) tg_677 rfl dX8_set_64 ?_
        refine zj_iload_n C dX8_set_67 2 rfl ?_
        refine zj_lald C 1 (f := (gMs_at (f_X8_keep S))) st.toNatClampNeg rfl (zin_idx (zbt c_42) (by decide)) rfl dX8_set_68 ?_
        refine zj_l2i C dX8_set_69 ?_
        refine zj_istore C (L' := [(4, .int ((((gMs_at (f_X8_keep S)) st.toNatClampNeg)).toInt32)), (3, .int (nI x1_0)), (0, .ref (m 0)), (1, .int st), (2, .int v)]) dX8_set_70 (by decide) rfl ?_
        refine zj_aload_n C dX8_set_72 2 rfl ?_
        refine zj_get C 0 8 0 (v := .ref (m 1)) inZ8 rfl rfl (by decide) tg_677 rfl dX8_set_73 ?_
        refine zj_iload_n C dX8_set_76 3 rfl ?_
        refine zj_iload_n C dX8_set_77 4 rfl ?_
        refine zj_i2l C dX8_set_78 ?_
        refine zj_last C 1 (f := (gMs_at (f_X8_keep S))) (ws' := (WM cy m (sMs_at (f_X8_keep S) (vp_updL (gMs_at (f_X8_keep S)) st.toNatClampNeg (v.toInt64))))) st.toNatClampNeg rfl (zin_idx (zbt c_42) (by decide)) rfl dX8_set_79 rfl ?_
        refine zj_iload C dX8_set_80 0 rfl ?_
        subst hx1_0
        have e : f_X8_set S st v = (((((gMs_at (f_X8_keep S)) st.toNatClampNeg)).toInt32), (sMs_at (f_X8_keep S) (vp_updL (gMs_at (f_X8_keep S)) st.toNatClampNeg (v.toInt64)))) := by refine (zsl_e _).trans ?_; refine (if_neg c_42).trans ?_; refine (if_neg c_53).trans ?_; rfl
        rw [e] at hret
        exact hret _ _ dX8_set_82
      · have c_53 : (f_X8_in (v.toInt64) 0 (lN x1_0)) = false := (zB_eq (Classical.not_not.mp c))
        refine zj_bipush C (v := (-2)) dX8_set_56 (by decide) ?_
        subst hx1_0
        have e : f_X8_set S st v = ((-2), S) := by refine (zsl_e _).trans ?_; refine (if_neg c_42).trans ?_; refine (if_pos c_53).trans ?_; rfl
        rw [e] at hret
        exact hret _ _ dX8_set_58
  refine zj_if_ne C 9 dX8_set_1 (by decide) (fun c => ?_) (fun c => ?_)
  · have c_1 : ¬ (st = 0) := c
    refine zj_iload_n C dX8_set_9 1 rfl ?_
    refine zj_iconst C (v := (nI 2)) dX8_set_10 (by decide) ?_
    have J_11 : ∀ (x11_0 : Nat), x11_0 = (if st = (nI 2) then 100 else (if st = (nI 4) then 50 else 1000)) → zJ E 5 0 0 (WM cy m S) 32 [(0, .ref (m 0)), (1, .int st), (2, .int v)] [.int (nI x11_0)] := by
      intro x11_0 hx11_0
      exact J_1 x11_0 (by simp only [if_neg c_1]; first | done | assumption)
    refine zj_icmp_ne C 19 dX8_set_11 (by decide) (fun c => ?_) (fun c => ?_)
    · have c_11 : ¬ (st = (nI 2)) := c
      refine zj_iload_n C dX8_set_19 1 rfl ?_
      refine zj_iconst C (v := (nI 4)) dX8_set_20 (by decide) ?_
      have J_21 : ∀ (x21_0 : Nat), x21_0 = (if st = (nI 4) then 50 else 1000) → zJ E 5 0 0 (WM cy m S) 32 [(0, .ref (m 0)), (1, .int st), (2, .int v)] [.int (nI x21_0)] := by
        intro x21_0 hx21_0
        exact J_11 x21_0 (by simp only [if_neg c_1, if_neg c_11]; first | done | assumption)
      refine zj_icmp_ne C 29 dX8_set_21 (by decide) (fun c => ?_) (fun c => ?_)
      · have c_21 : ¬ (st = (nI 4)) := c
        refine zj_sipush C (v := (nI 1000)) dX8_set_29 (by decide) ?_
        exact J_21 1000 (by simp only [if_neg c_1, if_neg c_11, if_neg c_21]; first | done | assumption)
      · have c_21 : st = (nI 4) := (Classical.not_not.mp c)
        refine zj_bipush C (v := (nI 50)) dX8_set_24 (by decide) ?_
        refine zj_goto C 32 dX8_set_26 (by decide) ?_
        exact J_21 50 (by simp only [if_neg c_1, if_neg c_11, if_pos c_21]; first | done | assumption)
    · have c_11 : st = (nI 2) := (Classical.not_not.mp c)
      refine zj_bipush C (v := (nI 100)) dX8_set_14 (by decide) ?_
      refine zj_goto C 32 dX8_set_16 (by decide) ?_
      exact J_11 100 (by simp only [if_neg c_1, if_pos c_11]; first | done | assumption)
  · have c_1 : st = 0 := (Classical.not_not.mp c)
    refine zj_bipush C (v := (nI 23)) dX8_set_4 (by decide) ?_
    refine zj_goto C 32 dX8_set_6 (by decide) ?_
    exact J_1 23 (by simp only [if_pos c_1]; first | done | assumption)

theorem zcn_at {S T : zMs} {kd : Nat} (h : gMs_at T = gMs_at S) : zcn T kd = zcn S kd := by unfold zcn; rw [h]
theorem zCk_at {S T : zMs} {kd : Nat} (h : gMs_at T = gMs_at S) (hc : zCk S kd) : zCk T kd := by
  unfold zCk at hc ⊢
  rw [zcn_at h, h]
  exact hc
theorem f_keepIf_at (S : zMs) (b : Bool) : gMs_at (f_X8_keepIf S b) = gMs_at S := by
  unfold f_X8_keepIf
  split <;> rfl
theorem zc20 {n : Nat} (h : n ≤ 20) (h2 : ¬ lN n = 20) : n < 20 := by
  rcases Nat.lt_or_eq_of_le h with q | q
  · exact q
  · subst q; exact absurd rfl h2
theorem f_holder_u {h : Int32} : (fun q : f_X8_isHolder h = false => q) = (fun q => q) := rfl

noncomputable def f_X8_tryBuy (S : zMs) (h : Int32) (amount : Int32) (hour : Int32) (b : Bool) : Int32 × zMs := zsl (
  if (f_X8_isHolder h) = false then
    ((-1), S)
  else
    if (f_X8_in (amount.toInt64) 1 1000000) = false then
      ((-2), S)
    else
      if (f_X8_in (hour.toInt64) 0 23) = false then
        ((-2), S)
      else
        if (lN (zcn S 61)) = 20 then
          ((-4), S)
        else
          ((((f_X8_day (f_X8_keepIf S b) hour)).toInt32), (f_X8_putIn (f_X8_keepIf S b) 61 h (amount.toInt64) hour))
  )
set_option maxHeartbeats 4000000 in
set_option maxRecDepth 100000 in
theorem c_X8_tryBuy (l : Launch) (D : va_G) (cy : Nat → ClassId) (m : Nat → Nat) (h : Int32) (amount : Int32) (hour : Int32) (b : Bool)  (S : zMs) (hf : gMs_pf S < 6) (hm : gMs_pm S ≤ 6) (hc : zCk S 61) : zC l yX8_tryBuy (zW yX8_tryBuy cX8_tryBuy 5 (Option.some Jvm.ClassFile.FieldType.int)) { frames := 2, cells := 0, slots := 0, locals := 52 } D cy [.ref (m 0), .int h, .int amount, .int hour, .int (zB b)] (WM cy m S) (some (.int ((f_X8_tryBuy S h amount hour b).1))) (WM cy m ((f_X8_tryBuy S h amount hour b).2)) := by
  refine zC_of rfl (Nat.le_of_ble_eq_true rfl) (zOk_i _) (fun E C hret => ?_)
  have hc2 := hc.2
  show zJ E 5 0 0 (WM cy m S) 0 [(0, .ref (m 0)), (1, .int h), (2, .int amount), (3, .int hour), (4, .int (zB b))] []
  refine zj_iload_n C dX8_tryBuy_0 1 rfl ?_
  refine zj_callS C (nn := 0) (ws' := (WM cy m S)) (st := []) (st1 := [.int (zB (f_X8_isHolder h))]) [] (c_X8_isHolder l D cy h  ) tg_745 tg_743 tg_744 tg_9 hdZ_X8_isHolder ⟨rfl, rfl⟩ ⟨by decide, by decide⟩ rfl (by decide) ⟨rfl, rfl⟩ rfl rfl (Nat.le_of_ble_eq_true rfl) dX8_tryBuy_1 rfl rfl ?_
  refine zj_if_ne C 9 dX8_tryBuy_4 (by decide) (fun c => ?_) (fun c => ?_)
  · have c_4 : ¬ ((f_X8_isHolder h) = false) := (zB_neq c)
    refine zj_iload_n C dX8_tryBuy_9 2 rfl ?_
    refine zj_i2l C dX8_tryBuy_10 ?_
    refine zj_lconst C (v := 1) dX8_tryBuy_11 (by decide) ?_
    refine zj_ldc2 C dX8_tryBuy_12 tg_746 ?_
    refine zj_callS C (nn := 0) (ws' := (WM cy m S)) (st := []) (st1 := [.int (zB (f_X8_in (amount.toInt64) 1 1000000))]) [] (c_X8_in l D cy (amount.toInt64) 1 1000000  ) tg_730 tg_728 tg_729 tg_9 hdZ_X8_in ⟨rfl, rfl⟩ ⟨by decide, by decide⟩ rfl (by decide) ⟨rfl, rfl⟩ rfl rfl (Nat.le_of_ble_eq_true rfl) dX8_tryBuy_15 rfl rfl ?_
    refine zj_if_eq C 33 dX8_tryBuy_18 (by decide) (fun c => ?_) (fun c => ?_)
    · have c_18 : (f_X8_in (amount.toInt64) 1 1000000) = false := (zB_eq c)
      refine zj_bipush C (v := (-2)) dX8_tryBuy_33 (by decide) ?_
      have e : f_X8_tryBuy S h amount hour b = ((-2), S) := by refine (zsl_e _).trans ?_; refine (if_neg c_4).trans ?_; refine (if_pos c_18).trans ?_; rfl
      rw [e] at hret
      exact hret _ _ dX8_tryBuy_35
    · have c_18 : ¬ ((f_X8_in (amount.toInt64) 1 1000000) = false) := (zB_neq c)
      refine zj_iload_n C dX8_tryBuy_21 3 rfl ?_
      refine zj_i2l C dX8_tryBuy_22 ?_
      refine zj_lconst C (v := 0) dX8_tryBuy_23 (by decide) ?_
      refine zj_ldc2 C dX8_tryBuy_24 tg_747 ?_
      refine zj_callS C (nn := 0) (ws' := (WM cy m S)) (st := []) (st1 := [.int (zB (f_X8_in (hour.toInt64) 0 23))]) [] (c_X8_in l D cy (hour.toInt64) 0 23  ) tg_730 tg_728 tg_729 tg_9 hdZ_X8_in ⟨rfl, rfl⟩ ⟨by decide, by decide⟩ rfl (by decide) ⟨rfl, rfl⟩ rfl rfl (Nat.le_of_ble_eq_true rfl) dX8_tryBuy_27 rfl rfl ?_
      refine zj_if_ne C 36 dX8_tryBuy_30 (by decide) (fun c => ?_) (fun c => ?_)
      · have c_30 : ¬ ((f_X8_in (hour.toInt64) 0 23) = false) := (zB_neq c)
        refine zj_aload_n C dX8_tryBuy_36 0 rfl ?_
        refine zj_get C 0 8 0 (v := .ref (m 1)) inZ8 rfl rfl (by decide) tg_677 rfl dX8_tryBuy_37 ?_
        refine zj_bipush C (v := (nI 61)) dX8_tryBuy_40 (by decide) ?_
        refine zj_lald C 1 (f := (gMs_at S)) 61 (by decide) (vp_in_nI (by decide) (by decide)) rfl dX8_tryBuy_42 ?_
        refine zj_topl (lN (zcn S 61)) hc.1 ?_
        refine zj_ldc2 C dX8_tryBuy_43 tg_748 ?_
        refine zj_lcmp_ne C 53 dX8_tryBuy_46 dX8_tryBuy_47 (by decide) (fun c => ?_) (fun c => ?_)
        · have c_46 : ¬ ((lN (zcn S 61)) = 20) := c
          refine zj_aload_n C dX8_tryBuy_53 0 rfl ?_
          refine zj_iload C dX8_tryBuy_54 4 rfl ?_
          refine zj_callV C (nn := 10) (ws' := (WM cy m (f_X8_keepIf S b))) (st := []) (st1 := []) 0 8 [0, 1, 2, 3, 4, 5, 6, 7, 8, 9] (c_X8_keepIf l D cy m b S (by omega) (by omega)) (zg_V tg_752 tg_749 tg_751 tgp_16 tg_9) ⟨rfl, hdZ_X8_keepIf⟩ ⟨rfl, rfl⟩ ⟨by decide, by decide⟩ rfl rfl rfl (by decide) ⟨rfl, rfl⟩ rfl rfl (Nat.le_of_ble_eq_true rfl) dX8_tryBuy_56 rfl rfl ?_
          refine zj_aload_n C dX8_tryBuy_59 0 rfl ?_
          refine zj_bipush C (v := (nI 61)) dX8_tryBuy_60 (by decide) ?_
          refine zj_iload_n C dX8_tryBuy_62 1 rfl ?_
          refine zj_iload_n C dX8_tryBuy_63 2 rfl ?_
          refine zj_i2l C dX8_tryBuy_64 ?_
          refine zj_iload_n C dX8_tryBuy_65 3 rfl ?_
          refine zj_callV C (nn := 10) (ws' := (WM cy m (f_X8_putIn (f_X8_keepIf S b) 61 h (amount.toInt64) hour))) (st := []) (st1 := [.long (f_X8_day (f_X8_keepIf S b) hour)]) 0 8 [0, 1, 2, 3, 4, 5, 6, 7, 8, 9] (c_X8_putIn l D cy m 61 h (amount.toInt64) hour (f_X8_keepIf S b) (by decide) (zCk_at (f_keepIf_at S b) hc) (by rw [zcn_at (f_keepIf_at S b)]; exact zc20 hc.2 c_46)) (zg_V tg_756 tg_753 tg_755 tgp_17 tg_9) ⟨rfl, hdZ_X8_putIn⟩ ⟨rfl, rfl⟩ ⟨by decide, by decide⟩ rfl rfl rfl (by decide) ⟨rfl, rfl⟩ rfl rfl (Nat.le_of_ble_eq_true rfl) dX8_tryBuy_66 rfl rfl ?_
          refine zj_l2i C dX8_tryBuy_69 ?_
          have e : f_X8_tryBuy S h amount hour b = ((((f_X8_day (f_X8_keepIf S b) hour)).toInt32), (f_X8_putIn (f_X8_keepIf S b) 61 h (amount.toInt64) hour)) := by refine (zsl_e _).trans ?_; refine (if_neg c_4).trans ?_; refine (if_neg c_18).trans ?_; refine (if_neg c_30).trans ?_; refine (if_neg c_46).trans ?_; rfl
          rw [e] at hret
          exact hret _ _ dX8_tryBuy_70
        · have c_46 : (lN (zcn S 61)) = 20 := (Classical.not_not.mp c)
          refine zj_bipush C (v := (-4)) dX8_tryBuy_50 (by decide) ?_
          have e : f_X8_tryBuy S h amount hour b = ((-4), S) := by refine (zsl_e _).trans ?_; refine (if_neg c_4).trans ?_; refine (if_neg c_18).trans ?_; refine (if_neg c_30).trans ?_; refine (if_pos c_46).trans ?_; rfl
          rw [e] at hret
          exact hret _ _ dX8_tryBuy_52
      · have c_30 : (f_X8_in (hour.toInt64) 0 23) = false := (zB_eq (Classical.not_not.mp c))
        refine zj_bipush C (v := (-2)) dX8_tryBuy_33 (by decide) ?_
        have e : f_X8_tryBuy S h amount hour b = ((-2), S) := by refine (zsl_e _).trans ?_; refine (if_neg c_4).trans ?_; refine (if_neg c_18).trans ?_; refine (if_pos c_30).trans ?_; rfl
        rw [e] at hret
        exact hret _ _ dX8_tryBuy_35
  · have c_4 : (f_X8_isHolder h) = false := (zB_eq (Classical.not_not.mp c))
    refine zj_iconst C (v := (-1)) dX8_tryBuy_7 (by decide) ?_
    have e : f_X8_tryBuy S h amount hour b = ((-1), S) := by refine (zsl_e _).trans ?_; refine (if_pos c_4).trans ?_; rfl
    rw [e] at hret
    exact hret _ _ dX8_tryBuy_8

noncomputable def f_X8_buy (S : zMs) (h : Int32) (amount : Int32) (hour : Int32) : Int32 × zMs :=
  (((f_X8_tryBuy S h amount hour true).1), ((f_X8_tryBuy S h amount hour true).2))
set_option maxHeartbeats 4000000 in
set_option maxRecDepth 100000 in
theorem c_X8_buy (l : Launch) (D : va_G) (cy : Nat → ClassId) (m : Nat → Nat) (h : Int32) (amount : Int32) (hour : Int32)  (S : zMs) (hf : gMs_pf S < 6) (hm : gMs_pm S ≤ 6) (hc : zCk S 61) : zC l yX8_buy (zW yX8_buy cX8_buy 4 (Option.some Jvm.ClassFile.FieldType.int)) { frames := 3, cells := 0, slots := 0, locals := 76 } D cy [.ref (m 0), .int h, .int amount, .int hour] (WM cy m S) (some (.int ((f_X8_buy S h amount hour).1))) (WM cy m ((f_X8_buy S h amount hour).2)) := by
  refine zC_of rfl (Nat.le_of_ble_eq_true rfl) (zOk_i _) (fun E C hret => ?_)
  show zJ E 4 0 0 (WM cy m S) 0 [(0, .ref (m 0)), (1, .int h), (2, .int amount), (3, .int hour)] []
  refine zj_aload_n C dX8_buy_0 0 rfl ?_
  refine zj_iload_n C dX8_buy_1 1 rfl ?_
  refine zj_iload_n C dX8_buy_2 2 rfl ?_
  refine zj_iload_n C dX8_buy_3 3 rfl ?_
  refine zj_iconst C (v := (nI 1)) dX8_buy_4 (by decide) ?_
  refine zj_callV C (nn := 10) (ws' := (WM cy m ((f_X8_tryBuy S h amount hour true).2))) (st := []) (st1 := [.int ((f_X8_tryBuy S h amount hour true).1)]) 0 8 [0, 1, 2, 3, 4, 5, 6, 7, 8, 9] (c_X8_tryBuy l D cy m h amount hour true S hf hm hc) (zg_V tg_742 tg_739 tg_741 tgp_15 tg_9) ⟨rfl, hdZ_X8_tryBuy⟩ ⟨rfl, rfl⟩ ⟨by decide, by decide⟩ rfl rfl rfl (by decide) ⟨rfl, rfl⟩ rfl rfl (Nat.le_of_ble_eq_true rfl) dX8_buy_5 rfl rfl ?_
  have e : f_X8_buy S h amount hour = (((f_X8_tryBuy S h amount hour true).1), ((f_X8_tryBuy S h amount hour true).2)) := by rfl
  rw [e] at hret
  exact hret _ _ dX8_buy_8

noncomputable def f_X8_tryLeave (S : zMs) (h : Int32) (units : Int32) (hour : Int32) (b : Bool) : Int32 × zMs := zsl (
  if (f_X8_isHolder h) = false then
    ((-1), S)
  else
    if units < (nI 1) then
      ((-2), S)
    else
      if (f_X8_in (hour.toInt64) 0 23) = false then
        ((-2), S)
      else
        if (lN (zcn S 122)) = 20 then
          ((-4), S)
        else
          if (units.toInt64) ≤ ((f_X8_units S h.toNatClampNeg) - (f_X8_bound S h.toNatClampNeg)) then
            ((((f_X8_day (f_X8_keepIf S b) hour)).toInt32), (f_X8_putIn (f_X8_keepIf S b) 122 h (units.toInt64) hour))
          else
            ((-5), S)
  )
set_option maxHeartbeats 4000000 in
set_option maxRecDepth 100000 in
theorem c_X8_tryLeave (l : Launch) (D : va_G) (cy : Nat → ClassId) (m : Nat → Nat) (h : Int32) (units : Int32) (hour : Int32) (b : Bool)  (S : zMs) (hf : gMs_pf S < 6) (hm : gMs_pm S ≤ 6) (hc : zCk S 122) : zC l yX8_tryLeave (zW yX8_tryLeave cX8_tryLeave 5 (Option.some Jvm.ClassFile.FieldType.int)) { frames := 2, cells := 0, slots := 0, locals := 52 } D cy [.ref (m 0), .int h, .int units, .int hour, .int (zB b)] (WM cy m S) (some (.int ((f_X8_tryLeave S h units hour b).1))) (WM cy m ((f_X8_tryLeave S h units hour b).2)) := by
  refine zC_of rfl (Nat.le_of_ble_eq_true rfl) (zOk_i _) (fun E C hret => ?_)
  have hc2 := hc.2
  show zJ E 5 0 0 (WM cy m S) 0 [(0, .ref (m 0)), (1, .int h), (2, .int units), (3, .int hour), (4, .int (zB b))] []
  refine zj_iload_n C dX8_tryLeave_0 1 rfl ?_
  refine zj_callS C (nn := 0) (ws' := (WM cy m S)) (st := []) (st1 := [.int (zB (f_X8_isHolder h))]) [] (c_X8_isHolder l D cy h  ) tg_745 tg_743 tg_744 tg_9 hdZ_X8_isHolder ⟨rfl, rfl⟩ ⟨by decide, by decide⟩ rfl (by decide) ⟨rfl, rfl⟩ rfl rfl (Nat.le_of_ble_eq_true rfl) dX8_tryLeave_1 rfl rfl ?_
  refine zj_if_ne C 9 dX8_tryLeave_4 (by decide) (fun c => ?_) (fun c => ?_)
  · have c_4 : ¬ ((f_X8_isHolder h) = false) := (zB_neq c)
    refine zj_iload_n C dX8_tryLeave_9 2 rfl ?_
    refine zj_iconst C (v := (nI 1)) dX8_tryLeave_10 (by decide) ?_
    refine zj_icmp_lt C 26 dX8_tryLeave_11 (by decide) (fun c => ?_) (fun c => ?_)
    · have c_11 : units < (nI 1) := c
      refine zj_bipush C (v := (-2)) dX8_tryLeave_26 (by decide) ?_
      have e : f_X8_tryLeave S h units hour b = ((-2), S) := by refine (zsl_e _).trans ?_; refine (if_neg c_4).trans ?_; refine (if_pos c_11).trans ?_; rfl
      rw [e] at hret
      exact hret _ _ dX8_tryLeave_28
    · have c_11 : ¬ (units < (nI 1)) := c
      refine zj_iload_n C dX8_tryLeave_14 3 rfl ?_
      refine zj_i2l C dX8_tryLeave_15 ?_
      refine zj_lconst C (v := 0) dX8_tryLeave_16 (by decide) ?_
      refine zj_ldc2 C dX8_tryLeave_17 tg_747 ?_
      refine zj_callS C (nn := 0) (ws' := (WM cy m S)) (st := []) (st1 := [.int (zB (f_X8_in (hour.toInt64) 0 23))]) [] (c_X8_in l D cy (hour.toInt64) 0 23  ) tg_730 tg_728 tg_729 tg_9 hdZ_X8_in ⟨rfl, rfl⟩ ⟨by decide, by decide⟩ rfl (by decide) ⟨rfl, rfl⟩ rfl rfl (Nat.le_of_ble_eq_true rfl) dX8_tryLeave_20 rfl rfl ?_
      refine zj_if_ne C 29 dX8_tryLeave_23 (by decide) (fun c => ?_) (fun c => ?_)
      · have c_23 : ¬ ((f_X8_in (hour.toInt64) 0 23) = false) := (zB_neq c)
        refine zj_aload_n C dX8_tryLeave_29 0 rfl ?_
        refine zj_get C 0 8 0 (v := .ref (m 1)) inZ8 rfl rfl (by decide) tg_677 rfl dX8_tryLeave_30 ?_
        refine zj_bipush C (v := (nI 122)) dX8_tryLeave_33 (by decide) ?_
        refine zj_lald C 1 (f := (gMs_at S)) 122 (by decide) (vp_in_nI (by decide) (by decide)) rfl dX8_tryLeave_35 ?_
        refine zj_topl (lN (zcn S 122)) hc.1 ?_
        refine zj_ldc2 C dX8_tryLeave_36 tg_748 ?_
        refine zj_lcmp_ne C 46 dX8_tryLeave_39 dX8_tryLeave_40 (by decide) (fun c => ?_) (fun c => ?_)
        · have c_39 : ¬ ((lN (zcn S 122)) = 20) := c
          refine zj_aload_n C dX8_tryLeave_46 0 rfl ?_
          refine zj_iload_n C dX8_tryLeave_47 1 rfl ?_
          refine zj_topi (nI h.toNatClampNeg) (zh_eq c_4) ?_
          refine zj_callV C (nn := 10) (ws' := (WM cy m S)) (st := []) (st1 := [.long (f_X8_units S h.toNatClampNeg)]) 0 8 [0, 1, 2, 3, 4, 5, 6, 7, 8, 9] (c_X8_units l D cy m h.toNatClampNeg S (zh_lt c_4)) (zg_V tg_772 tg_769 tg_771 tgp_20 tg_9) ⟨rfl, hdZ_X8_units⟩ ⟨rfl, rfl⟩ ⟨by decide, by decide⟩ rfl rfl rfl (by decide) ⟨rfl, rfl⟩ rfl rfl (Nat.le_of_ble_eq_true rfl) dX8_tryLeave_48 rfl rfl ?_
          refine zj_aload_n C dX8_tryLeave_51 0 rfl ?_
          refine zj_iload_n C dX8_tryLeave_52 1 rfl ?_
          refine zj_topi (nI h.toNatClampNeg) (zh_eq c_4) ?_
          refine zj_callV C (nn := 10) (ws' := (WM cy m S)) (st := [.long (f_X8_units S h.toNatClampNeg)]) (st1 := [.long (f_X8_bound S h.toNatClampNeg), .long (f_X8_units S h.toNatClampNeg)]) 0 8 [0, 1, 2, 3, 4, 5, 6, 7, 8, 9] (c_X8_bound l D cy m h.toNatClampNeg S (zh_lt c_4) hc) (zg_V tg_780 tg_777 tg_779 tgp_22 tg_9) ⟨rfl, hdZ_X8_bound⟩ ⟨rfl, rfl⟩ ⟨by decide, by decide⟩ rfl rfl rfl (by decide) ⟨rfl, rfl⟩ rfl rfl (Nat.le_of_ble_eq_true rfl) dX8_tryLeave_53 rfl rfl ?_
          refine zj_lsub C dX8_tryLeave_56 ?_
          refine zj_iload_n C dX8_tryLeave_57 2 rfl ?_
          refine zj_i2l C dX8_tryLeave_58 ?_
          refine zj_lcmp_ge C 66 dX8_tryLeave_59 dX8_tryLeave_60 (by decide) (fun c => ?_) (fun c => ?_)
          · have c_59 : (units.toInt64) ≤ ((f_X8_units S h.toNatClampNeg) - (f_X8_bound S h.toNatClampNeg)) := c
            refine zj_aload_n C dX8_tryLeave_66 0 rfl ?_
            refine zj_iload C dX8_tryLeave_67 4 rfl ?_
            refine zj_callV C (nn := 10) (ws' := (WM cy m (f_X8_keepIf S b))) (st := []) (st1 := []) 0 8 [0, 1, 2, 3, 4, 5, 6, 7, 8, 9] (c_X8_keepIf l D cy m b S (by omega) (by omega)) (zg_V tg_752 tg_749 tg_751 tgp_16 tg_9) ⟨rfl, hdZ_X8_keepIf⟩ ⟨rfl, rfl⟩ ⟨by decide, by decide⟩ rfl rfl rfl (by decide) ⟨rfl, rfl⟩ rfl rfl (Nat.le_of_ble_eq_true rfl) dX8_tryLeave_69 rfl rfl ?_
            refine zj_aload_n C dX8_tryLeave_72 0 rfl ?_
            refine zj_bipush C (v := (nI 122)) dX8_tryLeave_73 (by decide) ?_
            refine zj_iload_n C dX8_tryLeave_75 1 rfl ?_
            refine zj_iload_n C dX8_tryLeave_76 2 rfl ?_
            refine zj_i2l C dX8_tryLeave_77 ?_
            refine zj_iload_n C dX8_tryLeave_78 3 rfl ?_
            refine zj_callV C (nn := 10) (ws' := (WM cy m (f_X8_putIn (f_X8_keepIf S b) 122 h (units.toInt64) hour))) (st := []) (st1 := [.long (f_X8_day (f_X8_keepIf S b) hour)]) 0 8 [0, 1, 2, 3, 4, 5, 6, 7, 8, 9] (c_X8_putIn l D cy m 122 h (units.toInt64) hour (f_X8_keepIf S b) (by decide) (zCk_at (f_keepIf_at S b) hc) (by rw [zcn_at (f_keepIf_at S b)]; exact zc20 hc.2 c_39)) (zg_V tg_756 tg_753 tg_755 tgp_17 tg_9) ⟨rfl, hdZ_X8_putIn⟩ ⟨rfl, rfl⟩ ⟨by decide, by decide⟩ rfl rfl rfl (by decide) ⟨rfl, rfl⟩ rfl rfl (Nat.le_of_ble_eq_true rfl) dX8_tryLeave_79 rfl rfl ?_
            refine zj_l2i C dX8_tryLeave_82 ?_
            have e : f_X8_tryLeave S h units hour b = ((((f_X8_day (f_X8_keepIf S b) hour)).toInt32), (f_X8_putIn (f_X8_keepIf S b) 122 h (units.toInt64) hour)) := by refine (zsl_e _).trans ?_; refine (if_neg c_4).trans ?_; refine (if_neg c_11).trans ?_; refine (if_neg c_23).trans ?_; refine (if_neg c_39).trans ?_; refine (if_pos c_59).trans ?_; rfl
            rw [e] at hret
            exact hret _ _ dX8_tryLeave_83
          · have c_59 : ¬ ((units.toInt64) ≤ ((f_X8_units S h.toNatClampNeg) - (f_X8_bound S h.toNatClampNeg))) := c
            refine zj_bipush C (v := (-5)) dX8_tryLeave_63 (by decide) ?_
            have e : f_X8_tryLeave S h units hour b = ((-5), S) := by refine (zsl_e _).trans ?_; refine (if_neg c_4).trans ?_; refine (if_neg c_11).trans ?_; refine (if_neg c_23).trans ?_; refine (if_neg c_39).trans ?_; refine (if_neg c_59).trans ?_; rfl
            rw [e] at hret
            exact hret _ _ dX8_tryLeave_65
        · have c_39 : (lN (zcn S 122)) = 20 := (Classical.not_not.mp c)
          refine zj_bipush C (v := (-4)) dX8_tryLeave_43 (by decide) ?_
          have e : f_X8_tryLeave S h units hour b = ((-4), S) := by refine (zsl_e _).trans ?_; refine (if_neg c_4).trans ?_; refine (if_neg c_11).trans ?_; refine (if_neg c_23).trans ?_; refine (if_pos c_39).trans ?_; rfl
          rw [e] at hret
          exact hret _ _ dX8_tryLeave_45
      · have c_23 : (f_X8_in (hour.toInt64) 0 23) = false := (zB_eq (Classical.not_not.mp c))
        refine zj_bipush C (v := (-2)) dX8_tryLeave_26 (by decide) ?_
        have e : f_X8_tryLeave S h units hour b = ((-2), S) := by refine (zsl_e _).trans ?_; refine (if_neg c_4).trans ?_; refine (if_neg c_11).trans ?_; refine (if_pos c_23).trans ?_; rfl
        rw [e] at hret
        exact hret _ _ dX8_tryLeave_28
  · have c_4 : (f_X8_isHolder h) = false := (zB_eq (Classical.not_not.mp c))
    refine zj_iconst C (v := (-1)) dX8_tryLeave_7 (by decide) ?_
    have e : f_X8_tryLeave S h units hour b = ((-1), S) := by refine (zsl_e _).trans ?_; refine (if_pos c_4).trans ?_; rfl
    rw [e] at hret
    exact hret _ _ dX8_tryLeave_8

noncomputable def f_X8_leave (S : zMs) (h : Int32) (units : Int32) (hour : Int32) : Int32 × zMs :=
  (((f_X8_tryLeave S h units hour true).1), ((f_X8_tryLeave S h units hour true).2))
set_option maxHeartbeats 4000000 in
set_option maxRecDepth 100000 in
theorem c_X8_leave (l : Launch) (D : va_G) (cy : Nat → ClassId) (m : Nat → Nat) (h : Int32) (units : Int32) (hour : Int32)  (S : zMs) (hf : gMs_pf S < 6) (hm : gMs_pm S ≤ 6) (hc : zCk S 122) : zC l yX8_leave (zW yX8_leave cX8_leave 4 (Option.some Jvm.ClassFile.FieldType.int)) { frames := 3, cells := 0, slots := 0, locals := 76 } D cy [.ref (m 0), .int h, .int units, .int hour] (WM cy m S) (some (.int ((f_X8_leave S h units hour).1))) (WM cy m ((f_X8_leave S h units hour).2)) := by
  refine zC_of rfl (Nat.le_of_ble_eq_true rfl) (zOk_i _) (fun E C hret => ?_)
  show zJ E 4 0 0 (WM cy m S) 0 [(0, .ref (m 0)), (1, .int h), (2, .int units), (3, .int hour)] []
  refine zj_aload_n C dX8_leave_0 0 rfl ?_
  refine zj_iload_n C dX8_leave_1 1 rfl ?_
  refine zj_iload_n C dX8_leave_2 2 rfl ?_
  refine zj_iload_n C dX8_leave_3 3 rfl ?_
  refine zj_iconst C (v := (nI 1)) dX8_leave_4 (by decide) ?_
  refine zj_callV C (nn := 10) (ws' := (WM cy m ((f_X8_tryLeave S h units hour true).2))) (st := []) (st1 := [.int ((f_X8_tryLeave S h units hour true).1)]) 0 8 [0, 1, 2, 3, 4, 5, 6, 7, 8, 9] (c_X8_tryLeave l D cy m h units hour true S hf hm hc) (zg_V tg_768 tg_765 tg_767 tgp_19 tg_9) ⟨rfl, hdZ_X8_tryLeave⟩ ⟨rfl, rfl⟩ ⟨by decide, by decide⟩ rfl rfl rfl (by decide) ⟨rfl, rfl⟩ rfl rfl (Nat.le_of_ble_eq_true rfl) dX8_leave_5 rfl rfl ?_
  have e : f_X8_leave S h units hour = (((f_X8_tryLeave S h units hour true).1), ((f_X8_tryLeave S h units hour true).2)) := by rfl
  rw [e] at hret
  exact hret _ _ dX8_leave_8

/-- what inKind rests on -/
def ok_inKind (S : zMs) (h units : Int32) : Prop := f_X8_isHolder h = true → nI 1 ≤ units → units.toInt64 ≤ f_X8_units S h.toNatClampNeg - f_X8_bound S h.toNatClampNeg → ¬ f_X8_issue S = 0 ∧ (0 < units.toInt64 - (if units.toInt64 ≤ f_X8_of S h.toNatClampNeg 0 then units.toInt64 else f_X8_of S h.toNatClampNeg 0) → ¬ f_X8_allNew S = 0)

noncomputable def f_X8_inKind (S : zMs) (h : Int32) (units : Int32) : Int32 × zMs := zsl (
  if (f_X8_isHolder h) = false then
    ((-1), S)
  else
    if (nI 1) ≤ units then
      if (units.toInt64) ≤ ((f_X8_units S h.toNatClampNeg) - (f_X8_bound S h.toNatClampNeg)) then
        ((((((units.toInt64) * ((gMs_at (f_X8_keep S)) 6)) / (f_X8_issue (f_X8_keep S)))).toInt32), (f_X8_add (f_X8_add (f_X8_holdPool (sMs_at (f_X8_goUnits (f_X8_keep S) h.toNatClampNeg (units.toInt64) (f_X8_incomeOfUnit (f_X8_keep S))) (vp_updL (vp_updL (gMs_at (f_X8_goUnits (f_X8_keep S) h.toNatClampNeg (units.toInt64) (f_X8_incomeOfUnit (f_X8_keep S)))) 6 (((gMs_at (f_X8_goUnits (f_X8_keep S) h.toNatClampNeg (units.toInt64) (f_X8_incomeOfUnit (f_X8_keep S)))) 6) - (((units.toInt64) * ((gMs_at (f_X8_keep S)) 6)) / (f_X8_issue (f_X8_keep S))))) 5 (((vp_updL (gMs_at (f_X8_goUnits (f_X8_keep S) h.toNatClampNeg (units.toInt64) (f_X8_incomeOfUnit (f_X8_keep S)))) 6 (((gMs_at (f_X8_goUnits (f_X8_keep S) h.toNatClampNeg (units.toInt64) (f_X8_incomeOfUnit (f_X8_keep S)))) 6) - (((units.toInt64) * ((gMs_at (f_X8_keep S)) 6)) / (f_X8_issue (f_X8_keep S))))) 5) - (((units.toInt64) * ((gMs_at (f_X8_keep S)) 5)) / (f_X8_issue (f_X8_keep S))))))) h.toNatClampNeg 6 (((units.toInt64) * ((gMs_at (f_X8_keep S)) 6)) / (f_X8_issue (f_X8_keep S)))) h.toNatClampNeg 3 (((units.toInt64) * ((gMs_at (f_X8_keep S)) 5)) / (f_X8_issue (f_X8_keep S)))))
      else
        ((-5), S)
    else
      ((-2), S)
  )
set_option maxHeartbeats 4000000 in
set_option maxRecDepth 100000 in
theorem c_X8_inKind (l : Launch) (D : va_G) (cy : Nat → ClassId) (m : Nat → Nat) (h : Int32) (units : Int32)  (S : zMs) (hf : gMs_pf S < 6) (hm : gMs_pm S ≤ 6) (hc : zCk S 122) (hok : ok_inKind S h units) : zC l yX8_inKind (zW yX8_inKind cX8_inKind 7 (Option.some Jvm.ClassFile.FieldType.int)) { frames := 4, cells := 0, slots := 0, locals := 86 } D cy [.ref (m 0), .int h, .int units] (WM cy m S) (some (.int ((f_X8_inKind S h units).1))) (WM cy m ((f_X8_inKind S h units).2)) := by
  refine zC_of rfl (Nat.le_of_ble_eq_true rfl) (zOk_i _) (fun E C hret => ?_)
  show zJ E 7 0 0 (WM cy m S) 0 [(0, .ref (m 0)), (1, .int h), (2, .int units)] []
  refine zj_iload_n C dX8_inKind_0 1 rfl ?_
  refine zj_callS C (nn := 0) (ws' := (WM cy m S)) (st := []) (st1 := [.int (zB (f_X8_isHolder h))]) [] (c_X8_isHolder l D cy h  ) tg_745 tg_743 tg_744 tg_9 hdZ_X8_isHolder ⟨rfl, rfl⟩ ⟨by decide, by decide⟩ rfl (by decide) ⟨rfl, rfl⟩ rfl rfl (Nat.le_of_ble_eq_true rfl) dX8_inKind_1 rfl rfl ?_
  refine zj_if_ne C 9 dX8_inKind_4 (by decide) (fun c => ?_) (fun c => ?_)
  · have c_4 : ¬ ((f_X8_isHolder h) = false) := (zB_neq c)
    refine zj_iload_n C dX8_inKind_9 2 rfl ?_
    refine zj_iconst C (v := (nI 1)) dX8_inKind_10 (by decide) ?_
    refine zj_icmp_ge C 17 dX8_inKind_11 (by decide) (fun c => ?_) (fun c => ?_)
    · have c_11 : (nI 1) ≤ units := c
      refine zj_aload_n C dX8_inKind_17 0 rfl ?_
      refine zj_iload_n C dX8_inKind_18 1 rfl ?_
      refine zj_topi (nI h.toNatClampNeg) (zh_eq c_4) ?_
      refine zj_callV C (nn := 10) (ws' := (WM cy m S)) (st := []) (st1 := [.long (f_X8_units S h.toNatClampNeg)]) 0 8 [0, 1, 2, 3, 4, 5, 6, 7, 8, 9] (c_X8_units l D cy m h.toNatClampNeg S (zh_lt c_4)) (zg_V tg_772 tg_769 tg_771 tgp_20 tg_9) ⟨rfl, hdZ_X8_units⟩ ⟨rfl, rfl⟩ ⟨by decide, by decide⟩ rfl rfl rfl (by decide) ⟨rfl, rfl⟩ rfl rfl (Nat.le_of_ble_eq_true rfl) dX8_inKind_19 rfl rfl ?_
      refine zj_aload_n C dX8_inKind_22 0 rfl ?_
      refine zj_iload_n C dX8_inKind_23 1 rfl ?_
      refine zj_topi (nI h.toNatClampNeg) (zh_eq c_4) ?_
      refine zj_callV C (nn := 10) (ws' := (WM cy m S)) (st := [.long (f_X8_units S h.toNatClampNeg)]) (st1 := [.long (f_X8_bound S h.toNatClampNeg), .long (f_X8_units S h.toNatClampNeg)]) 0 8 [0, 1, 2, 3, 4, 5, 6, 7, 8, 9] (c_X8_bound l D cy m h.toNatClampNeg S (zh_lt c_4) hc) (zg_V tg_780 tg_777 tg_779 tgp_22 tg_9) ⟨rfl, hdZ_X8_bound⟩ ⟨rfl, rfl⟩ ⟨by decide, by decide⟩ rfl rfl rfl (by decide) ⟨rfl, rfl⟩ rfl rfl (Nat.le_of_ble_eq_true rfl) dX8_inKind_24 rfl rfl ?_
      refine zj_lsub C dX8_inKind_27 ?_
      refine zj_iload_n C dX8_inKind_28 2 rfl ?_
      refine zj_i2l C dX8_inKind_29 ?_
      refine zj_lcmp_ge C 37 dX8_inKind_30 dX8_inKind_31 (by decide) (fun c => ?_) (fun c => ?_)
      · have c_30 : (units.toInt64) ≤ ((f_X8_units S h.toNatClampNeg) - (f_X8_bound S h.toNatClampNeg)) := c
        refine zj_aload_n C dX8_inKind_37 0 rfl ?_
        refine zj_callV C (nn := 10) (ws' := (WM cy m (f_X8_keep S))) (st := []) (st1 := []) 0 8 [0, 1, 2, 3, 4, 5, 6, 7, 8, 9] (c_X8_keep l D cy m  S hf hm) (zg_V tg_734 tg_731 tg_733 tgp_14 tg_9) ⟨rfl, hdZ_X8_keep⟩ ⟨rfl, rfl⟩ ⟨by decide, by decide⟩ rfl rfl rfl (by decide) ⟨rfl, rfl⟩ rfl rfl (Nat.le_of_ble_eq_true rfl) dX8_inKind_38 rfl rfl ?_
        refine zj_iload_n C dX8_inKind_41 2 rfl ?_
        refine zj_i2l C dX8_inKind_42 ?_
        refine zj_aload_n C dX8_inKind_43 0 rfl ?_
        refine zj_get C 0 8 0 (v := .ref (m 1)) inZ8 rfl rfl (by decide) tg_677 rfl dX8_inKind_44 ?_
        refine zj_bipush C (v := (nI 6)) dX8_inKind_47 (by decide) ?_
        refine zj_lald C 1 (f := (gMs_at (f_X8_keep S))) 6 (by decide) (vp_in_nI (by decide) (by decide)) rfl dX8_inKind_49 ?_
        refine zj_lmul C dX8_inKind_50 ?_
        refine zj_aload_n C dX8_inKind_51 0 rfl ?_
        refine zj_callV C (nn := 10) (ws' := (WM cy m (f_X8_keep S))) (st := [.long ((units.toInt64) * ((gMs_at (f_X8_keep S)) 6))]) (st1 := [.long (f_X8_issue (f_X8_keep S)), .long ((units.toInt64) * ((gMs_at (f_X8_keep S)) 6))]) 0 8 [0, 1, 2, 3, 4, 5, 6, 7, 8, 9] (c_X8_issue l D cy m  (f_X8_keep S) ) (zg_V tg_788 tg_785 tg_787 tgp_23 tg_9) ⟨rfl, hdZ_X8_issue⟩ ⟨rfl, rfl⟩ ⟨by decide, by decide⟩ rfl rfl rfl (by decide) ⟨rfl, rfl⟩ rfl rfl (Nat.le_of_ble_eq_true rfl) dX8_inKind_52 rfl rfl ?_
        refine zj_ldiv C dX8_inKind_55 (hok (zbt c_4) c_11 c_30).1 ?_
        refine zj_lstore_n C (L' := [(3, .long (((units.toInt64) * ((gMs_at (f_X8_keep S)) 6)) / (f_X8_issue (f_X8_keep S)))), (0, .ref (m 0)), (1, .int h), (2, .int units)]) dX8_inKind_56 rfl (by decide) rfl ?_
        refine zj_iload_n C dX8_inKind_57 3 rfl ?_
        refine zj_i2l C dX8_inKind_58 ?_
        refine zj_aload_n C dX8_inKind_59 1 rfl ?_
        refine zj_get C 0 8 0 (v := .ref (m 1)) inZ8 rfl rfl (by decide) tg_677 rfl dX8_inKind_60 ?_
        refine zj_iconst C (v := (nI 5)) dX8_inKind_63 (by decide) ?_
        refine zj_lald C 1 (f := (gMs_at (f_X8_keep S))) 5 (by decide) (vp_in_nI (by decide) (by decide)) rfl dX8_inKind_64 ?_
        refine zj_lmul C dX8_inKind_65 ?_
        refine zj_aload_n C dX8_inKind_66 1 rfl ?_
        refine zj_callV C (nn := 10) (ws' := (WM cy m (f_X8_keep S))) (st := [.long ((units.toInt64) * ((gMs_at (f_X8_keep S)) 5))]) (st1 := [.long (f_X8_issue (f_X8_keep S)), .long ((units.toInt64) * ((gMs_at (f_X8_keep S)) 5))]) 0 8 [0, 1, 2, 3, 4, 5, 6, 7, 8, 9] (c_X8_issue l D cy m  (f_X8_keep S) ) (zg_V tg_788 tg_785 tg_787 tgp_23 tg_9) ⟨rfl, hdZ_X8_issue⟩ ⟨rfl, rfl⟩ ⟨by decide, by decide⟩ rfl rfl rfl (by decide) ⟨rfl, rfl⟩ rfl rfl (Nat.le_of_ble_eq_true rfl) dX8_inKind_67 rfl rfl ?_
        refine zj_ldiv C dX8_inKind_70 (hok (zbt c_4) c_11 c_30).1 ?_
        refine zj_lstore C (L' := [(5, .long (((units.toInt64) * ((gMs_at (f_X8_keep S)) 5)) / (f_X8_issue (f_X8_keep S)))), (3, .long (((units.toInt64) * ((gMs_at (f_X8_keep S)) 6)) / (f_X8_issue (f_X8_keep S)))), (0, .ref (m 0)), (1, .int h), (2, .int units)]) dX8_inKind_71 (by decide) rfl ?_
        refine zj_aload_n C dX8_inKind_73 2 rfl ?_
        refine zj_iload_n C dX8_inKind_74 3 rfl ?_
        refine zj_topi (nI h.toNatClampNeg) (zh_eq c_4) ?_
        refine zj_iload_n C dX8_inKind_75 4 rfl ?_
        refine zj_i2l C dX8_inKind_76 ?_
        refine zj_aload_n C dX8_inKind_77 2 rfl ?_
        refine zj_callV C (nn := 10) (ws' := (WM cy m (f_X8_keep S))) (st := [.long (units.toInt64), .int (nI h.toNatClampNeg), .ref (m 0)]) (st1 := [.long (f_X8_incomeOfUnit (f_X8_keep S)), .long (units.toInt64), .int (nI h.toNatClampNeg), .ref (m 0)]) 0 8 [0, 1, 2, 3, 4, 5, 6, 7, 8, 9] (c_X8_incomeOfUnit l D cy m  (f_X8_keep S) ) (zg_V tg_792 tg_789 tg_791 tgp_24 tg_9) ⟨rfl, hdZ_X8_incomeOfUnit⟩ ⟨rfl, rfl⟩ ⟨by decide, by decide⟩ rfl rfl rfl (by decide) ⟨rfl, rfl⟩ rfl rfl (Nat.le_of_ble_eq_true rfl) dX8_inKind_78 rfl rfl ?_
        refine zj_callV C (nn := 10) (ws' := (WM cy m (f_X8_goUnits (f_X8_keep S) h.toNatClampNeg (units.toInt64) (f_X8_incomeOfUnit (f_X8_keep S))))) (st := []) (st1 := []) 0 8 [0, 1, 2, 3, 4, 5, 6, 7, 8, 9] (c_X8_goUnits l D cy m h.toNatClampNeg (units.toInt64) (f_X8_incomeOfUnit (f_X8_keep S)) (f_X8_keep S) (zh_lt c_4) (hok (zbt c_4) c_11 c_30).2) (zg_V tg_796 tg_793 tg_795 tgp_25 tg_9) ⟨rfl, hdZ_X8_goUnits⟩ ⟨rfl, rfl⟩ ⟨by decide, by decide⟩ rfl rfl rfl (by decide) ⟨rfl, rfl⟩ rfl rfl (Nat.le_of_ble_eq_true rfl) dX8_inKind_81 rfl rfl ?_
        refine zj_aload_n C dX8_inKind_84 2 rfl ?_
        refine zj_get C 0 8 0 (v := .ref (m 1)) inZ8 rfl rfl (by decide) tg_677 rfl dX8_inKind_85 ?_
        refine zj_bipush C (v := (nI 6)) dX8_inKind_88 (by decide) ?_
        refine zj_dup2 C dX8_inKind_90 rfl rfl ?_
        refine zj_lald C 1 (f := (gMs_at (f_X8_goUnits (f_X8_keep S) h.toNatClampNeg (units.toInt64) (f_X8_incomeOfUnit (f_X8_keep S))))) 6 (by decide) (vp_in_nI (by decide) (by decide)) rfl dX8_inKind_91 ?_
        refine zj_lload_n C dX8_inKind_92 1 rfl ?_
        refine zj_lsub C dX8_inKind_93 ?_
        refine zj_last C 1 (f := (gMs_at (f_X8_goUnits (f_X8_keep S) h.toNatClampNeg (units.toInt64) (f_X8_incomeOfUnit (f_X8_keep S))))) (ws' := (WM cy m (sMs_at (f_X8_goUnits (f_X8_keep S) h.toNatClampNeg (units.toInt64) (f_X8_incomeOfUnit (f_X8_keep S))) (vp_updL (gMs_at (f_X8_goUnits (f_X8_keep S) h.toNatClampNeg (units.toInt64) (f_X8_incomeOfUnit (f_X8_keep S)))) 6 (((gMs_at (f_X8_goUnits (f_X8_keep S) h.toNatClampNeg (units.toInt64) (f_X8_incomeOfUnit (f_X8_keep S)))) 6) - (((units.toInt64) * ((gMs_at (f_X8_keep S)) 6)) / (f_X8_issue (f_X8_keep S)))))))) 6 (by decide) (vp_in_nI (by decide) (by decide)) rfl dX8_inKind_94 rfl ?_
        refine zj_aload_n C dX8_inKind_95 2 rfl ?_
        refine zj_get C 0 8 0 (v := .ref (m 1)) inZ8 rfl rfl (by decide) tg_677 rfl dX8_inKind_96 ?_
        refine zj_iconst C (v := (nI 5)) dX8_inKind_99 (by decide) ?_
        refine zj_dup2 C dX8_inKind_100 rfl rfl ?_
        refine zj_lald C 1 (f := (vp_updL (gMs_at (f_X8_goUnits (f_X8_keep S) h.toNatClampNeg (units.toInt64) (f_X8_incomeOfUnit (f_X8_keep S)))) 6 (((gMs_at (f_X8_goUnits (f_X8_keep S) h.toNatClampNeg (units.toInt64) (f_X8_incomeOfUnit (f_X8_keep S)))) 6) - (((units.toInt64) * ((gMs_at (f_X8_keep S)) 6)) / (f_X8_issue (f_X8_keep S)))))) 5 (by decide) (vp_in_nI (by decide) (by decide)) rfl dX8_inKind_101 ?_
        refine zj_lload C dX8_inKind_102 0 rfl ?_
        refine zj_lsub C dX8_inKind_104 ?_
        refine zj_last C 1 (f := (vp_updL (gMs_at (f_X8_goUnits (f_X8_keep S) h.toNatClampNeg (units.toInt64) (f_X8_incomeOfUnit (f_X8_keep S)))) 6 (((gMs_at (f_X8_goUnits (f_X8_keep S) h.toNatClampNeg (units.toInt64) (f_X8_incomeOfUnit (f_X8_keep S)))) 6) - (((units.toInt64) * ((gMs_at (f_X8_keep S)) 6)) / (f_X8_issue (f_X8_keep S)))))) (ws' := (WM cy m (sMs_at (f_X8_goUnits (f_X8_keep S) h.toNatClampNeg (units.toInt64) (f_X8_incomeOfUnit (f_X8_keep S))) (vp_updL (vp_updL (gMs_at (f_X8_goUnits (f_X8_keep S) h.toNatClampNeg (units.toInt64) (f_X8_incomeOfUnit (f_X8_keep S)))) 6 (((gMs_at (f_X8_goUnits (f_X8_keep S) h.toNatClampNeg (units.toInt64) (f_X8_incomeOfUnit (f_X8_keep S)))) 6) - (((units.toInt64) * ((gMs_at (f_X8_keep S)) 6)) / (f_X8_issue (f_X8_keep S))))) 5 (((vp_updL (gMs_at (f_X8_goUnits (f_X8_keep S) h.toNatClampNeg (units.toInt64) (f_X8_incomeOfUnit (f_X8_keep S)))) 6 (((gMs_at (f_X8_goUnits (f_X8_keep S) h.toNatClampNeg (units.toInt64) (f_X8_incomeOfUnit (f_X8_keep S)))) 6) - (((units.toInt64) * ((gMs_at (f_X8_keep S)) 6)) / (f_X8_issue (f_X8_keep S))))) 5) - (((units.toInt64) * ((gMs_at (f_X8_keep S)) 5)) / (f_X8_issue (f_X8_keep S)))))))) 5 (by decide) (vp_in_nI (by decide) (by decide)) rfl dX8_inKind_105 rfl ?_
        refine zj_aload_n C dX8_inKind_106 2 rfl ?_
        refine zj_callV C (nn := 10) (ws' := (WM cy m (f_X8_holdPool (sMs_at (f_X8_goUnits (f_X8_keep S) h.toNatClampNeg (units.toInt64) (f_X8_incomeOfUnit (f_X8_keep S))) (vp_updL (vp_updL (gMs_at (f_X8_goUnits (f_X8_keep S) h.toNatClampNeg (units.toInt64) (f_X8_incomeOfUnit (f_X8_keep S)))) 6 (((gMs_at (f_X8_goUnits (f_X8_keep S) h.toNatClampNeg (units.toInt64) (f_X8_incomeOfUnit (f_X8_keep S)))) 6) - (((units.toInt64) * ((gMs_at (f_X8_keep S)) 6)) / (f_X8_issue (f_X8_keep S))))) 5 (((vp_updL (gMs_at (f_X8_goUnits (f_X8_keep S) h.toNatClampNeg (units.toInt64) (f_X8_incomeOfUnit (f_X8_keep S)))) 6 (((gMs_at (f_X8_goUnits (f_X8_keep S) h.toNatClampNeg (units.toInt64) (f_X8_incomeOfUnit (f_X8_keep S)))) 6) - (((units.toInt64) * ((gMs_at (f_X8_keep S)) 6)) / (f_X8_issue (f_X8_keep S))))) 5) - (((units.toInt64) * ((gMs_at (f_X8_keep S)) 5)) / (f_X8_issue (f_X8_keep S))))))))) (st := []) (st1 := []) 0 8 [0, 1, 2, 3, 4, 5, 6, 7, 8, 9] (c_X8_holdPool l D cy m  (sMs_at (f_X8_goUnits (f_X8_keep S) h.toNatClampNeg (units.toInt64) (f_X8_incomeOfUnit (f_X8_keep S))) (vp_updL (vp_updL (gMs_at (f_X8_goUnits (f_X8_keep S) h.toNatClampNeg (units.toInt64) (f_X8_incomeOfUnit (f_X8_keep S)))) 6 (((gMs_at (f_X8_goUnits (f_X8_keep S) h.toNatClampNeg (units.toInt64) (f_X8_incomeOfUnit (f_X8_keep S)))) 6) - (((units.toInt64) * ((gMs_at (f_X8_keep S)) 6)) / (f_X8_issue (f_X8_keep S))))) 5 (((vp_updL (gMs_at (f_X8_goUnits (f_X8_keep S) h.toNatClampNeg (units.toInt64) (f_X8_incomeOfUnit (f_X8_keep S)))) 6 (((gMs_at (f_X8_goUnits (f_X8_keep S) h.toNatClampNeg (units.toInt64) (f_X8_incomeOfUnit (f_X8_keep S)))) 6) - (((units.toInt64) * ((gMs_at (f_X8_keep S)) 6)) / (f_X8_issue (f_X8_keep S))))) 5) - (((units.toInt64) * ((gMs_at (f_X8_keep S)) 5)) / (f_X8_issue (f_X8_keep S)))))) ) (zg_V tg_808 tg_805 tg_807 tgp_28 tg_9) ⟨rfl, hdZ_X8_holdPool⟩ ⟨rfl, rfl⟩ ⟨by decide, by decide⟩ rfl rfl rfl (by decide) ⟨rfl, rfl⟩ rfl rfl (Nat.le_of_ble_eq_true rfl) dX8_inKind_107 rfl rfl ?_
        refine zj_aload_n C dX8_inKind_110 2 rfl ?_
        refine zj_iload_n C dX8_inKind_111 3 rfl ?_
        refine zj_topi (nI h.toNatClampNeg) (zh_eq c_4) ?_
        refine zj_bipush C (v := (nI 6)) dX8_inKind_112 (by decide) ?_
        refine zj_lload_n C dX8_inKind_114 1 rfl ?_
        refine zj_callV C (nn := 10) (ws' := (WM cy m (f_X8_add (f_X8_holdPool (sMs_at (f_X8_goUnits (f_X8_keep S) h.toNatClampNeg (units.toInt64) (f_X8_incomeOfUnit (f_X8_keep S))) (vp_updL (vp_updL (gMs_at (f_X8_goUnits (f_X8_keep S) h.toNatClampNeg (units.toInt64) (f_X8_incomeOfUnit (f_X8_keep S)))) 6 (((gMs_at (f_X8_goUnits (f_X8_keep S) h.toNatClampNeg (units.toInt64) (f_X8_incomeOfUnit (f_X8_keep S)))) 6) - (((units.toInt64) * ((gMs_at (f_X8_keep S)) 6)) / (f_X8_issue (f_X8_keep S))))) 5 (((vp_updL (gMs_at (f_X8_goUnits (f_X8_keep S) h.toNatClampNeg (units.toInt64) (f_X8_incomeOfUnit (f_X8_keep S)))) 6 (((gMs_at (f_X8_goUnits (f_X8_keep S) h.toNatClampNeg (units.toInt64) (f_X8_incomeOfUnit (f_X8_keep S)))) 6) - (((units.toInt64) * ((gMs_at (f_X8_keep S)) 6)) / (f_X8_issue (f_X8_keep S))))) 5) - (((units.toInt64) * ((gMs_at (f_X8_keep S)) 5)) / (f_X8_issue (f_X8_keep S))))))) h.toNatClampNeg 6 (((units.toInt64) * ((gMs_at (f_X8_keep S)) 6)) / (f_X8_issue (f_X8_keep S)))))) (st := []) (st1 := []) 0 8 [0, 1, 2, 3, 4, 5, 6, 7, 8, 9] (c_X8_add l D cy m h.toNatClampNeg 6 (((units.toInt64) * ((gMs_at (f_X8_keep S)) 6)) / (f_X8_issue (f_X8_keep S))) (f_X8_holdPool (sMs_at (f_X8_goUnits (f_X8_keep S) h.toNatClampNeg (units.toInt64) (f_X8_incomeOfUnit (f_X8_keep S))) (vp_updL (vp_updL (gMs_at (f_X8_goUnits (f_X8_keep S) h.toNatClampNeg (units.toInt64) (f_X8_incomeOfUnit (f_X8_keep S)))) 6 (((gMs_at (f_X8_goUnits (f_X8_keep S) h.toNatClampNeg (units.toInt64) (f_X8_incomeOfUnit (f_X8_keep S)))) 6) - (((units.toInt64) * ((gMs_at (f_X8_keep S)) 6)) / (f_X8_issue (f_X8_keep S))))) 5 (((vp_updL (gMs_at (f_X8_goUnits (f_X8_keep S) h.toNatClampNeg (units.toInt64) (f_X8_incomeOfUnit (f_X8_keep S)))) 6 (((gMs_at (f_X8_goUnits (f_X8_keep S) h.toNatClampNeg (units.toInt64) (f_X8_incomeOfUnit (f_X8_keep S)))) 6) - (((units.toInt64) * ((gMs_at (f_X8_keep S)) 6)) / (f_X8_issue (f_X8_keep S))))) 5) - (((units.toInt64) * ((gMs_at (f_X8_keep S)) 5)) / (f_X8_issue (f_X8_keep S))))))) (zh_lt c_4) (by decide)) (zg_V tg_804 tg_801 tg_803 tgp_27 tg_9) ⟨rfl, hdZ_X8_add⟩ ⟨rfl, rfl⟩ ⟨by decide, by decide⟩ rfl rfl rfl (by decide) ⟨rfl, rfl⟩ rfl rfl (Nat.le_of_ble_eq_true rfl) dX8_inKind_115 rfl rfl ?_
        refine zj_aload_n C dX8_inKind_118 2 rfl ?_
        refine zj_iload_n C dX8_inKind_119 3 rfl ?_
        refine zj_topi (nI h.toNatClampNeg) (zh_eq c_4) ?_
        refine zj_iconst C (v := (nI 3)) dX8_inKind_120 (by decide) ?_
        refine zj_lload C dX8_inKind_121 0 rfl ?_
        refine zj_callV C (nn := 10) (ws' := (WM cy m (f_X8_add (f_X8_add (f_X8_holdPool (sMs_at (f_X8_goUnits (f_X8_keep S) h.toNatClampNeg (units.toInt64) (f_X8_incomeOfUnit (f_X8_keep S))) (vp_updL (vp_updL (gMs_at (f_X8_goUnits (f_X8_keep S) h.toNatClampNeg (units.toInt64) (f_X8_incomeOfUnit (f_X8_keep S)))) 6 (((gMs_at (f_X8_goUnits (f_X8_keep S) h.toNatClampNeg (units.toInt64) (f_X8_incomeOfUnit (f_X8_keep S)))) 6) - (((units.toInt64) * ((gMs_at (f_X8_keep S)) 6)) / (f_X8_issue (f_X8_keep S))))) 5 (((vp_updL (gMs_at (f_X8_goUnits (f_X8_keep S) h.toNatClampNeg (units.toInt64) (f_X8_incomeOfUnit (f_X8_keep S)))) 6 (((gMs_at (f_X8_goUnits (f_X8_keep S) h.toNatClampNeg (units.toInt64) (f_X8_incomeOfUnit (f_X8_keep S)))) 6) - (((units.toInt64) * ((gMs_at (f_X8_keep S)) 6)) / (f_X8_issue (f_X8_keep S))))) 5) - (((units.toInt64) * ((gMs_at (f_X8_keep S)) 5)) / (f_X8_issue (f_X8_keep S))))))) h.toNatClampNeg 6 (((units.toInt64) * ((gMs_at (f_X8_keep S)) 6)) / (f_X8_issue (f_X8_keep S)))) h.toNatClampNeg 3 (((units.toInt64) * ((gMs_at (f_X8_keep S)) 5)) / (f_X8_issue (f_X8_keep S)))))) (st := []) (st1 := []) 0 8 [0, 1, 2, 3, 4, 5, 6, 7, 8, 9] (c_X8_add l D cy m h.toNatClampNeg 3 (((units.toInt64) * ((gMs_at (f_X8_keep S)) 5)) / (f_X8_issue (f_X8_keep S))) (f_X8_add (f_X8_holdPool (sMs_at (f_X8_goUnits (f_X8_keep S) h.toNatClampNeg (units.toInt64) (f_X8_incomeOfUnit (f_X8_keep S))) (vp_updL (vp_updL (gMs_at (f_X8_goUnits (f_X8_keep S) h.toNatClampNeg (units.toInt64) (f_X8_incomeOfUnit (f_X8_keep S)))) 6 (((gMs_at (f_X8_goUnits (f_X8_keep S) h.toNatClampNeg (units.toInt64) (f_X8_incomeOfUnit (f_X8_keep S)))) 6) - (((units.toInt64) * ((gMs_at (f_X8_keep S)) 6)) / (f_X8_issue (f_X8_keep S))))) 5 (((vp_updL (gMs_at (f_X8_goUnits (f_X8_keep S) h.toNatClampNeg (units.toInt64) (f_X8_incomeOfUnit (f_X8_keep S)))) 6 (((gMs_at (f_X8_goUnits (f_X8_keep S) h.toNatClampNeg (units.toInt64) (f_X8_incomeOfUnit (f_X8_keep S)))) 6) - (((units.toInt64) * ((gMs_at (f_X8_keep S)) 6)) / (f_X8_issue (f_X8_keep S))))) 5) - (((units.toInt64) * ((gMs_at (f_X8_keep S)) 5)) / (f_X8_issue (f_X8_keep S))))))) h.toNatClampNeg 6 (((units.toInt64) * ((gMs_at (f_X8_keep S)) 6)) / (f_X8_issue (f_X8_keep S)))) (zh_lt c_4) (by decide)) (zg_V tg_804 tg_801 tg_803 tgp_27 tg_9) ⟨rfl, hdZ_X8_add⟩ ⟨rfl, rfl⟩ ⟨by decide, by decide⟩ rfl rfl rfl (by decide) ⟨rfl, rfl⟩ rfl rfl (Nat.le_of_ble_eq_true rfl) dX8_inKind_123 rfl rfl ?_
        refine zj_lload_n C dX8_inKind_126 1 rfl ?_
        refine zj_l2i C dX8_inKind_127 ?_
        have e : f_X8_inKind S h units = ((((((units.toInt64) * ((gMs_at (f_X8_keep S)) 6)) / (f_X8_issue (f_X8_keep S)))).toInt32), (f_X8_add (f_X8_add (f_X8_holdPool (sMs_at (f_X8_goUnits (f_X8_keep S) h.toNatClampNeg (units.toInt64) (f_X8_incomeOfUnit (f_X8_keep S))) (vp_updL (vp_updL (gMs_at (f_X8_goUnits (f_X8_keep S) h.toNatClampNeg (units.toInt64) (f_X8_incomeOfUnit (f_X8_keep S)))) 6 (((gMs_at (f_X8_goUnits (f_X8_keep S) h.toNatClampNeg (units.toInt64) (f_X8_incomeOfUnit (f_X8_keep S)))) 6) - (((units.toInt64) * ((gMs_at (f_X8_keep S)) 6)) / (f_X8_issue (f_X8_keep S))))) 5 (((vp_updL (gMs_at (f_X8_goUnits (f_X8_keep S) h.toNatClampNeg (units.toInt64) (f_X8_incomeOfUnit (f_X8_keep S)))) 6 (((gMs_at (f_X8_goUnits (f_X8_keep S) h.toNatClampNeg (units.toInt64) (f_X8_incomeOfUnit (f_X8_keep S)))) 6) - (((units.toInt64) * ((gMs_at (f_X8_keep S)) 6)) / (f_X8_issue (f_X8_keep S))))) 5) - (((units.toInt64) * ((gMs_at (f_X8_keep S)) 5)) / (f_X8_issue (f_X8_keep S))))))) h.toNatClampNeg 6 (((units.toInt64) * ((gMs_at (f_X8_keep S)) 6)) / (f_X8_issue (f_X8_keep S)))) h.toNatClampNeg 3 (((units.toInt64) * ((gMs_at (f_X8_keep S)) 5)) / (f_X8_issue (f_X8_keep S))))) := by refine (zsl_e _).trans ?_; refine (if_neg c_4).trans ?_; refine (if_pos c_11).trans ?_; refine (if_pos c_30).trans ?_; rfl
        rw [e] at hret
        exact hret _ _ dX8_inKind_128
      · have c_30 : ¬ ((units.toInt64) ≤ ((f_X8_units S h.toNatClampNeg) - (f_X8_bound S h.toNatClampNeg))) := c
        refine zj_bipush C (v := (-5)) dX8_inKind_34 (by decide) ?_
        have e : f_X8_inKind S h units = ((-5), S) := by refine (zsl_e _).trans ?_; refine (if_neg c_4).trans ?_; refine (if_pos c_11).trans ?_; refine (if_neg c_30).trans ?_; rfl
        rw [e] at hret
        exact hret _ _ dX8_inKind_36
    · have c_11 : ¬ ((nI 1) ≤ units) := c
      refine zj_bipush C (v := (-2)) dX8_inKind_14 (by decide) ?_
      have e : f_X8_inKind S h units = ((-2), S) := by refine (zsl_e _).trans ?_; refine (if_neg c_4).trans ?_; refine (if_neg c_11).trans ?_; rfl
      rw [e] at hret
      exact hret _ _ dX8_inKind_16
  · have c_4 : (f_X8_isHolder h) = false := (zB_eq (Classical.not_not.mp c))
    refine zj_iconst C (v := (-1)) dX8_inKind_7 (by decide) ?_
    have e : f_X8_inKind S h units = ((-1), S) := by refine (zsl_e _).trans ?_; refine (if_pos c_4).trans ?_; rfl
    rw [e] at hret
    exact hret _ _ dX8_inKind_8

noncomputable def f_X8_mayLeave (S : zMs) : Int64 := zsl (
  let x32_0 : Int64 := (if ((((gMs_at S) 3) * (f_X8_issue S)) / 1000) ≤ (f_X8_sumOf S 122 ((gMs_at S) 10)) then ((((gMs_at S) 3) * (f_X8_issue S)) / 1000) else (f_X8_sumOf S 122 ((gMs_at S) 10)))
  x32_0
  )
set_option maxHeartbeats 4000000 in
set_option maxRecDepth 100000 in
theorem c_X8_mayLeave (l : Launch) (D : va_G) (cy : Nat → ClassId) (m : Nat → Nat)   (S : zMs) (hc : zCk S 122) : zC l yX8_mayLeave (zW yX8_mayLeave cX8_mayLeave 5 (Option.some Jvm.ClassFile.FieldType.long)) { frames := 3, cells := 0, slots := 0, locals := 66 } D cy [.ref (m 0)] (WM cy m S) (some (.long (f_X8_mayLeave S))) (WM cy m S) := by
  refine zC_of rfl (Nat.le_of_ble_eq_true rfl) (zOk_l _) (fun E C hret => ?_)
  show zJ E 5 0 0 (WM cy m S) 0 [(0, .ref (m 0))] []
  refine zj_aload_n C dX8_mayLeave_0 0 rfl ?_
  refine zj_bipush C (v := (nI 122)) dX8_mayLeave_1 (by decide) ?_
  refine zj_aload_n C dX8_mayLeave_3 0 rfl ?_
  refine zj_get C 0 8 0 (v := .ref (m 1)) inZ8 rfl rfl (by decide) tg_677 rfl dX8_mayLeave_4 ?_
  refine zj_bipush C (v := (nI 10)) dX8_mayLeave_7 (by decide) ?_
  refine zj_lald C 1 (f := (gMs_at S)) 10 (by decide) (vp_in_nI (by decide) (by decide)) rfl dX8_mayLeave_9 ?_
  refine zj_callV C (nn := 10) (ws' := (WM cy m S)) (st := []) (st1 := [.long (f_X8_sumOf S 122 ((gMs_at S) 10))]) 0 8 [0, 1, 2, 3, 4, 5, 6, 7, 8, 9] (c_X8_sumOf l D cy m 122 ((gMs_at S) 10) S (by decide) hc) (zg_V tg_841 tg_838 tg_840 tgp_35 tg_9) ⟨rfl, hdZ_X8_sumOf⟩ ⟨rfl, rfl⟩ ⟨by decide, by decide⟩ rfl rfl rfl (by decide) ⟨rfl, rfl⟩ rfl rfl (Nat.le_of_ble_eq_true rfl) dX8_mayLeave_10 rfl rfl ?_
  refine zj_lstore_n C (L' := [(1, .long (f_X8_sumOf S 122 ((gMs_at S) 10))), (0, .ref (m 0))]) dX8_mayLeave_13 rfl (by decide) rfl ?_
  refine zj_aload_n C dX8_mayLeave_14 1 rfl ?_
  refine zj_get C 0 8 0 (v := .ref (m 1)) inZ8 rfl rfl (by decide) tg_677 rfl dX8_mayLeave_15 ?_
  refine zj_iconst C (v := (nI 3)) dX8_mayLeave_18 (by decide) ?_
  refine zj_lald C 1 (f := (gMs_at S)) 3 (by decide) (vp_in_nI (by decide) (by decide)) rfl dX8_mayLeave_19 ?_
  refine zj_aload_n C dX8_mayLeave_20 1 rfl ?_
  refine zj_callV C (nn := 10) (ws' := (WM cy m S)) (st := [.long ((gMs_at S) 3)]) (st1 := [.long (f_X8_issue S), .long ((gMs_at S) 3)]) 0 8 [0, 1, 2, 3, 4, 5, 6, 7, 8, 9] (c_X8_issue l D cy m  S ) (zg_V tg_788 tg_785 tg_787 tgp_23 tg_9) ⟨rfl, hdZ_X8_issue⟩ ⟨rfl, rfl⟩ ⟨by decide, by decide⟩ rfl rfl rfl (by decide) ⟨rfl, rfl⟩ rfl rfl (Nat.le_of_ble_eq_true rfl) dX8_mayLeave_21 rfl rfl ?_
  refine zj_lmul C dX8_mayLeave_24 ?_
  refine zj_ldc2 C dX8_mayLeave_25 tg_675 ?_
  refine zj_ldiv C dX8_mayLeave_28 (by decide) ?_
  refine zj_lstore_n C (L' := [(3, .long ((((gMs_at S) 3) * (f_X8_issue S)) / 1000)), (1, .long (f_X8_sumOf S 122 ((gMs_at S) 10))), (0, .ref (m 0))]) dX8_mayLeave_29 rfl (by decide) rfl ?_
  refine zj_lload_n C dX8_mayLeave_30 1 rfl ?_
  refine zj_lload_n C dX8_mayLeave_31 0 rfl ?_
  have J_32 : ∀ (x32_0 : Int64), x32_0 = (if ((((gMs_at S) 3) * (f_X8_issue S)) / 1000) ≤ (f_X8_sumOf S 122 ((gMs_at S) 10)) then ((((gMs_at S) 3) * (f_X8_issue S)) / 1000) else (f_X8_sumOf S 122 ((gMs_at S) 10))) → zJ E 5 0 0 (WM cy m S) 41 [(3, .long ((((gMs_at S) 3) * (f_X8_issue S)) / 1000)), (1, .long (f_X8_sumOf S 122 ((gMs_at S) 10))), (0, .ref (m 0))] [.long x32_0] := by
    intro x32_0 hx32_0
    subst hx32_0
    have e : f_X8_mayLeave S = (if ((((gMs_at S) 3) * (f_X8_issue S)) / 1000) ≤ (f_X8_sumOf S 122 ((gMs_at S) 10)) then ((((gMs_at S) 3) * (f_X8_issue S)) / 1000) else (f_X8_sumOf S 122 ((gMs_at S) 10))) := by refine (zsl_e _).trans ?_; rfl
    rw [e] at hret
    exact hret _ _ dX8_mayLeave_41
  refine zj_lcmp_ge C 40 dX8_mayLeave_32 dX8_mayLeave_33 (by decide) (fun c => ?_) (fun c => ?_)
  · have c_32 : ((((gMs_at S) 3) * (f_X8_issue S)) / 1000) ≤ (f_X8_sumOf S 122 ((gMs_at S) 10)) := c
    refine zj_lload_n C dX8_mayLeave_40 0 rfl ?_
    exact J_32 ((((gMs_at S) 3) * (f_X8_issue S)) / 1000) (by simp only [if_pos c_32]; first | done | assumption)
  · have c_32 : ¬ (((((gMs_at S) 3) * (f_X8_issue S)) / 1000) ≤ (f_X8_sumOf S 122 ((gMs_at S) 10))) := c
    refine zj_lload_n C dX8_mayLeave_36 1 rfl ?_
    refine zj_goto C 41 dX8_mayLeave_37 (by decide) ?_
    exact J_32 (f_X8_sumOf S 122 ((gMs_at S) 10)) (by simp only [if_neg c_32]; first | done | assumption)

noncomputable def f_X8_swing (S : zMs) : Int32 := zsl (
  if (f_X8_issue S) = 0 then
    (nI 2)
  else
    let x53_0 : Nat := (if ((f_X8_sumOf S 61 ((gMs_at S) 10)) - (((f_X8_mayLeave S) * (f_X8_middle S)) / 1000)) ≤ 0 then (if 0 ≤ ((f_X8_sumOf S 61 ((gMs_at S) 10)) - (((f_X8_mayLeave S) * (f_X8_middle S)) / 1000)) then 2 else (if (-(((gMs_at S) 1) * (f_X8_value S))) ≤ (1000 * ((f_X8_sumOf S 61 ((gMs_at S) 10)) - (((f_X8_mayLeave S) * (f_X8_middle S)) / 1000))) then 2 else 1)) else (if (1000 * ((f_X8_sumOf S 61 ((gMs_at S) 10)) - (((f_X8_mayLeave S) * (f_X8_middle S)) / 1000))) ≤ (((gMs_at S) 1) * (f_X8_value S)) then (if 0 ≤ ((f_X8_sumOf S 61 ((gMs_at S) 10)) - (((f_X8_mayLeave S) * (f_X8_middle S)) / 1000)) then 2 else (if (-(((gMs_at S) 1) * (f_X8_value S))) ≤ (1000 * ((f_X8_sumOf S 61 ((gMs_at S) 10)) - (((f_X8_mayLeave S) * (f_X8_middle S)) / 1000))) then 2 else 1)) else 3))
    (nI x53_0)
  )
set_option maxHeartbeats 4000000 in
set_option maxRecDepth 100000 in
theorem c_X8_swing (l : Launch) (D : va_G) (cy : Nat → ClassId) (m : Nat → Nat)   (S : zMs) (hb : zCk S 61) (hc : zCk S 122) : zC l yX8_swing (zW yX8_swing cX8_swing 5 (Option.some Jvm.ClassFile.FieldType.int)) { frames := 4, cells := 0, slots := 0, locals := 90 } D cy [.ref (m 0)] (WM cy m S) (some (.int (f_X8_swing S))) (WM cy m S) := by
  refine zC_of rfl (Nat.le_of_ble_eq_true rfl) (zOk_i _) (fun E C hret => ?_)
  show zJ E 5 0 0 (WM cy m S) 0 [(0, .ref (m 0))] []
  refine zj_aload_n C dX8_swing_0 0 rfl ?_
  refine zj_bipush C (v := (nI 61)) dX8_swing_1 (by decide) ?_
  refine zj_aload_n C dX8_swing_3 0 rfl ?_
  refine zj_get C 0 8 0 (v := .ref (m 1)) inZ8 rfl rfl (by decide) tg_677 rfl dX8_swing_4 ?_
  refine zj_bipush C (v := (nI 10)) dX8_swing_7 (by decide) ?_
  refine zj_lald C 1 (f := (gMs_at S)) 10 (by decide) (vp_in_nI (by decide) (by decide)) rfl dX8_swing_9 ?_
  refine zj_callV C (nn := 10) (ws' := (WM cy m S)) (st := []) (st1 := [.long (f_X8_sumOf S 61 ((gMs_at S) 10))]) 0 8 [0, 1, 2, 3, 4, 5, 6, 7, 8, 9] (c_X8_sumOf l D cy m 61 ((gMs_at S) 10) S (by decide) hb) (zg_V tg_841 tg_838 tg_840 tgp_35 tg_9) ⟨rfl, hdZ_X8_sumOf⟩ ⟨rfl, rfl⟩ ⟨by decide, by decide⟩ rfl rfl rfl (by decide) ⟨rfl, rfl⟩ rfl rfl (Nat.le_of_ble_eq_true rfl) dX8_swing_10 rfl rfl ?_
  refine zj_aload_n C dX8_swing_13 0 rfl ?_
  refine zj_callV C (nn := 10) (ws' := (WM cy m S)) (st := [.long (f_X8_sumOf S 61 ((gMs_at S) 10))]) (st1 := [.long (f_X8_mayLeave S), .long (f_X8_sumOf S 61 ((gMs_at S) 10))]) 0 8 [0, 1, 2, 3, 4, 5, 6, 7, 8, 9] (c_X8_mayLeave l D cy m  S hc) (zg_V tg_845 tg_842 tg_844 tgp_36 tg_9) ⟨rfl, hdZ_X8_mayLeave⟩ ⟨rfl, rfl⟩ ⟨by decide, by decide⟩ rfl rfl rfl (by decide) ⟨rfl, rfl⟩ rfl rfl (Nat.le_of_ble_eq_true rfl) dX8_swing_14 rfl rfl ?_
  refine zj_aload_n C dX8_swing_17 0 rfl ?_
  refine zj_callV C (nn := 10) (ws' := (WM cy m S)) (st := [.long (f_X8_mayLeave S), .long (f_X8_sumOf S 61 ((gMs_at S) 10))]) (st1 := [.long (f_X8_middle S), .long (f_X8_mayLeave S), .long (f_X8_sumOf S 61 ((gMs_at S) 10))]) 0 8 [0, 1, 2, 3, 4, 5, 6, 7, 8, 9] (c_X8_middle l D cy m  S ) (zg_V tg_828 tg_825 tg_827 tgp_32 tg_9) ⟨rfl, hdZ_X8_middle⟩ ⟨rfl, rfl⟩ ⟨by decide, by decide⟩ rfl rfl rfl (by decide) ⟨rfl, rfl⟩ rfl rfl (Nat.le_of_ble_eq_true rfl) dX8_swing_18 rfl rfl ?_
  refine zj_lmul C dX8_swing_21 ?_
  refine zj_ldc2 C dX8_swing_22 tg_675 ?_
  refine zj_ldiv C dX8_swing_25 (by decide) ?_
  refine zj_lsub C dX8_swing_26 ?_
  refine zj_lstore_n C (L' := [(1, .long ((f_X8_sumOf S 61 ((gMs_at S) 10)) - (((f_X8_mayLeave S) * (f_X8_middle S)) / 1000))), (0, .ref (m 0))]) dX8_swing_27 rfl (by decide) rfl ?_
  refine zj_aload_n C dX8_swing_28 1 rfl ?_
  refine zj_get C 0 8 0 (v := .ref (m 1)) inZ8 rfl rfl (by decide) tg_677 rfl dX8_swing_29 ?_
  refine zj_iconst C (v := (nI 1)) dX8_swing_32 (by decide) ?_
  refine zj_lald C 1 (f := (gMs_at S)) 1 (by decide) (vp_in_nI (by decide) (by decide)) rfl dX8_swing_33 ?_
  refine zj_aload_n C dX8_swing_34 1 rfl ?_
  refine zj_callV C (nn := 10) (ws' := (WM cy m S)) (st := [.long ((gMs_at S) 1)]) (st1 := [.long (f_X8_value S), .long ((gMs_at S) 1)]) 0 8 [0, 1, 2, 3, 4, 5, 6, 7, 8, 9] (c_X8_value l D cy m  S ) (zg_V tg_833 tg_830 tg_832 tgp_33 tg_9) ⟨rfl, hdZ_X8_value⟩ ⟨rfl, rfl⟩ ⟨by decide, by decide⟩ rfl rfl rfl (by decide) ⟨rfl, rfl⟩ rfl rfl (Nat.le_of_ble_eq_true rfl) dX8_swing_35 rfl rfl ?_
  refine zj_lmul C dX8_swing_38 ?_
  refine zj_lstore_n C (L' := [(3, .long (((gMs_at S) 1) * (f_X8_value S))), (1, .long ((f_X8_sumOf S 61 ((gMs_at S) 10)) - (((f_X8_mayLeave S) * (f_X8_middle S)) / 1000))), (0, .ref (m 0))]) dX8_swing_39 rfl (by decide) rfl ?_
  refine zj_aload_n C dX8_swing_40 2 rfl ?_
  refine zj_callV C (nn := 10) (ws' := (WM cy m S)) (st := []) (st1 := [.long (f_X8_issue S)]) 0 8 [0, 1, 2, 3, 4, 5, 6, 7, 8, 9] (c_X8_issue l D cy m  S ) (zg_V tg_788 tg_785 tg_787 tgp_23 tg_9) ⟨rfl, hdZ_X8_issue⟩ ⟨rfl, rfl⟩ ⟨by decide, by decide⟩ rfl rfl rfl (by decide) ⟨rfl, rfl⟩ rfl rfl (Nat.le_of_ble_eq_true rfl) dX8_swing_41 rfl rfl ?_
  refine zj_lconst C (v := 0) dX8_swing_44 (by decide) ?_
  refine zj_lcmp_ne C 51 dX8_swing_45 dX8_swing_46 (by decide) (fun c => ?_) (fun c => ?_)
  · have c_45 : ¬ ((f_X8_issue S) = 0) := c
    refine zj_lload_n C dX8_swing_51 1 rfl ?_
    refine zj_lconst C (v := 0) dX8_swing_52 (by decide) ?_
    have J_53 : ∀ (x53_0 : Nat), x53_0 = (if ((f_X8_sumOf S 61 ((gMs_at S) 10)) - (((f_X8_mayLeave S) * (f_X8_middle S)) / 1000)) ≤ 0 then (if 0 ≤ ((f_X8_sumOf S 61 ((gMs_at S) 10)) - (((f_X8_mayLeave S) * (f_X8_middle S)) / 1000)) then 2 else (if (-(((gMs_at S) 1) * (f_X8_value S))) ≤ (1000 * ((f_X8_sumOf S 61 ((gMs_at S) 10)) - (((f_X8_mayLeave S) * (f_X8_middle S)) / 1000))) then 2 else 1)) else (if (1000 * ((f_X8_sumOf S 61 ((gMs_at S) 10)) - (((f_X8_mayLeave S) * (f_X8_middle S)) / 1000))) ≤ (((gMs_at S) 1) * (f_X8_value S)) then (if 0 ≤ ((f_X8_sumOf S 61 ((gMs_at S) 10)) - (((f_X8_mayLeave S) * (f_X8_middle S)) / 1000)) then 2 else (if (-(((gMs_at S) 1) * (f_X8_value S))) ≤ (1000 * ((f_X8_sumOf S 61 ((gMs_at S) 10)) - (((f_X8_mayLeave S) * (f_X8_middle S)) / 1000))) then 2 else 1)) else 3)) → zJ E 5 0 0 (WM cy m S) 93 [(3, .long (((gMs_at S) 1) * (f_X8_value S))), (1, .long ((f_X8_sumOf S 61 ((gMs_at S) 10)) - (((f_X8_mayLeave S) * (f_X8_middle S)) / 1000))), (0, .ref (m 0))] [.int (nI x53_0)] := by
      intro x53_0 hx53_0
      subst hx53_0
      have e : f_X8_swing S = (nI (if ((f_X8_sumOf S 61 ((gMs_at S) 10)) - (((f_X8_mayLeave S) * (f_X8_middle S)) / 1000)) ≤ 0 then (if 0 ≤ ((f_X8_sumOf S 61 ((gMs_at S) 10)) - (((f_X8_mayLeave S) * (f_X8_middle S)) / 1000)) then 2 else (if (-(((gMs_at S) 1) * (f_X8_value S))) ≤ (1000 * ((f_X8_sumOf S 61 ((gMs_at S) 10)) - (((f_X8_mayLeave S) * (f_X8_middle S)) / 1000))) then 2 else 1)) else (if (1000 * ((f_X8_sumOf S 61 ((gMs_at S) 10)) - (((f_X8_mayLeave S) * (f_X8_middle S)) / 1000))) ≤ (((gMs_at S) 1) * (f_X8_value S)) then (if 0 ≤ ((f_X8_sumOf S 61 ((gMs_at S) 10)) - (((f_X8_mayLeave S) * (f_X8_middle S)) / 1000)) then 2 else (if (-(((gMs_at S) 1) * (f_X8_value S))) ≤ (1000 * ((f_X8_sumOf S 61 ((gMs_at S) 10)) - (((f_X8_mayLeave S) * (f_X8_middle S)) / 1000))) then 2 else 1)) else 3))) := by refine (zsl_e _).trans ?_; refine (if_neg c_45).trans ?_; rfl
      rw [e] at hret
      exact hret _ _ dX8_swing_93
    refine zj_lcmp_le C 71 dX8_swing_53 dX8_swing_54 (by decide) (fun c => ?_) (fun c => ?_)
    · have c_53 : ((f_X8_sumOf S 61 ((gMs_at S) 10)) - (((f_X8_mayLeave S) * (f_X8_middle S)) / 1000)) ≤ 0 := c
      refine zj_lload_n C dX8_swing_71 1 rfl ?_
      refine zj_lconst C (v := 0) dX8_swing_72 (by decide) ?_
      have J_73 : ∀ (x73_0 : Nat), x73_0 = (if 0 ≤ ((f_X8_sumOf S 61 ((gMs_at S) 10)) - (((f_X8_mayLeave S) * (f_X8_middle S)) / 1000)) then 2 else (if (-(((gMs_at S) 1) * (f_X8_value S))) ≤ (1000 * ((f_X8_sumOf S 61 ((gMs_at S) 10)) - (((f_X8_mayLeave S) * (f_X8_middle S)) / 1000))) then 2 else 1)) → zJ E 5 0 0 (WM cy m S) 93 [(3, .long (((gMs_at S) 1) * (f_X8_value S))), (1, .long ((f_X8_sumOf S 61 ((gMs_at S) 10)) - (((f_X8_mayLeave S) * (f_X8_middle S)) / 1000))), (0, .ref (m 0))] [.int (nI x73_0)] := by
        intro x73_0 hx73_0
        exact J_53 x73_0 (by simp only [if_neg c_45, if_pos c_53]; first | done | assumption)
      refine zj_lcmp_ge C 92 dX8_swing_73 dX8_swing_74 (by decide) (fun c => ?_) (fun c => ?_)
      · have c_73 : 0 ≤ ((f_X8_sumOf S 61 ((gMs_at S) 10)) - (((f_X8_mayLeave S) * (f_X8_middle S)) / 1000)) := c
        refine zj_iconst C (v := (nI 2)) dX8_swing_92 (by decide) ?_
        exact J_73 2 (by simp only [if_neg c_45, if_pos c_53, if_pos c_73]; first | done | assumption)
      · have c_73 : ¬ (0 ≤ ((f_X8_sumOf S 61 ((gMs_at S) 10)) - (((f_X8_mayLeave S) * (f_X8_middle S)) / 1000))) := c
        refine zj_ldc2 C dX8_swing_77 tg_675 ?_
        refine zj_lload_n C dX8_swing_80 1 rfl ?_
        refine zj_lmul C dX8_swing_81 ?_
        refine zj_lload_n C dX8_swing_82 0 rfl ?_
        refine zj_lneg C dX8_swing_83 ?_
        have J_84 : ∀ (x84_0 : Nat), x84_0 = (if (-(((gMs_at S) 1) * (f_X8_value S))) ≤ (1000 * ((f_X8_sumOf S 61 ((gMs_at S) 10)) - (((f_X8_mayLeave S) * (f_X8_middle S)) / 1000))) then 2 else 1) → zJ E 5 0 0 (WM cy m S) 93 [(3, .long (((gMs_at S) 1) * (f_X8_value S))), (1, .long ((f_X8_sumOf S 61 ((gMs_at S) 10)) - (((f_X8_mayLeave S) * (f_X8_middle S)) / 1000))), (0, .ref (m 0))] [.int (nI x84_0)] := by
          intro x84_0 hx84_0
          exact J_73 x84_0 (by simp only [if_neg c_45, if_pos c_53, if_neg c_73]; first | done | assumption)
        refine zj_lcmp_ge C 92 dX8_swing_84 dX8_swing_85 (by decide) (fun c => ?_) (fun c => ?_)
        · have c_84 : (-(((gMs_at S) 1) * (f_X8_value S))) ≤ (1000 * ((f_X8_sumOf S 61 ((gMs_at S) 10)) - (((f_X8_mayLeave S) * (f_X8_middle S)) / 1000))) := c
          refine zj_iconst C (v := (nI 2)) dX8_swing_92 (by decide) ?_
          exact J_84 2 (by simp only [if_neg c_45, if_pos c_53, if_neg c_73, if_pos c_84]; first | done | assumption)
        · have c_84 : ¬ ((-(((gMs_at S) 1) * (f_X8_value S))) ≤ (1000 * ((f_X8_sumOf S 61 ((gMs_at S) 10)) - (((f_X8_mayLeave S) * (f_X8_middle S)) / 1000)))) := c
          refine zj_iconst C (v := (nI 1)) dX8_swing_88 (by decide) ?_
          refine zj_goto C 93 dX8_swing_89 (by decide) ?_
          exact J_84 1 (by simp only [if_neg c_45, if_pos c_53, if_neg c_73, if_neg c_84]; first | done | assumption)
    · have c_53 : ¬ (((f_X8_sumOf S 61 ((gMs_at S) 10)) - (((f_X8_mayLeave S) * (f_X8_middle S)) / 1000)) ≤ 0) := c
      refine zj_ldc2 C dX8_swing_57 tg_675 ?_
      refine zj_lload_n C dX8_swing_60 1 rfl ?_
      refine zj_lmul C dX8_swing_61 ?_
      refine zj_lload_n C dX8_swing_62 0 rfl ?_
      have J_63 : ∀ (x63_0 : Nat), x63_0 = (if (1000 * ((f_X8_sumOf S 61 ((gMs_at S) 10)) - (((f_X8_mayLeave S) * (f_X8_middle S)) / 1000))) ≤ (((gMs_at S) 1) * (f_X8_value S)) then (if 0 ≤ ((f_X8_sumOf S 61 ((gMs_at S) 10)) - (((f_X8_mayLeave S) * (f_X8_middle S)) / 1000)) then 2 else (if (-(((gMs_at S) 1) * (f_X8_value S))) ≤ (1000 * ((f_X8_sumOf S 61 ((gMs_at S) 10)) - (((f_X8_mayLeave S) * (f_X8_middle S)) / 1000))) then 2 else 1)) else 3) → zJ E 5 0 0 (WM cy m S) 93 [(3, .long (((gMs_at S) 1) * (f_X8_value S))), (1, .long ((f_X8_sumOf S 61 ((gMs_at S) 10)) - (((f_X8_mayLeave S) * (f_X8_middle S)) / 1000))), (0, .ref (m 0))] [.int (nI x63_0)] := by
        intro x63_0 hx63_0
        exact J_53 x63_0 (by simp only [if_neg c_45, if_neg c_53]; first | done | assumption)
      refine zj_lcmp_le C 71 dX8_swing_63 dX8_swing_64 (by decide) (fun c => ?_) (fun c => ?_)
      · have c_63 : (1000 * ((f_X8_sumOf S 61 ((gMs_at S) 10)) - (((f_X8_mayLeave S) * (f_X8_middle S)) / 1000))) ≤ (((gMs_at S) 1) * (f_X8_value S)) := c
        refine zj_lload_n C dX8_swing_71 1 rfl ?_
        refine zj_lconst C (v := 0) dX8_swing_72 (by decide) ?_
        have J_73 : ∀ (x73_0 : Nat), x73_0 = (if 0 ≤ ((f_X8_sumOf S 61 ((gMs_at S) 10)) - (((f_X8_mayLeave S) * (f_X8_middle S)) / 1000)) then 2 else (if (-(((gMs_at S) 1) * (f_X8_value S))) ≤ (1000 * ((f_X8_sumOf S 61 ((gMs_at S) 10)) - (((f_X8_mayLeave S) * (f_X8_middle S)) / 1000))) then 2 else 1)) → zJ E 5 0 0 (WM cy m S) 93 [(3, .long (((gMs_at S) 1) * (f_X8_value S))), (1, .long ((f_X8_sumOf S 61 ((gMs_at S) 10)) - (((f_X8_mayLeave S) * (f_X8_middle S)) / 1000))), (0, .ref (m 0))] [.int (nI x73_0)] := by
          intro x73_0 hx73_0
          exact J_63 x73_0 (by simp only [if_neg c_45, if_neg c_53, if_pos c_63]; first | done | assumption)
        refine zj_lcmp_ge C 92 dX8_swing_73 dX8_swing_74 (by decide) (fun c => ?_) (fun c => ?_)
        · have c_73 : 0 ≤ ((f_X8_sumOf S 61 ((gMs_at S) 10)) - (((f_X8_mayLeave S) * (f_X8_middle S)) / 1000)) := c
          refine zj_iconst C (v := (nI 2)) dX8_swing_92 (by decide) ?_
          exact J_73 2 (by simp only [if_neg c_45, if_neg c_53, if_pos c_63, if_pos c_73]; first | done | assumption)
        · have c_73 : ¬ (0 ≤ ((f_X8_sumOf S 61 ((gMs_at S) 10)) - (((f_X8_mayLeave S) * (f_X8_middle S)) / 1000))) := c
          refine zj_ldc2 C dX8_swing_77 tg_675 ?_
          refine zj_lload_n C dX8_swing_80 1 rfl ?_
          refine zj_lmul C dX8_swing_81 ?_
          refine zj_lload_n C dX8_swing_82 0 rfl ?_
          refine zj_lneg C dX8_swing_83 ?_
          have J_84 : ∀ (x84_0 : Nat), x84_0 = (if (-(((gMs_at S) 1) * (f_X8_value S))) ≤ (1000 * ((f_X8_sumOf S 61 ((gMs_at S) 10)) - (((f_X8_mayLeave S) * (f_X8_middle S)) / 1000))) then 2 else 1) → zJ E 5 0 0 (WM cy m S) 93 [(3, .long (((gMs_at S) 1) * (f_X8_value S))), (1, .long ((f_X8_sumOf S 61 ((gMs_at S) 10)) - (((f_X8_mayLeave S) * (f_X8_middle S)) / 1000))), (0, .ref (m 0))] [.int (nI x84_0)] := by
            intro x84_0 hx84_0
            exact J_73 x84_0 (by simp only [if_neg c_45, if_neg c_53, if_pos c_63, if_neg c_73]; first | done | assumption)
          refine zj_lcmp_ge C 92 dX8_swing_84 dX8_swing_85 (by decide) (fun c => ?_) (fun c => ?_)
          · have c_84 : (-(((gMs_at S) 1) * (f_X8_value S))) ≤ (1000 * ((f_X8_sumOf S 61 ((gMs_at S) 10)) - (((f_X8_mayLeave S) * (f_X8_middle S)) / 1000))) := c
            refine zj_iconst C (v := (nI 2)) dX8_swing_92 (by decide) ?_
            exact J_84 2 (by simp only [if_neg c_45, if_neg c_53, if_pos c_63, if_neg c_73, if_pos c_84]; first | done | assumption)
          · have c_84 : ¬ ((-(((gMs_at S) 1) * (f_X8_value S))) ≤ (1000 * ((f_X8_sumOf S 61 ((gMs_at S) 10)) - (((f_X8_mayLeave S) * (f_X8_middle S)) / 1000)))) := c
            refine zj_iconst C (v := (nI 1)) dX8_swing_88 (by decide) ?_
            refine zj_goto C 93 dX8_swing_89 (by decide) ?_
            exact J_84 1 (by simp only [if_neg c_45, if_neg c_53, if_pos c_63, if_neg c_73, if_neg c_84]; first | done | assumption)
      · have c_63 : ¬ ((1000 * ((f_X8_sumOf S 61 ((gMs_at S) 10)) - (((f_X8_mayLeave S) * (f_X8_middle S)) / 1000))) ≤ (((gMs_at S) 1) * (f_X8_value S))) := c
        refine zj_iconst C (v := (nI 3)) dX8_swing_67 (by decide) ?_
        refine zj_goto C 93 dX8_swing_68 (by decide) ?_
        exact J_63 3 (by simp only [if_neg c_45, if_neg c_53, if_neg c_63]; first | done | assumption)
  · have c_45 : (f_X8_issue S) = 0 := (Classical.not_not.mp c)
    refine zj_iconst C (v := (nI 2)) dX8_swing_49 (by decide) ?_
    have e : f_X8_swing S = (nI 2) := by refine (zsl_e _).trans ?_; refine (if_pos c_45).trans ?_; rfl
    rw [e] at hret
    exact hret _ _ dX8_swing_50

noncomputable def f_X8_priceNow (S : zMs) : Int64 := zsl (
  (((f_X8_middle S) * (1000 + (((((f_X8_swing S) - (nI 2))).toInt64) * ((gMs_at S) 2)))) / 1000)
  )
set_option maxHeartbeats 4000000 in
set_option maxRecDepth 100000 in
theorem c_X8_priceNow (l : Launch) (D : va_G) (cy : Nat → ClassId) (m : Nat → Nat)   (S : zMs) (hb : zCk S 61) (hc : zCk S 122) : zC l yX8_priceNow (zW yX8_priceNow cX8_priceNow 1 (Option.some Jvm.ClassFile.FieldType.long)) { frames := 5, cells := 0, slots := 0, locals := 114 } D cy [.ref (m 0)] (WM cy m S) (some (.long (f_X8_priceNow S))) (WM cy m S) := by
  refine zC_of rfl (Nat.le_of_ble_eq_true rfl) (zOk_l _) (fun E C hret => ?_)
  show zJ E 1 0 0 (WM cy m S) 0 [(0, .ref (m 0))] []
  refine zj_aload_n C dX8_priceNow_0 0 rfl ?_
  refine zj_callV C (nn := 10) (ws' := (WM cy m S)) (st := []) (st1 := [.long (f_X8_middle S)]) 0 8 [0, 1, 2, 3, 4, 5, 6, 7, 8, 9] (c_X8_middle l D cy m  S ) (zg_V tg_828 tg_825 tg_827 tgp_32 tg_9) ⟨rfl, hdZ_X8_middle⟩ ⟨rfl, rfl⟩ ⟨by decide, by decide⟩ rfl rfl rfl (by decide) ⟨rfl, rfl⟩ rfl rfl (Nat.le_of_ble_eq_true rfl) dX8_priceNow_1 rfl rfl ?_
  refine zj_ldc2 C dX8_priceNow_4 tg_675 ?_
  refine zj_aload_n C dX8_priceNow_7 0 rfl ?_
  refine zj_callV C (nn := 10) (ws' := (WM cy m S)) (st := [.long 1000, .long (f_X8_middle S)]) (st1 := [.int (f_X8_swing S), .long 1000, .long (f_X8_middle S)]) 0 8 [0, 1, 2, 3, 4, 5, 6, 7, 8, 9] (c_X8_swing l D cy m  S hb hc) (zg_V tg_837 tg_834 tg_836 tgp_34 tg_9) ⟨rfl, hdZ_X8_swing⟩ ⟨rfl, rfl⟩ ⟨by decide, by decide⟩ rfl rfl rfl (by decide) ⟨rfl, rfl⟩ rfl rfl (Nat.le_of_ble_eq_true rfl) dX8_priceNow_8 rfl rfl ?_
  refine zj_iconst C (v := (nI 2)) dX8_priceNow_11 (by decide) ?_
  refine zj_isub C dX8_priceNow_12 ?_
  refine zj_i2l C dX8_priceNow_13 ?_
  refine zj_aload_n C dX8_priceNow_14 0 rfl ?_
  refine zj_get C 0 8 0 (v := .ref (m 1)) inZ8 rfl rfl (by decide) tg_677 rfl dX8_priceNow_15 ?_
  refine zj_iconst C (v := (nI 2)) dX8_priceNow_18 (by decide) ?_
  refine zj_lald C 1 (f := (gMs_at S)) 2 (by decide) (vp_in_nI (by decide) (by decide)) rfl dX8_priceNow_19 ?_
  refine zj_lmul C dX8_priceNow_20 ?_
  refine zj_ladd C dX8_priceNow_21 ?_
  refine zj_lmul C dX8_priceNow_22 ?_
  refine zj_ldc2 C dX8_priceNow_23 tg_675 ?_
  refine zj_ldiv C dX8_priceNow_26 (by decide) ?_
  have e : f_X8_priceNow S = (((f_X8_middle S) * (1000 + (((((f_X8_swing S) - (nI 2))).toInt64) * ((gMs_at S) 2)))) / 1000) := by refine (zsl_e _).trans ?_; rfl
  rw [e] at hret
  exact hret _ _ dX8_priceNow_27
