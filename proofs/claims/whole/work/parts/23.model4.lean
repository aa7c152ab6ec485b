theorem L_sell_hi (S : zMs) (amount : Int64) : ∀ (n : Nat) (A : Nat → Int64) (i : Nat), 19 ≤ i → L_X8_sell S amount n A i = A i
  | 0, A, i, h => rfl
  | n + 1, A, i, h => by
    rw [L_X8_sell_s]
    repeat' split
    all_goals first | rfl | skip
    all_goals (rw [L_sell_hi S amount n _ i h, vp_updL_n _ _ (by omega), vp_updL_n _ _ (by omega), vp_updL_n _ _ (by omega)])
theorem f_sell_hi (S : zMs) (amount : Int64) {i : Nat} (h : 19 ≤ i) : gMs_at (f_X8_sellFor S amount) i = gMs_at S i := by
  unfold f_X8_sellFor; rw [zsl_e]; exact L_sell_hi S amount _ _ i h
theorem f_sell_sh (S : zMs) (amount : Int64) : gMs_sh (f_X8_sellFor S amount) = gMs_sh S := by
  unfold f_X8_sellFor; rw [zsl_e]
theorem zcn_eq {S : zMs} {kd n : Nat} (h : gMs_at S kd = lN n) (hn : n ≤ 20) : zCk S kd ∧ zcn S kd = n := by
  have e : zcn S kd = n := by
    unfold zcn
    rw [h, lN_toInt (by omega)]
    rfl
  exact ⟨⟨by rw [e]; exact h, by omega⟩, e⟩
theorem zCk_take {S : zMs} {kd o : Nat} (hk : kd ≤ 122) (hc : zCk S kd) (ho : o < zcn S kd) : zCk (f_X8_takeOut S kd o) kd ∧ zcn (f_X8_takeOut S kd o) kd = zcn S kd - 1 := by
  have h2 := hc.2
  refine zcn_eq ?_ (by omega)
  show va_cpy (vp_updL (gMs_at S) kd (gMs_at S kd - 1)) (vp_updL (gMs_at S) kd (gMs_at S kd - 1)) (kd + 1 + 3 * o + 3) (kd + 1 + 3 * o) (3 * (zcn S kd - 1 - o)) kd = _
  rw [zcpy_out _ _ (by omega), vp_updL_s, hc.1]
  exact lN_sub (b := 1) (by omega)
theorem zl_le0 {n : Nat} (h : n < 2 ^ 31) : lN n ≤ 0 ↔ n = 0 := by
  rw [show (0 : Int64) = lN 0 from rfl, lN_le h (by decide)]; omega
/-- the holder of an order, as a number -/
noncomputable def zho (X : zMs) (k : Nat) : Nat := (f_X8_ofOrder X 122 k 0).toInt.toNat
noncomputable def zhb (X : zMs) : Nat := (f_X8_ofOrder X 61 0 0).toInt.toNat
/-- what a step of the paying rests on -/
def okp_pay (S X : zMs) (go : Bool) (k : Nat) : Prop := zCk X 122 ∧ zcn X 122 = zcn S 122 ∧ (k < zcn S 122 → go = true → ∀ Y : zMs, gMs_sh Y = gMs_sh X → (∀ i, 19 ≤ i → gMs_at Y i = gMs_at X i) → 0 < gMs_sh Y k →
  f_X8_ofOrder Y 122 k 0 = lN (zho X k) ∧ zho X k < 6 ∧ (0 < gMs_sh Y k - (if gMs_sh Y k ≤ f_X8_of Y (zho X k) 0 then gMs_sh Y k else f_X8_of Y (zho X k) 0) → ¬ f_X8_allNew Y = 0))

noncomputable def L_X8_pay1 (price : Int64) (inc : Int64) : Nat → (zMs) → (Bool) → (Nat) → (zMs) × (Bool) × (Nat)
  | 0, X, go, k => (X, go, k)
  | fuel + 1, X, go, k =>
    if (zcn X 122) ≤ k then
      (X, go, k)
    else
      if go = false then
        (X, go, k)
      else
        let x48_0 : Bool := (if ((gMs_sh X) k) ≤ 0 then go else (if ((gMs_at (f_X8_sellFor X ((((gMs_sh X) k) * price) / 1000))) 5) < ((((gMs_sh X) k) * price) / 1000) then false else true))
        let x48_1 : zMs := (if ((gMs_sh X) k) ≤ 0 then X else (f_X8_sellFor X ((((gMs_sh X) k) * price) / 1000)))
        let x85_0 : zMs := (if ((gMs_sh x48_1) k) ≤ 0 then x48_1 else (if x48_0 = false then x48_1 else (sMs_at (f_X8_add (f_X8_goUnits (sMs_at x48_1 (vp_updL (gMs_at x48_1) 5 (((gMs_at x48_1) 5) - ((((gMs_sh X) k) * price) / 1000)))) (zho X k) ((gMs_sh x48_1) k) inc) (zho X k) 3 ((((gMs_sh X) k) * price) / 1000)) (vp_updL (vp_updL (gMs_at (f_X8_add (f_X8_goUnits (sMs_at x48_1 (vp_updL (gMs_at x48_1) 5 (((gMs_at x48_1) 5) - ((((gMs_sh X) k) * price) / 1000)))) (zho X k) ((gMs_sh x48_1) k) inc) (zho X k) 3 ((((gMs_sh X) k) * price) / 1000))) (123 + (3 * k) + 1) (((gMs_at (f_X8_add (f_X8_goUnits (sMs_at x48_1 (vp_updL (gMs_at x48_1) 5 (((gMs_at x48_1) 5) - ((((gMs_sh X) k) * price) / 1000)))) (zho X k) ((gMs_sh x48_1) k) inc) (zho X k) 3 ((((gMs_sh X) k) * price) / 1000))) (123 + (3 * k) + 1)) - ((gMs_sh (f_X8_add (f_X8_goUnits (sMs_at x48_1 (vp_updL (gMs_at x48_1) 5 (((gMs_at x48_1) 5) - ((((gMs_sh X) k) * price) / 1000)))) (zho X k) ((gMs_sh x48_1) k) inc) (zho X k) 3 ((((gMs_sh X) k) * price) / 1000))) k))) 13 (((vp_updL (gMs_at (f_X8_add (f_X8_goUnits (sMs_at x48_1 (vp_updL (gMs_at x48_1) 5 (((gMs_at x48_1) 5) - ((((gMs_sh X) k) * price) / 1000)))) (zho X k) ((gMs_sh x48_1) k) inc) (zho X k) 3 ((((gMs_sh X) k) * price) / 1000))) (123 + (3 * k) + 1) (((gMs_at (f_X8_add (f_X8_goUnits (sMs_at x48_1 (vp_updL (gMs_at x48_1) 5 (((gMs_at x48_1) 5) - ((((gMs_sh X) k) * price) / 1000)))) (zho X k) ((gMs_sh x48_1) k) inc) (zho X k) 3 ((((gMs_sh X) k) * price) / 1000))) (123 + (3 * k) + 1)) - ((gMs_sh (f_X8_add (f_X8_goUnits (sMs_at x48_1 (vp_updL (gMs_at x48_1) 5 (((gMs_at x48_1) 5) - ((((gMs_sh X) k) * price) / 1000)))) (zho X k) ((gMs_sh x48_1) k) inc) (zho X k) 3 ((((gMs_sh X) k) * price) / 1000))) k))) 13) + ((gMs_sh (f_X8_add (f_X8_goUnits (sMs_at x48_1 (vp_updL (gMs_at x48_1) 5 (((gMs_at x48_1) 5) - ((((gMs_sh X) k) * price) / 1000)))) (zho X k) ((gMs_sh x48_1) k) inc) (zho X k) 3 ((((gMs_sh X) k) * price) / 1000))) k))))))
        L_X8_pay1 price inc fuel x85_0 x48_0 (k + 1)
theorem L_X8_pay1_s (price : Int64) (inc : Int64) (fuel : Nat) (X : zMs) (go : Bool) (k : Nat) : L_X8_pay1 price inc (fuel + 1) X go k = (
    if (zcn X 122) ≤ k then
      (X, go, k)
    else
      if go = false then
        (X, go, k)
      else
        let x48_0 : Bool := (if ((gMs_sh X) k) ≤ 0 then go else (if ((gMs_at (f_X8_sellFor X ((((gMs_sh X) k) * price) / 1000))) 5) < ((((gMs_sh X) k) * price) / 1000) then false else true))
        let x48_1 : zMs := (if ((gMs_sh X) k) ≤ 0 then X else (f_X8_sellFor X ((((gMs_sh X) k) * price) / 1000)))
        let x85_0 : zMs := (if ((gMs_sh x48_1) k) ≤ 0 then x48_1 else (if x48_0 = false then x48_1 else (sMs_at (f_X8_add (f_X8_goUnits (sMs_at x48_1 (vp_updL (gMs_at x48_1) 5 (((gMs_at x48_1) 5) - ((((gMs_sh X) k) * price) / 1000)))) (zho X k) ((gMs_sh x48_1) k) inc) (zho X k) 3 ((((gMs_sh X) k) * price) / 1000)) (vp_updL (vp_updL (gMs_at (f_X8_add (f_X8_goUnits (sMs_at x48_1 (vp_updL (gMs_at x48_1) 5 (((gMs_at x48_1) 5) - ((((gMs_sh X) k) * price) / 1000)))) (zho X k) ((gMs_sh x48_1) k) inc) (zho X k) 3 ((((gMs_sh X) k) * price) / 1000))) (123 + (3 * k) + 1) (((gMs_at (f_X8_add (f_X8_goUnits (sMs_at x48_1 (vp_updL (gMs_at x48_1) 5 (((gMs_at x48_1) 5) - ((((gMs_sh X) k) * price) / 1000)))) (zho X k) ((gMs_sh x48_1) k) inc) (zho X k) 3 ((((gMs_sh X) k) * price) / 1000))) (123 + (3 * k) + 1)) - ((gMs_sh (f_X8_add (f_X8_goUnits (sMs_at x48_1 (vp_updL (gMs_at x48_1) 5 (((gMs_at x48_1) 5) - ((((gMs_sh X) k) * price) / 1000)))) (zho X k) ((gMs_sh x48_1) k) inc) (zho X k) 3 ((((gMs_sh X) k) * price) / 1000))) k))) 13 (((vp_updL (gMs_at (f_X8_add (f_X8_goUnits (sMs_at x48_1 (vp_updL (gMs_at x48_1) 5 (((gMs_at x48_1) 5) - ((((gMs_sh X) k) * price) / 1000)))) (zho X k) ((gMs_sh x48_1) k) inc) (zho X k) 3 ((((gMs_sh X) k) * price) / 1000))) (123 + (3 * k) + 1) (((gMs_at (f_X8_add (f_X8_goUnits (sMs_at x48_1 (vp_updL (gMs_at x48_1) 5 (((gMs_at x48_1) 5) - ((((gMs_sh X) k) * price) / 1000)))) (zho X k) ((gMs_sh x48_1) k) inc) (zho X k) 3 ((((gMs_sh X) k) * price) / 1000))) (123 + (3 * k) + 1)) - ((gMs_sh (f_X8_add (f_X8_goUnits (sMs_at x48_1 (vp_updL (gMs_at x48_1) 5 (((gMs_at x48_1) 5) - ((((gMs_sh X) k) * price) / 1000)))) (zho X k) ((gMs_sh x48_1) k) inc) (zho X k) 3 ((((gMs_sh X) k) * price) / 1000))) k))) 13) + ((gMs_sh (f_X8_add (f_X8_goUnits (sMs_at x48_1 (vp_updL (gMs_at x48_1) 5 (((gMs_at x48_1) 5) - ((((gMs_sh X) k) * price) / 1000)))) (zho X k) ((gMs_sh x48_1) k) inc) (zho X k) 3 ((((gMs_sh X) k) * price) / 1000))) k))))))
        L_X8_pay1 price inc fuel x85_0 x48_0 (k + 1)
  ) := rfl
noncomputable def L_X8_pay2  : Nat → (zMs) → (Nat) → (zMs) × (Nat)
  | 0, X, j => (X, j)
  | fuel + 1, X, j =>
    if j = 0 then
      (X, j)
    else
      let x214_0 : zMs := (if (f_X8_ofOrder X 122 (j - 1) 1) = 0 then (f_X8_takeOut X 122 (j - 1)) else X)
      L_X8_pay2  fuel x214_0 (j - 1)
theorem L_X8_pay2_s  (fuel : Nat) (X : zMs) (j : Nat) : L_X8_pay2  (fuel + 1) X j = (
    if j = 0 then
      (X, j)
    else
      let x214_0 : zMs := (if (f_X8_ofOrder X 122 (j - 1) 1) = 0 then (f_X8_takeOut X 122 (j - 1)) else X)
      L_X8_pay2  fuel x214_0 (j - 1)
  ) := rfl
noncomputable def f_X8_payThem (S : zMs) (price : Int64) (inc : Int64) : zMs := zsl (
  let X1 : zMs := ((L_X8_pay1 price inc (zcn S 122 - 0 + 1) S true 0).1)
  let go1 : Bool := ((L_X8_pay1 price inc (zcn S 122 - 0 + 1) S true 0).2.1)
  let k1 : Nat := ((L_X8_pay1 price inc (zcn S 122 - 0 + 1) S true 0).2.2)
  let X2 : zMs := ((L_X8_pay2  ((zcn X1 122) + 1) X1 (zcn X1 122)).1)
  let j2 : Nat := ((L_X8_pay2  ((zcn X1 122) + 1) X1 (zcn X1 122)).2)
  X2
  )
set_option maxHeartbeats 4000000 in
set_option maxRecDepth 100000 in
theorem c_X8_payThem (l : Launch) (D : va_G) (cy : Nat → ClassId) (m : Nat → Nat) (price : Int64) (inc : Int64)  (S : zMs) (P : zMs → Bool → Nat → Prop) (h0 : P S true 0) (hP : ∀ X go k, P X go k → okp_pay S X go k ∧ P (L_X8_pay1 price inc (0 + 1) X go k).1 (L_X8_pay1 price inc (0 + 1) X go k).2.1 (L_X8_pay1 price inc (0 + 1) X go k).2.2) (hc : zCk S 122) : zC l yX8_payThem (zW yX8_payThem cX8_payThem 10 (Option.none : Option Jvm.ClassFile.FieldType)) { frames := 3, cells := 0, slots := 0, locals := 76 } D cy [.ref (m 0), .long price, .long inc] (WM cy m S) none (WM cy m (f_X8_payThem S price inc)) := by
  refine zC_of rfl (Nat.le_of_ble_eq_true rfl) zOk_v (fun E C hret => ?_)
  have hc2 := hc.2
  show zJ E 10 0 0 (WM cy m S) 0 [(0, .ref (m 0)), (1, .long price), (3, .long inc)] []
  refine zj_iconst C (v := (nI 1)) dX8_payThem_0 (by decide) ?_
  refine zj_istore C (L' := [(5, .int (nI 1)), (0, .ref (m 0)), (1, .long price), (3, .long inc)]) dX8_payThem_1 (by decide) rfl ?_
  refine zj_iconst C (v := (nI 0)) dX8_payThem_3 (by decide) ?_
  refine zj_istore C (L' := [(6, .int (nI 0)), (5, .int (nI 1)), (0, .ref (m 0)), (1, .long price), (3, .long inc)]) dX8_payThem_4 (by decide) rfl ?_
  have loop_6 : ∀ (fuel : Nat) (X : zMs) (go : Bool) (k : Nat), (hk : k ≤ 20) → (hPk : P X go k) → zcn S 122 - k < fuel → (P ((L_X8_pay1 price inc fuel X go k).1) ((L_X8_pay1 price inc fuel X go k).2.1) ((L_X8_pay1 price inc fuel X go k).2.2) → zJ E 10 0 0 (WM cy m ((L_X8_pay1 price inc fuel X go k).1)) 187 [(0, .ref (m 0)), (1, .long price), (3, .long inc)] []) → zJ E 10 0 0 (WM cy m X) 6 [(0, .ref (m 0)), (1, .long price), (3, .long inc), (5, .int (zB go)), (6, .int (nI k))] [] := by
    intro fuel
    induction fuel with
    | zero => intro X go k hk hPk hmu; exact absurd hmu (Nat.not_lt_zero _)
    | succ fuel ih_6 =>
      intro X go k hk hPk hmu_6 K_6
      have hz := (hP X go k hPk).1
      have hzc : zCk X 122 := hz.1
      have hz20 := hzc.2
      have hzn : zcn X 122 = zcn S 122 := hz.2.1
      have hq := hz.2.2
      refine zj_iload C dX8_payThem_6 4 rfl ?_
      refine zj_i2l C dX8_payThem_8 ?_
      refine zj_topl (lN k) (nI_l (by omega)) ?_
      refine zj_aload_n C dX8_payThem_9 0 rfl ?_
      refine zj_get C 0 8 0 (v := .ref (m 1)) inZ8 rfl rfl (by decide) tg_677 rfl dX8_payThem_10 ?_
      refine zj_bipush C (v := (nI 122)) dX8_payThem_13 (by decide) ?_
      refine zj_lald C 1 (f := (gMs_at X)) 122 (by decide) (vp_in_nI (by decide) (by decide)) rfl dX8_payThem_15 ?_
      refine zj_topl (lN (zcn X 122)) hzc.1 ?_
      refine zj_lcmp_ge C 187 dX8_payThem_16 dX8_payThem_17 (by decide) (fun c => ?_) (fun c => ?_)
      · have c_16 : (zcn X 122) ≤ k := ((lN_le (by omega) (by omega)).mp c)
        refine zj_sub (L' := [(0, .ref (m 0)), (1, .long price), (3, .long inc)]) [0, 1, 2] rfl ?_
        have e_6 : (L_X8_pay1 price inc (fuel + 1) X go k) = (X, go, k) := by refine (L_X8_pay1_s price inc fuel X go k).trans ?_; refine (if_pos c_16).trans ?_; rfl
        rw [e_6] at K_6
        exact K_6 hPk
      · have c_16 : ¬ ((zcn X 122) ≤ k) := (fun q => c ((lN_le (by omega) (by omega)).mpr q))
        refine zj_iload C dX8_payThem_20 3 rfl ?_
        refine zj_if_eq C 187 dX8_payThem_22 (by decide) (fun c => ?_) (fun c => ?_)
        · have c_22 : go = false := (zB_eq c)
          refine zj_sub (L' := [(0, .ref (m 0)), (1, .long price), (3, .long inc)]) [0, 1, 2] rfl ?_
          have e_6 : (L_X8_pay1 price inc (fuel + 1) X go k) = (X, go, k) := by refine (L_X8_pay1_s price inc fuel X go k).trans ?_; refine (if_neg c_16).trans ?_; refine (if_pos c_22).trans ?_; rfl
          rw [e_6] at K_6
          exact K_6 hPk
        · have c_22 : ¬ (go = false) := (zB_neq c)
          refine zj_aload_n C dX8_payThem_25 0 rfl ?_
          refine zj_get C 0 8 7 (v := .ref (m 6)) inZ8 rfl rfl (by decide) tg_684 rfl dX8_payThem_26 ?_
          refine zj_iload C dX8_payThem_29 4 rfl ?_
          refine zj_lald C 6 (f := (gMs_sh X)) k (nI_clamp (by omega)) (vp_in_nI (by omega) (by omega)) rfl dX8_payThem_31 ?_
          refine zj_lload_n C dX8_payThem_32 1 rfl ?_
          refine zj_lmul C dX8_payThem_33 ?_
          refine zj_ldc2 C dX8_payThem_34 tg_675 ?_
          refine zj_ldiv C dX8_payThem_37 (by decide) ?_
          refine zj_lstore C (L' := [(7, .long ((((gMs_sh X) k) * price) / 1000)), (0, .ref (m 0)), (1, .long price), (3, .long inc), (5, .int (zB go)), (6, .int (nI k))]) dX8_payThem_38 (by decide) rfl ?_
          refine zj_aload_n C dX8_payThem_40 1 rfl ?_
          refine zj_get C 0 8 7 (v := .ref (m 6)) inZ8 rfl rfl (by decide) tg_684 rfl dX8_payThem_41 ?_
          refine zj_iload C dX8_payThem_44 5 rfl ?_
          refine zj_lald C 6 (f := (gMs_sh X)) k (nI_clamp (by omega)) (vp_in_nI (by omega) (by omega)) rfl dX8_payThem_46 ?_
          refine zj_lconst C (v := 0) dX8_payThem_47 (by decide) ?_
          have J_48 : ∀ (x48_0 : Bool) (x48_1 : zMs), x48_0 = (if ((gMs_sh X) k) ≤ 0 then go else (if ((gMs_at (f_X8_sellFor X ((((gMs_sh X) k) * price) / 1000))) 5) < ((((gMs_sh X) k) * price) / 1000) then false else true)) → x48_1 = (if ((gMs_sh X) k) ≤ 0 then X else (f_X8_sellFor X ((((gMs_sh X) k) * price) / 1000))) → zJ E 10 0 0 (WM cy m x48_1) 77 [(7, .long ((((gMs_sh X) k) * price) / 1000)), (0, .ref (m 0)), (1, .long price), (3, .long inc), (5, .int (zB x48_0)), (6, .int (nI k))] [] := by
            intro x48_0 x48_1 hx48_0 hx48_1
            have hY1 : gMs_sh x48_1 = gMs_sh X := by rw [hx48_1]; split; rfl; exact f_sell_sh _ _
            have hY2 : ∀ i, 19 ≤ i → gMs_at x48_1 i = gMs_at X i := by rw [hx48_1]; intro i hi; split; rfl; exact f_sell_hi _ _ hi
            refine zj_aload_n C dX8_payThem_77 1 rfl ?_
            refine zj_get C 0 8 7 (v := .ref (m 6)) inZ8 rfl rfl (by decide) tg_684 rfl dX8_payThem_78 ?_
            refine zj_iload C dX8_payThem_81 5 rfl ?_
            refine zj_lald C 6 (f := (gMs_sh x48_1)) k (nI_clamp (by omega)) (vp_in_nI (by omega) (by omega)) rfl dX8_payThem_83 ?_
            refine zj_lconst C (v := 0) dX8_payThem_84 (by decide) ?_
            have J_85 : ∀ (x85_0 : zMs), x85_0 = (if ((gMs_sh x48_1) k) ≤ 0 then x48_1 else (if x48_0 = false then x48_1 else (sMs_at (f_X8_add (f_X8_goUnits (sMs_at x48_1 (vp_updL (gMs_at x48_1) 5 (((gMs_at x48_1) 5) - ((((gMs_sh X) k) * price) / 1000)))) (zho X k) ((gMs_sh x48_1) k) inc) (zho X k) 3 ((((gMs_sh X) k) * price) / 1000)) (vp_updL (vp_updL (gMs_at (f_X8_add (f_X8_goUnits (sMs_at x48_1 (vp_updL (gMs_at x48_1) 5 (((gMs_at x48_1) 5) - ((((gMs_sh X) k) * price) / 1000)))) (zho X k) ((gMs_sh x48_1) k) inc) (zho X k) 3 ((((gMs_sh X) k) * price) / 1000))) (123 + (3 * k) + 1) (((gMs_at (f_X8_add (f_X8_goUnits (sMs_at x48_1 (vp_updL (gMs_at x48_1) 5 (((gMs_at x48_1) 5) - ((((gMs_sh X) k) * price) / 1000)))) (zho X k) ((gMs_sh x48_1) k) inc) (zho X k) 3 ((((gMs_sh X) k) * price) / 1000))) (123 + (3 * k) + 1)) - ((gMs_sh (f_X8_add (f_X8_goUnits (sMs_at x48_1 (vp_updL (gMs_at x48_1) 5 (((gMs_at x48_1) 5) - ((((gMs_sh X) k) * price) / 1000)))) (zho X k) ((gMs_sh x48_1) k) inc) (zho X k) 3 ((((gMs_sh X) k) * price) / 1000))) k))) 13 (((vp_updL (gMs_at (f_X8_add (f_X8_goUnits (sMs_at x48_1 (vp_updL (gMs_at x48_1) 5 (((gMs_at x48_1) 5) - ((((gMs_sh X) k) * price) / 1000)))) (zho X k) ((gMs_sh x48_1) k) inc) (zho X k) 3 ((((gMs_sh X) k) * price) / 1000))) (123 + (3 * k) + 1) (((gMs_at (f_X8_add (f_X8_goUnits (sMs_at x48_1 (vp_updL (gMs_at x48_1) 5 (((gMs_at x48_1) 5) - ((((gMs_sh X) k) * price) / 1000)))) (zho X k) ((gMs_sh x48_1) k) inc) (zho X k) 3 ((((gMs_sh X) k) * price) / 1000))) (123 + (3 * k) + 1)) - ((gMs_sh (f_X8_add (f_X8_goUnits (sMs_at x48_1 (vp_updL (gMs_at x48_1) 5 (((gMs_at x48_1) 5) - ((((gMs_sh X) k) * price) / 1000)))) (zho X k) ((gMs_sh x48_1) k) inc) (zho X k) 3 ((((gMs_sh X) k) * price) / 1000))) k))) 13) + ((gMs_sh (f_X8_add (f_X8_goUnits (sMs_at x48_1 (vp_updL (gMs_at x48_1) 5 (((gMs_at x48_1) 5) - ((((gMs_sh X) k) * price) / 1000)))) (zho X k) ((gMs_sh x48_1) k) inc) (zho X k) 3 ((((gMs_sh X) k) * price) / 1000))) k)))))) → zJ E 10 0 0 (WM cy m x85_0) 181 [(7, .long ((((gMs_sh X) k) * price) / 1000)), (0, .ref (m 0)), (1, .long price), (3, .long inc), (5, .int (zB x48_0)), (6, .int (nI k))] [] := by
              intro x85_0 hx85_0
              refine zj_iinc C (j := 5) (v := (nI (k + 1))) (L' := [(6, .int (nI (k + 1))), (7, .long ((((gMs_sh X) k) * price) / 1000)), (0, .ref (m 0)), (1, .long price), (3, .long inc), (5, .int (zB x48_0))]) dX8_payThem_181 rfl (nI_1 _) (by decide) rfl ?_
              refine zj_goto C 6 dX8_payThem_184 (by decide) ?_
              refine zj_sub (L' := [(0, .ref (m 0)), (1, .long price), (3, .long inc), (5, .int (zB x48_0)), (6, .int (nI (k + 1)))]) [2, 3, 4, 5, 0] rfl ?_
              have hn_hk : (k + 1) ≤ 20 := (by omega)
              have hn_mu : zcn S 122 - (k + 1) < fuel := (by omega)
              subst hx85_0
              subst hx48_1
              subst hx48_0
              have e_6 : (L_X8_pay1 price inc (fuel + 1) X go k) = (L_X8_pay1 price inc fuel (if ((gMs_sh (if ((gMs_sh X) k) ≤ 0 then X else (f_X8_sellFor X ((((gMs_sh X) k) * price) / 1000)))) k) ≤ 0 then (if ((gMs_sh X) k) ≤ 0 then X else (f_X8_sellFor X ((((gMs_sh X) k) * price) / 1000))) else (if (if ((gMs_sh X) k) ≤ 0 then go else (if ((gMs_at (f_X8_sellFor X ((((gMs_sh X) k) * price) / 1000))) 5) < ((((gMs_sh X) k) * price) / 1000) then false else true)) = false then (if ((gMs_sh X) k) ≤ 0 then X else (f_X8_sellFor X ((((gMs_sh X) k) * price) / 1000))) else (sMs_at (f_X8_add (f_X8_goUnits (sMs_at (if ((gMs_sh X) k) ≤ 0 then X else (f_X8_sellFor X ((((gMs_sh X) k) * price) / 1000))) (vp_updL (gMs_at (if ((gMs_sh X) k) ≤ 0 then X else (f_X8_sellFor X ((((gMs_sh X) k) * price) / 1000)))) 5 (((gMs_at (if ((gMs_sh X) k) ≤ 0 then X else (f_X8_sellFor X ((((gMs_sh X) k) * price) / 1000)))) 5) - ((((gMs_sh X) k) * price) / 1000)))) (zho X k) ((gMs_sh (if ((gMs_sh X) k) ≤ 0 then X else (f_X8_sellFor X ((((gMs_sh X) k) * price) / 1000)))) k) inc) (zho X k) 3 ((((gMs_sh X) k) * price) / 1000)) (vp_updL (vp_updL (gMs_at (f_X8_add (f_X8_goUnits (sMs_at (if ((gMs_sh X) k) ≤ 0 then X else (f_X8_sellFor X ((((gMs_sh X) k) * price) / 1000))) (vp_updL (gMs_at (if ((gMs_sh X) k) ≤ 0 then X else (f_X8_sellFor X ((((gMs_sh X) k) * price) / 1000)))) 5 (((gMs_at (if ((gMs_sh X) k) ≤ 0 then X else (f_X8_sellFor X ((((gMs_sh X) k) * price) / 1000)))) 5) - ((((gMs_sh X) k) * price) / 1000)))) (zho X k) ((gMs_sh (if ((gMs_sh X) k) ≤ 0 then X else (f_X8_sellFor X ((((gMs_sh X) k) * price) / 1000)))) k) inc) (zho X k) 3 ((((gMs_sh X) k) * price) / 1000))) (123 + (3 * k) + 1) (((gMs_at (f_X8_add (f_X8_goUnits (sMs_at (if ((gMs_sh X) k) ≤ 0 then X else (f_X8_sellFor X ((((gMs_sh X) k) * price) / 1000))) (vp_updL (gMs_at (if ((gMs_sh X) k) ≤ 0 then X else (f_X8_sellFor X ((((gMs_sh X) k) * price) / 1000)))) 5 (((gMs_at (if ((gMs_sh X) k) ≤ 0 then X else (f_X8_sellFor X ((((gMs_sh X) k) * price) / 1000)))) 5) - ((((gMs_sh X) k) * price) / 1000)))) (zho X k) ((gMs_sh (if ((gMs_sh X) k) ≤ 0 then X else (f_X8_sellFor X ((((gMs_sh X) k) * price) / 1000)))) k) inc) (zho X k) 3 ((((gMs_sh X) k) * price) / 1000))) (123 + (3 * k) + 1)) - ((gMs_sh (f_X8_add (f_X8_goUnits (sMs_at (if ((gMs_sh X) k) ≤ 0 then X else (f_X8_sellFor X ((((gMs_sh X) k) * price) / 1000))) (vp_updL (gMs_at (if ((gMs_sh X) k) ≤ 0 then X else (f_X8_sellFor X ((((gMs_sh X) k) * price) / 1000)))) 5 (((gMs_at (if ((gMs_sh X) k) ≤ 0 then X else (f_X8_sellFor X ((((gMs_sh X) k) * price) / 1000)))) 5) - ((((gMs_sh X) k) * price) / 1000)))) (zho X k) ((gMs_sh (if ((gMs_sh X) k) ≤ 0 then X else (f_X8_sellFor X ((((gMs_sh X) k) * price) / 1000)))) k) inc) (zho X k) 3 ((((gMs_sh X) k) * price) / 1000))) k))) 13 (((vp_updL (gMs_at (f_X8_add (f_X8_goUnits (sMs_at (if ((gMs_sh X) k) ≤ 0 then X else (f_X8_sellFor X ((((gMs_sh X) k) * price) / 1000))) (vp_updL (gMs_at (if ((gMs_sh X) k) ≤ 0 then X else (f_X8_sellFor X ((((gMs_sh X) k) * price) / 1000)))) 5 (((gMs_at (if ((gMs_sh X) k) ≤ 0 then X else (f_X8_sellFor X ((((gMs_sh X) k) * price) / 1000)))) 5) - ((((gMs_sh X) k) * price) / 1000)))) (zho X k) ((gMs_sh (if ((gMs_sh X) k) ≤ 0 then X else (f_X8_sellFor X ((((gMs_sh X) k) * price) / 1000)))) k) inc) (zho X k) 3 ((((gMs_sh X) k) * price) / 1000))) (123 + (3 * k) + 1) (((gMs_at (f_X8_add (f_X8_goUnits (sMs_at (if ((gMs_sh X) k) ≤ 0 then X else (f_X8_sellFor X ((((gMs_sh X) k) * price) / 1000))) (vp_updL (gMs_at (if ((gMs_sh X) k) ≤ 0 then X else (f_X8_sellFor X ((((gMs_sh X) k) * price) / 1000)))) 5 (((gMs_at (if ((gMs_sh X) k) ≤ 0 then X else (f_X8_sellFor X ((((gMs_sh X) k) * price) / 1000)))) 5) - ((((gMs_sh X) k) * price) / 1000)))) (zho X k) ((gMs_sh (if ((gMs_sh X) k) ≤ 0 then X else (f_X8_sellFor X ((((gMs_sh X) k) * price) / 1000)))) k) inc) (zho X k) 3 ((((gMs_sh X) k) * price) / 1000))) (123 + (3 * k) + 1)) - ((gMs_sh (f_X8_add (f_X8_goUnits (sMs_at (if ((gMs_sh X) k) ≤ 0 then X else (f_X8_sellFor X ((((gMs_sh X) k) * price) / 1000))) (vp_updL (gMs_at (if ((gMs_sh X) k) ≤ 0 then X else (f_X8_sellFor X ((((gMs_sh X) k) * price) / 1000)))) 5 (((gMs_at (if ((gMs_sh X) k) ≤ 0 then X else (f_X8_sellFor X ((((gMs_sh X) k) * price) / 1000)))) 5) - ((((gMs_sh X) k) * price) / 1000)))) (zho X k) ((gMs_sh (if ((gMs_sh X) k) ≤ 0 then X else (f_X8_sellFor X ((((gMs_sh X) k) * price) / 1000)))) k) inc) (zho X k) 3 ((((gMs_sh X) k) * price) / 1000))) k))) 13) + ((gMs_sh (f_X8_add (f_X8_goUnits (sMs_at (if ((gMs_sh X) k) ≤ 0 then X else (f_X8_sellFor X ((((gMs_sh X) k) * price) / 1000))) (vp_updL (gMs_at (if ((gMs_sh X) k) ≤ 0 then X else (f_X8_sellFor X ((((gMs_sh X) k) * price) / 1000)))) 5 (((gMs_at (if ((gMs_sh X) k) ≤ 0 then X else (f_X8_sellFor X ((((gMs_sh X) k) * price) / 1000)))) 5) - ((((gMs_sh X) k) * price) / 1000)))) (zho X k) ((gMs_sh (if ((gMs_sh X) k) ≤ 0 then X else (f_X8_sellFor X ((((gMs_sh X) k) * price) / 1000)))) k) inc) (zho X k) 3 ((((gMs_sh X) k) * price) / 1000))) k)))))) (if ((gMs_sh X) k) ≤ 0 then go else (if ((gMs_at (f_X8_sellFor X ((((gMs_sh X) k) * price) / 1000))) 5) < ((((gMs_sh X) k) * price) / 1000) then false else true)) (k + 1)) := by refine (L_X8_pay1_s price inc fuel X go k).trans ?_; refine (if_neg c_16).trans ?_; refine (if_neg c_22).trans ?_; rfl
              rw [e_6] at K_6
              have hn_hPk : P (if ((gMs_sh (if ((gMs_sh X) k) ≤ 0 then X else (f_X8_sellFor X ((((gMs_sh X) k) * price) / 1000)))) k) ≤ 0 then (if ((gMs_sh X) k) ≤ 0 then X else (f_X8_sellFor X ((((gMs_sh X) k) * price) / 1000))) else (if (if ((gMs_sh X) k) ≤ 0 then go else (if ((gMs_at (f_X8_sellFor X ((((gMs_sh X) k) * price) / 1000))) 5) < ((((gMs_sh X) k) * price) / 1000) then false else true)) = false then (if ((gMs_sh X) k) ≤ 0 then X else (f_X8_sellFor X ((((gMs_sh X) k) * price) / 1000))) else (sMs_at (f_X8_add (f_X8_goUnits (sMs_at (if ((gMs_sh X) k) ≤ 0 then X else (f_X8_sellFor X ((((gMs_sh X) k) * price) / 1000))) (vp_updL (gMs_at (if ((gMs_sh X) k) ≤ 0 then X else (f_X8_sellFor X ((((gMs_sh X) k) * price) / 1000)))) 5 (((gMs_at (if ((gMs_sh X) k) ≤ 0 then X else (f_X8_sellFor X ((((gMs_sh X) k) * price) / 1000)))) 5) - ((((gMs_sh X) k) * price) / 1000)))) (zho X k) ((gMs_sh (if ((gMs_sh X) k) ≤ 0 then X else (f_X8_sellFor X ((((gMs_sh X) k) * price) / 1000)))) k) inc) (zho X k) 3 ((((gMs_sh X) k) * price) / 1000)) (vp_updL (vp_updL (gMs_at (f_X8_add (f_X8_goUnits (sMs_at (if ((gMs_sh X) k) ≤ 0 then X else (f_X8_sellFor X ((((gMs_sh X) k) * price) / 1000))) (vp_updL (gMs_at (if ((gMs_sh X) k) ≤ 0 then X else (f_X8_sellFor X ((((gMs_sh X) k) * price) / 1000)))) 5 (((gMs_at (if ((gMs_sh X) k) ≤ 0 then X else (f_X8_sellFor X ((((gMs_sh X) k) * price) / 1000)))) 5) - ((((gMs_sh X) k) * price) / 1000)))) (zho X k) ((gMs_sh (if ((gMs_sh X) k) ≤ 0 then X else (f_X8_sellFor X ((((gMs_sh X) k) * price) / 1000)))) k) inc) (zho X k) 3 ((((gMs_sh X) k) * price) / 1000))) (123 + (3 * k) + 1) (((gMs_at (f_X8_add (f_X8_goUnits (sMs_at (if ((gMs_sh X) k) ≤ 0 then X else (f_X8_sellFor X ((((gMs_sh X) k) * price) / 1000))) (vp_updL (gMs_at (if ((gMs_sh X) k) ≤ 0 then X else (f_X8_sellFor X ((((gMs_sh X) k) * price) / 1000)))) 5 (((gMs_at (if ((gMs_sh X) k) ≤ 0 then X else (f_X8_sellFor X ((((gMs_sh X) k) * price) / 1000)))) 5) - ((((gMs_sh X) k) * price) / 1000)))) (zho X k) ((gMs_sh (if ((gMs_sh X) k) ≤ 0 then X else (f_X8_sellFor X ((((gMs_sh X) k) * price) / 1000)))) k) inc) (zho X k) 3 ((((gMs_sh X) k) * price) / 1000))) (123 + (3 * k) + 1)) - ((gMs_sh (f_X8_add (f_X8_goUnits (sMs_at (if ((gMs_sh X) k) ≤ 0 then X else (f_X8_sellFor X ((((gMs_sh X) k) * price) / 1000))) (vp_updL (gMs_at (if ((gMs_sh X) k) ≤ 0 then X else (f_X8_sellFor X ((((gMs_sh X) k) * price) / 1000)))) 5 (((gMs_at (if ((gMs_sh X) k) ≤ 0 then X else (f_X8_sellFor X ((((gMs_sh X) k) * price) / 1000)))) 5) - ((((gMs_sh X) k) * price) / 1000)))) (zho X k) ((gMs_sh (if ((gMs_sh X) k) ≤ 0 then X else (f_X8_sellFor X ((((gMs_sh X) k) * price) / 1000)))) k) inc) (zho X k) 3 ((((gMs_sh X) k) * price) / 1000))) k))) 13 (((vp_updL (gMs_at (f_X8_add (f_X8_goUnits (sMs_at (if ((gMs_sh X) k) ≤ 0 then X else (f_X8_sellFor X ((((gMs_sh X) k) * price) / 1000))) (vp_updL (gMs_at (if ((gMs_sh X) k) ≤ 0 then X else (f_X8_sellFor X ((((gMs_sh X) k) * price) / 1000)))) 5 (((gMs_at (if ((gMs_sh X) k) ≤ 0 then X else (f_X8_sellFor X ((((gMs_sh X) k) * price) / 1000)))) 5) - ((((gMs_sh X) k) * price) / 1000)))) (zho X k) ((gMs_sh (if ((gMs_sh X) k) ≤ 0 then X else (f_X8_sellFor X ((((gMs_sh X) k) * price) / 1000)))) k) inc) (zho X k) 3 ((((gMs_sh X) k) * price) / 1000))) (123 + (3 * k) + 1) (((gMs_at (f_X8_add (f_X8_goUnits (sMs_at (if ((gMs_sh X) k) ≤ 0 then X else (f_X8_sellFor X ((((gMs_sh X) k) * price) / 1000))) (vp_updL (gMs_at (if ((gMs_sh X) k) ≤ 0 then X else (f_X8_sellFor X ((((gMs_sh X) k) * price) / 1000)))) 5 (((gMs_at (if ((gMs_sh X) k) ≤ 0 then X else (f_X8_sellFor X ((((gMs_sh X) k) * price) / 1000)))) 5) - ((((gMs_sh X) k) * price) / 1000)))) (zho X k) ((gMs_sh (if ((gMs_sh X) k) ≤ 0 then X else (f_X8_sellFor X ((((gMs_sh X) k) * price) / 1000)))) k) inc) (zho X k) 3 ((((gMs_sh X) k) * price) / 1000))) (123 + (3 * k) + 1)) - ((gMs_sh (f_X8_add (f_X8_goUnits (sMs_at (if ((gMs_sh X) k) ≤ 0 then X else (f_X8_sellFor X ((((gMs_sh X) k) * price) / 1000))) (vp_updL (gMs_at (if ((gMs_sh X) k) ≤ 0 then X else (f_X8_sellFor X ((((gMs_sh X) k) * price) / 1000)))) 5 (((gMs_at (if ((gMs_sh X) k) ≤ 0 then X else (f_X8_sellFor X ((((gMs_sh X) k) * price) / 1000)))) 5) - ((((gMs_sh X) k) * price) / 1000)))) (zho X k) ((gMs_sh (if ((gMs_sh X) k) ≤ 0 then X else (f_X8_sellFor X ((((gMs_sh X) k) * price) / 1000)))) k) inc) (zho X k) 3 ((((gMs_sh X) k) * price) / 1000))) k))) 13) + ((gMs_sh (f_X8_add (f_X8_goUnits (sMs_at (if ((gMs_sh X) k) ≤ 0 then X else (f_X8_sellFor X ((((gMs_sh X) k) * price) / 1000))) (vp_updL (gMs_at (if ((gMs_sh X) k) ≤ 0 then X else (f_X8_sellFor X ((((gMs_sh X) k) * price) / 1000)))) 5 (((gMs_at (if ((gMs_sh X) k) ≤ 0 then X else (f_X8_sellFor X ((((gMs_sh X) k) * price) / 1000)))) 5) - ((((gMs_sh X) k) * price) / 1000)))) (zho X k) ((gMs_sh (if ((gMs_sh X) k) ≤ 0 then X else (f_X8_sellFor X ((((gMs_sh X) k) * price) / 1000)))) k) inc) (zho X k) 3 ((((gMs_sh X) k) * price) / 1000))) k)))))) (if ((gMs_sh X) k) ≤ 0 then go else (if ((gMs_at (f_X8_sellFor X ((((gMs_sh X) k) * price) / 1000))) 5) < ((((gMs_sh X) k) * price) / 1000) then false else true)) (k + 1) := by have q := (hP X go k hPk).2; have e1 : L_X8_pay1 price inc (0 + 1) X go k = ((if ((gMs_sh (if ((gMs_sh X) k) ≤ 0 then X else (f_X8_sellFor X ((((gMs_sh X) k) * price) / 1000)))) k) ≤ 0 then (if ((gMs_sh X) k) ≤ 0 then X else (f_X8_sellFor X ((((gMs_sh X) k) * price) / 1000))) else (if (if ((gMs_sh X) k) ≤ 0 then go else (if ((gMs_at (f_X8_sellFor X ((((gMs_sh X) k) * price) / 1000))) 5) < ((((gMs_sh X) k) * price) / 1000) then false else true)) = false then (if ((gMs_sh X) k) ≤ 0 then X else (f_X8_sellFor X ((((gMs_sh X) k) * price) / 1000))) else (sMs_at (f_X8_add (f_X8_goUnits (sMs_at (if ((gMs_sh X) k) ≤ 0 then X else (f_X8_sellFor X ((((gMs_sh X) k) * price) / 1000))) (vp_updL (gMs_at (if ((gMs_sh X) k) ≤ 0 then X else (f_X8_sellFor X ((((gMs_sh X) k) * price) / 1000)))) 5 (((gMs_at (if ((gMs_sh X) k) ≤ 0 then X else (f_X8_sellFor X ((((gMs_sh X) k) * price) / 1000)))) 5) - ((((gMs_sh X) k) * price) / 1000)))) (zho X k) ((gMs_sh (if ((gMs_sh X) k) ≤ 0 then X else (f_X8_sellFor X ((((gMs_sh X) k) * price) / 1000)))) k) inc) (zho X k) 3 ((((gMs_sh X) k) * price) / 1000)) (vp_updL (vp_updL (gMs_at (f_X8_add (f_X8_goUnits (sMs_at (if ((gMs_sh X) k) ≤ 0 then X else (f_X8_sellFor X ((((gMs_sh X) k) * price) / 1000))) (vp_updL (gMs_at (if ((gMs_sh X) k) ≤ 0 then X else (f_X8_sellFor X ((((gMs_sh X) k) * price) / 1000)))) 5 (((gMs_at (if ((gMs_sh X) k) ≤ 0 then X else (f_X8_sellFor X ((((gMs_sh X) k) * price) / 1000)))) 5) - ((((gMs_sh X) k) * price) / 1000)))) (zho X k) ((gMs_sh (if ((gMs_sh X) k) ≤ 0 then X else (f_X8_sellFor X ((((gMs_sh X) k) * price) / 1000)))) k) inc) (zho X k) 3 ((((gMs_sh X) k) * price) / 1000))) (123 + (3 * k) + 1) (((gMs_at (f_X8_add (f_X8_goUnits (sMs_at (if ((gMs_sh X) k) ≤ 0 then X else (f_X8_sellFor X ((((gMs_sh X) k) * price) / 1000))) (vp_updL (gMs_at (if ((gMs_sh X) k) ≤ 0 then X else (f_X8_sellFor X ((((gMs_sh X) k) * price) / 1000)))) 5 (((gMs_at (if ((gMs_sh X) k) ≤ 0 then X else (f_X8_sellFor X ((((gMs_sh X) k) * price) / 1000)))) 5) - ((((gMs_sh X) k) * price) / 1000)))) (zho X k) ((gMs_sh (if ((gMs_sh X) k) ≤ 0 then X else (f_X8_sellFor X ((((gMs_sh X) k) * price) / 1000)))) k) inc) (zho X k) 3 ((((gMs_sh X) k) * price) / 1000))) (123 + (3 * k) + 1)) - ((gMs_sh (f_X8_add (f_X8_goUnits (sMs_at (if ((gMs_sh X) k) ≤ 0 then X else (f_X8_sellFor X ((((gMs_sh X) k) * price) / 1000))) (vp_updL (gMs_at (if ((gMs_sh X) k) ≤ 0 then X else (f_X8_sellFor X ((((gMs_sh X) k) * price) / 1000)))) 5 (((gMs_at (if ((gMs_sh X) k) ≤ 0 then X else (f_X8_sellFor X ((((gMs_sh X) k) * price) / 1000)))) 5) - ((((gMs_sh X) k) * price) / 1000)))) (zho X k) ((gMs_sh (if ((gMs_sh X) k) ≤ 0 then X else (f_X8_sellFor X ((((gMs_sh X) k) * price) / 1000)))) k) inc) (zho X k) 3 ((((gMs_sh X) k) * price) / 1000))) k))) 13 (((vp_updL (gMs_at (f_X8_add (f_X8_goUnits (sMs_at (if ((gMs_sh X) k) ≤ 0 then X else (f_X8_sellFor X ((((gMs_sh X) k) * price) / 1000))) (vp_updL (gMs_at (if ((gMs_sh X) k) ≤ 0 then X else (f_X8_sellFor X ((((gMs_sh X) k) * price) / 1000)))) 5 (((gMs_at (if ((gMs_sh X) k) ≤ 0 then X else (f_X8_sellFor X ((((gMs_sh X) k) * price) / 1000)))) 5) - ((((gMs_sh X) k) * price) / 1000)))) (zho X k) ((gMs_sh (if ((gMs_sh X) k) ≤ 0 then X else (f_X8_sellFor X ((((gMs_sh X) k) * price) / 1000)))) k) inc) (zho X k) 3 ((((gMs_sh X) k) * price) / 1000))) (123 + (3 * k) + 1) (((gMs_at (f_X8_add (f_X8_goUnits (sMs_at (if ((gMs_sh X) k) ≤ 0 then X else (f_X8_sellFor X ((((gMs_sh X) k) * price) / 1000))) (vp_updL (gMs_at (if ((gMs_sh X) k) ≤ 0 then X else (f_X8_sellFor X ((((gMs_sh X) k) * price) / 1000)))) 5 (((gMs_at (if ((gMs_sh X) k) ≤ 0 then X else (f_X8_sellFor X ((((gMs_sh X) k) * price) / 1000)))) 5) - ((((gMs_sh X) k) * price) / 1000)))) (zho X k) ((gMs_sh (if ((gMs_sh X) k) ≤ 0 then X else (f_X8_sellFor X ((((gMs_sh X) k) * price) / 1000)))) k) inc) (zho X k) 3 ((((gMs_sh X) k) * price) / 1000))) (123 + (3 * k) + 1)) - ((gMs_sh (f_X8_add (f_X8_goUnits (sMs_at (if ((gMs_sh X) k) ≤ 0 then X else (f_X8_sellFor X ((((gMs_sh X) k) * price) / 1000))) (vp_updL (gMs_at (if ((gMs_sh X) k) ≤ 0 then X else (f_X8_sellFor X ((((gMs_sh X) k) * price) / 1000)))) 5 (((gMs_at (if ((gMs_sh X) k) ≤ 0 then X else (f_X8_sellFor X ((((gMs_sh X) k) * price) / 1000)))) 5) - ((((gMs_sh X) k) * price) / 1000)))) (zho X k) ((gMs_sh (if ((gMs_sh X) k) ≤ 0 then X else (f_X8_sellFor X ((((gMs_sh X) k) * price) / 1000)))) k) inc) (zho X k) 3 ((((gMs_sh X) k) * price) / 1000))) k))) 13) + ((gMs_sh (f_X8_add (f_X8_goUnits (sMs_at (if ((gMs_sh X) k) ≤ 0 then X else (f_X8_sellFor X ((((gMs_sh X) k) * price) / 1000))) (vp_updL (gMs_at (if ((gMs_sh X) k) ≤ 0 then X else (f_X8_sellFor X ((((gMs_sh X) k) * price) / 1000)))) 5 (((gMs_at (if ((gMs_sh X) k) ≤ 0 then X else (f_X8_sellFor X ((((gMs_sh X) k) * price) / 1000)))) 5) - ((((gMs_sh X) k) * price) / 1000)))) (zho X k) ((gMs_sh (if ((gMs_sh X) k) ≤ 0 then X else (f_X8_sellFor X ((((gMs_sh X) k) * price) / 1000)))) k) inc) (zho X k) 3 ((((gMs_sh X) k) * price) / 1000))) k)))))), (if ((gMs_sh X) k) ≤ 0 then go else (if ((gMs_at (f_X8_sellFor X ((((gMs_sh X) k) * price) / 1000))) 5) < ((((gMs_sh X) k) * price) / 1000) then false else true)), k + 1) := (by refine (L_X8_pay1_s price inc 0 X go k).trans ?_; refine (if_neg c_16).trans ?_; refine (if_neg c_22).trans ?_; rfl); rw [e1] at q; exact q
              exact ih_6 (if ((gMs_sh (if ((gMs_sh X) k) ≤ 0 then X else (f_X8_sellFor X ((((gMs_sh X) k) * price) / 1000)))) k) ≤ 0 then (if ((gMs_sh X) k) ≤ 0 then X else (f_X8_sellFor X ((((gMs_sh X) k) * price) / 1000))) else (if (if ((gMs_sh X) k) ≤ 0 then go else (if ((gMs_at (f_X8_sellFor X ((((gMs_sh X) k) * price) / 1000))) 5) < ((((gMs_sh X) k) * price) / 1000) then false else true)) = false then (if ((gMs_sh X) k) ≤ 0 then X else (f_X8_sellFor X ((((gMs_sh X) k) * price) / 1000))) else (sMs_at (f_X8_add (f_X8_goUnits (sMs_at (if ((gMs_sh X) k) ≤ 0 then X else (f_X8_sellFor X ((((gMs_sh X) k) * price) / 1000))) (vp_updL (gMs_at (if ((gMs_sh X) k) ≤ 0 then X else (f_X8_sellFor X ((((gMs_sh X) k) * price) / 1000)))) 5 (((gMs_at (if ((gMs_sh X) k) ≤ 0 then X else (f_X8_sellFor X ((((gMs_sh X) k) * price) / 1000)))) 5) - ((((gMs_sh X) k) * price) / 1000)))) (zho X k) ((gMs_sh (if ((gMs_sh X) k) ≤ 0 then X else (f_X8_sellFor X ((((gMs_sh X) k) * price) / 1000)))) k) inc) (zho X k) 3 ((((gMs_sh X) k) * price) / 1000)) (vp_updL (vp_updL (gMs_at (f_X8_add (f_X8_goUnits (sMs_at (if ((gMs_sh X) k) ≤ 0 then X else (f_X8_sellFor X ((((gMs_sh X) k) * price) / 1000))) (vp_updL (gMs_at (if ((gMs_sh X) k) ≤ 0 then X else (f_X8_sellFor X ((((gMs_sh X) k) * price) / 1000)))) 5 (((gMs_at (if ((gMs_sh X) k) ≤ 0 then X else (f_X8_sellFor X ((((gMs_sh X) k) * price) / 1000)))) 5) - ((((gMs_sh X) k) * price) / 1000)))) (zho X k) ((gMs_sh (if ((gMs_sh X) k) ≤ 0 then X else (f_X8_sellFor X ((((gMs_sh X) k) * price) / 1000)))) k) inc) (zho X k) 3 ((((gMs_sh X) k) * price) / 1000))) (123 + (3 * k) + 1) (((gMs_at (f_X8_add (f_X8_goUnits (sMs_at (if ((gMs_sh X) k) ≤ 0 then X else (f_X8_sellFor X ((((gMs_sh X) k) * price) / 1000))) (vp_updL (gMs_at (if ((gMs_sh X) k) ≤ 0 then X else (f_X8_sellFor X ((((gMs_sh X) k) * price) / 1000)))) 5 (((gMs_at (if ((gMs_sh X) k) ≤ 0 then X else (f_X8_sellFor X ((((gMs_sh X) k) * price) / 1000)))) 5) - ((((gMs_sh X) k) * price) / 1000)))) (zho X k) ((gMs_sh (if ((gMs_sh X) k) ≤ 0 then X else (f_X8_sellFor X ((((gMs_sh X) k) * price) / 1000)))) k) inc) (zho X k) 3 ((((gMs_sh X) k) * price) / 1000))) (123 + (3 * k) + 1)) - ((gMs_sh (f_X8_add (f_X8_goUnits (sMs_at (if ((gMs_sh X) k) ≤ 0 then X else (f_X8_sellFor X ((((gMs_sh X) k) * price) / 1000))) (vp_updL (gMs_at (if ((gMs_sh X) k) ≤ 0 then X else (f_X8_sellFor X ((((gMs_sh X) k) * price) / 1000)))) 5 (((gMs_at (if ((gMs_sh X) k) ≤ 0 then X else (f_X8_sellFor X ((((gMs_sh X) k) * price) / 1000)))) 5) - ((((gMs_sh X) k) * price) / 1000)))) (zho X k) ((gMs_sh (if ((gMs_sh X) k) ≤ 0 then X else (f_X8_sellFor X ((((gMs_sh X) k) * price) / 1000)))) k) inc) (zho X k) 3 ((((gMs_sh X) k) * price) / 1000))) k))) 13 (((vp_updL (gMs_at (f_X8_add (f_X8_goUnits (sMs_at (if ((gMs_sh X) k) ≤ 0 then X else (f_X8_sellFor X ((((gMs_sh X) k) * price) / 1000))) (vp_updL (gMs_at (if ((gMs_sh X) k) ≤ 0 then X else (f_X8_sellFor X ((((gMs_sh X) k) * price) / 1000)))) 5 (((gMs_at (if ((gMs_sh X) k) ≤ 0 then X else (f_X8_sellFor X ((((gMs_sh X) k) * price) / 1000)))) 5) - ((((gMs_sh X) k) * price) / 1000)))) (zho X k) ((gMs_sh (if ((gMs_sh X) k) ≤ 0 then X else (f_X8_sellFor X ((((gMs_sh X) k) * price) / 1000)))) k) inc) (zho X k) 3 ((((gMs_sh X) k) * price) / 1000))) (123 + (3 * k) + 1) (((gMs_at (f_X8_add (f_X8_goUnits (sMs_at (if ((gMs_sh X) k) ≤ 0 then X else (f_X8_sellFor X ((((gMs_sh X) k) * price) / 1000))) (vp_updL (gMs_at (if ((gMs_sh X) k) ≤ 0 then X else (f_X8_sellFor X ((((gMs_sh X) k) * price) / 1000)))) 5 (((gMs_at (if ((gMs_sh X) k) ≤ 0 then X else (f_X8_sellFor X ((((gMs_sh X) k) * price) / 1000)))) 5) - ((((gMs_sh X) k) * price) / 1000)))) (zho X k) ((gMs_sh (if ((gMs_sh X) k) ≤ 0 then X else (f_X8_sellFor X ((((gMs_sh X) k) * price) / 1000)))) k) inc) (zho X k) 3 ((((gMs_sh X) k) * price) / 1000))) (123 + (3 * k) + 1)) - ((gMs_sh (f_X8_add (f_X8_goUnits (sMs_at (if ((gMs_sh X) k) ≤ 0 then X else (f_X8_sellFor X ((((gMs_sh X) k) * price) / 1000))) (vp_updL (gMs_at (if ((gMs_sh X) k) ≤ 0 then X else (f_X8_sellFor X ((((gMs_sh X) k) * price) / 1000)))) 5 (((gMs_at (if ((gMs_sh X) k) ≤ 0 then X else (f_X8_sellFor X ((((gMs_sh X) k) * price) / 1000)))) 5) - ((((gMs_sh X) k) * price) / 1000)))) (zho X k) ((gMs_sh (if ((gMs_sh X) k) ≤ 0 then X else (f_X8_sellFor X ((((gMs_sh X) k) * price) / 1000)))) k) inc) (zho X k) 3 ((((gMs_sh X) k) * price) / 1000))) k))) 13) + ((gMs_sh (f_X8_add (f_X8_goUnits (sMs_at (if ((gMs_sh X) k) ≤ 0 then X else (f_X8_sellFor X ((((gMs_sh X) k) * price) / 1000))) (vp_updL (gMs_at (if ((gMs_sh X) k) ≤ 0 then X else (f_X8_sellFor X ((((gMs_sh X) k) * price) / 1000)))) 5 (((gMs_at (if ((gMs_sh X) k) ≤ 0 then X else (f_X8_sellFor X ((((gMs_sh X) k) * price) / 1000)))) 5) - ((((gMs_sh X) k) * price) / 1000)))) (zho X k) ((gMs_sh (if ((gMs_sh X) k) ≤ 0 then X else (f_X8_sellFor X ((((gMs_sh X) k) * price) / 1000)))) k) inc) (zho X k) 3 ((((gMs_sh X) k) * price) / 1000))) k)))))) (if ((gMs_sh X) k) ≤ 0 then go else (if ((gMs_at (f_X8_sellFor X ((((gMs_sh X) k) * price) / 1000))) 5) < ((((gMs_sh X) k) * price) / 1000) then false else true)) (k + 1) hn_hk hn_hPk hn_mu K_6
            refine zj_lcmp_le C 181 dX8_payThem_85 dX8_payThem_86 (by decide) (fun c => ?_) (fun c => ?_)
            · have c_85 : ((gMs_sh x48_1) k) ≤ 0 := c
              exact J_85 x48_1 (by simp only [if_neg c_16, if_neg c_22, if_pos c_85]; first | done | assumption)
            · have c_85 : ¬ (((gMs_sh x48_1) k) ≤ 0) := c
              refine zj_iload C dX8_payThem_89 4 rfl ?_
              have J_91 : ∀ (x91_0 : zMs), x91_0 = (if x48_0 = false then x48_1 else (sMs_at (f_X8_add (f_X8_goUnits (sMs_at x48_1 (vp_updL (gMs_at x48_1) 5 (((gMs_at x48_1) 5) - ((((gMs_sh X) k) * price) / 1000)))) (zho X k) ((gMs_sh x48_1) k) inc) (zho X k) 3 ((((gMs_sh X) k) * price) / 1000)) (vp_updL (vp_updL (gMs_at (f_X8_add (f_X8_goUnits (sMs_at x48_1 (vp_updL (gMs_at x48_1) 5 (((gMs_at x48_1) 5) - ((((gMs_sh X) k) * price) / 1000)))) (zho X k) ((gMs_sh x48_1) k) inc) (zho X k) 3 ((((gMs_sh X) k) * price) / 1000))) (123 + (3 * k) + 1) (((gMs_at (f_X8_add (f_X8_goUnits (sMs_at x48_1 (vp_updL (gMs_at x48_1) 5 (((gMs_at x48_1) 5) - ((((gMs_sh X) k) * price) / 1000)))) (zho X k) ((gMs_sh x48_1) k) inc) (zho X k) 3 ((((gMs_sh X) k) * price) / 1000))) (123 + (3 * k) + 1)) - ((gMs_sh (f_X8_add (f_X8_goUnits (sMs_at x48_1 (vp_updL (gMs_at x48_1) 5 (((gMs_at x48_1) 5) - ((((gMs_sh X) k) * price) / 1000)))) (zho X k) ((gMs_sh x48_1) k) inc) (zho X k) 3 ((((gMs_sh X) k) * price) / 1000))) k))) 13 (((vp_updL (gMs_at (f_X8_add (f_X8_goUnits (sMs_at x48_1 (vp_updL (gMs_at x48_1) 5 (((gMs_at x48_1) 5) - ((((gMs_sh X) k) * price) / 1000)))) (zho X k) ((gMs_sh x48_1) k) inc) (zho X k) 3 ((((gMs_sh X) k) * price) / 1000))) (123 + (3 * k) + 1) (((gMs_at (f_X8_add (f_X8_goUnits (sMs_at x48_1 (vp_updL (gMs_at x48_1) 5 (((gMs_at x48_1) 5) - ((((gMs_sh X) k) * price) / 1000)))) (zho X k) ((gMs_sh x48_1) k) inc) (zho X k) 3 ((((gMs_sh X) k) * price) / 1000))) (123 + (3 * k) + 1)) - ((gMs_sh (f_X8_add (f_X8_goUnits (sMs_at x48_1 (vp_updL (gMs_at x48_1) 5 (((gMs_at x48_1) 5) - ((((gMs_sh X) k) * price) / 1000)))) (zho X k) ((gMs_sh x48_1) k) inc) (zho X k) 3 ((((gMs_sh X) k) * price) / 1000))) k))) 13) + ((gMs_sh (f_X8_add (f_X8_goUnits (sMs_at x48_1 (vp_updL (gMs_at x48_1) 5 (((gMs_at x48_1) 5) - ((((gMs_sh X) k) * price) / 1000)))) (zho X k) ((gMs_sh x48_1) k) inc) (zho X k) 3 ((((gMs_sh X) k) * price) / 1000))) k))))) → zJ E 10 0 0 (WM cy m x91_0) 181 [(7, .long ((((gMs_sh X) k) * price) / 1000)), (0, .ref (m 0)), (1, .long price), (3, .long inc), (5, .int (zB x48_0)), (6, .int (nI k))] [] := by
                intro x91_0 hx91_0
                exact J_85 x91_0 (by simp only [if_neg c_16, if_neg c_22, if_neg c_85]; first | done | assumption)
              refine zj_if_eq C 181 dX8_payThem_91 (by decide) (fun c => ?_) (fun c => ?_)
              · have c_91 : x48_0 = false := (zB_eq c)
                exact J_91 x48_1 (by simp only [if_neg c_16, if_neg c_22, if_neg c_85, if_pos c_91]; first | done | assumption)
              · have c_91 : ¬ (x48_0 = false) := (zB_neq c)
                refine zj_aload_n C dX8_payThem_94 1 rfl ?_
                refine zj_bipush C (v := (nI 122)) dX8_payThem_95 (by decide) ?_
                refine zj_iload C dX8_payThem_97 5 rfl ?_
                refine zj_iconst C (v := (nI 0)) dX8_payThem_99 (by decide) ?_
                refine zj_callV C (nn := 10) (ws' := (WM cy m x48_1)) (st := []) (st1 := [.long (f_X8_ofOrder x48_1 122 k 0)]) 0 8 [0, 1, 2, 3, 4, 5, 6, 7, 8, 9] (c_X8_ofOrder l D cy m 122 k 0 x48_1 (by omega)) (zg_V tg_760 tg_757 tg_759 tgp_18 tg_9) ⟨rfl, hdZ_X8_ofOrder⟩ ⟨rfl, rfl⟩ ⟨by decide, by decide⟩ rfl rfl rfl (by decide) ⟨rfl, rfl⟩ rfl rfl (Nat.le_of_ble_eq_true rfl) dX8_payThem_100 rfl rfl ?_
                refine zj_topl (lN (zho X k)) (hq (by omega) (zbt c_22) _ hY1 hY2 (Int64.not_le.mp c_85)).1 ?_
                refine zj_l2i C dX8_payThem_103 ?_
                refine zj_topi (nI (zho X k)) (lN_i _) ?_
                refine zj_istore C (L' := [(9, .int (nI (zho X k))), (7, .long ((((gMs_sh X) k) * price) / 1000)), (0, .ref (m 0)), (1, .long price), (3, .long inc), (5, .int (zB x48_0)), (6, .int (nI k))]) dX8_payThem_104 (by decide) rfl ?_
                refine zj_aload_n C dX8_payThem_106 2 rfl ?_
                refine zj_get C 0 8 0 (v := .ref (m 1)) inZ8 rfl rfl (by decide) tg_677 rfl dX8_payThem_107 ?_
                refine zj_iconst C (v := (nI 5)) dX8_payThem_110 (by decide) ?_
                refine zj_dup2 C dX8_payThem_111 rfl rfl ?_
                refine zj_lald C 1 (f := (gMs_at x48_1)) 5 (by decide) (vp_in_nI (by decide) (by decide)) rfl dX8_payThem_112 ?_
                refine zj_lload C dX8_payThem_113 1 rfl ?_
                refine zj_lsub C dX8_payThem_115 ?_
                refine zj_last C 1 (f := (gMs_at x48_1)) (ws' := (WM cy m (sMs_at x48_1 (vp_updL (gMs_at x48_1) 5 (((gMs_at x48_1) 5) - ((((gMs_sh X) k) * price) / 1000)))))) 5 (by decide) (vp_in_nI (by decide) (by decide)) rfl dX8_payThem_116 rfl ?_
                refine zj_aload_n C dX8_payThem_117 2 rfl ?_
                refine zj_iload C dX8_payThem_118 0 rfl ?_
                refine zj_aload_n C dX8_payThem_120 2 rfl ?_
                refine zj_get C 0 8 7 (v := .ref (m 6)) inZ8 rfl rfl (by decide) tg_684 rfl dX8_payThem_121 ?_
                refine zj_iload C dX8_payThem_124 6 rfl ?_
                refine zj_lald C 6 (f := (gMs_sh x48_1)) k (nI_clamp (by omega)) (vp_in_nI (by omega) (by omega)) rfl dX8_payThem_126 ?_
                refine zj_lload_n C dX8_payThem_127 4 rfl ?_
                refine zj_callV C (nn := 10) (ws' := (WM cy m (f_X8_goUnits (sMs_at x48_1 (vp_updL (gMs_at x48_1) 5 (((gMs_at x48_1) 5) - ((((gMs_sh X) k) * price) / 1000)))) (zho X k) ((gMs_sh x48_1) k) inc))) (st := []) (st1 := []) 0 8 [0, 1, 2, 3, 4, 5, 6, 7, 8, 9] (c_X8_goUnits l D cy m (zho X k) ((gMs_sh x48_1) k) inc (sMs_at x48_1 (vp_updL (gMs_at x48_1) 5 (((gMs_at x48_1) 5) - ((((gMs_sh X) k) * price) / 1000)))) (hq (by omega) (zbt c_22) _ hY1 hY2 (Int64.not_le.mp c_85)).2.1 (hq (by omega) (zbt c_22) (sMs_at x48_1 (vp_updL (gMs_at x48_1) 5 (((gMs_at x48_1) 5) - ((((gMs_sh X) k) * price) / 1000)))) hY1 (fun i hi => (vp_updL_n _ _ (by omega)).trans (hY2 i hi)) (Int64.not_le.mp c_85)).2.2) (zg_V tg_796 tg_793 tg_795 tgp_25 tg_9) ⟨rfl, hdZ_X8_goUnits⟩ ⟨rfl, rfl⟩ ⟨by decide, by decide⟩ rfl rfl rfl (by decide) ⟨rfl, rfl⟩ rfl rfl (Nat.le_of_ble_eq_true rfl) dX8_payThem_128 rfl rfl ?_
                refine zj_aload_n C dX8_payThem_131 2 rfl ?_
                refine zj_iload C dX8_payThem_132 0 rfl ?_
                refine zj_iconst C (v := (nI 3)) dX8_payThem_134 (by decide) ?_
                refine zj_lload C dX8_payThem_135 1 rfl ?_
                refine zj_callV C (nn := 10) (ws' := (WM cy m (f_X8_add (f_X8_goUnits (sMs_at x48_1 (vp_updL (gMs_at x48_1) 5 (((gMs_at x48_1) 5) - ((((gMs_sh X) k) * price) / 1000)))) (zho X k) ((gMs_sh x48_1) k) inc) (zho X k) 3 ((((gMs_sh X) k) * price) / 1000)))) (st := []) (st1 := []) 0 8 [0, 1, 2, 3, 4, 5, 6, 7, 8, 9] (c_X8_add l D cy m (zho X k) 3 ((((gMs_sh X) k) * price) / 1000) (f_X8_goUnits (sMs_at x48_1 (vp_updL (gMs_at x48_1) 5 (((gMs_at x48_1) 5) - ((((gMs_sh X) k) * price) / 1000)))) (zho X k) ((gMs_sh x48_1) k) inc) (hq (by omega) (zbt c_22) _ hY1 hY2 (Int64.not_le.mp c_85)).2.1 (by decide)) (zg_V tg_804 tg_801 tg_803 tgp_27 tg_9) ⟨rfl, hdZ_X8_add⟩ ⟨rfl, rfl⟩ ⟨by decide, by decide⟩ rfl rfl rfl (by decide) ⟨rfl, rfl⟩ rfl rfl (Nat.le_of_ble_eq_true rfl) dX8_payThem_137 rfl rfl ?_
                refine zj_aload_n C dX8_payThem_140 2 rfl ?_
                refine zj_get C 0 8 0 (v := .ref (m 1)) inZ8 rfl rfl (by decide) tg_677 rfl dX8_payThem_141 ?_
                refine zj_bipush C (v := (nI 123)) dX8_payThem_144 (by decide) ?_
                refine zj_iconst C (v := (nI 3)) dX8_payThem_146 (by decide) ?_
                refine zj_iload C dX8_payThem_147 6 rfl ?_
                refine zj_imul C dX8_payThem_149 ?_
                refine zj_topi (nI (3 * k)) (pk_mul _ _) ?_
                refine zj_iadd C dX8_payThem_150 ?_
                refine zj_topi (nI (123 + (3 * k))) (nI_add _ _) ?_
                refine zj_iconst C (v := (nI 1)) dX8_payThem_151 (by decide) ?_
                refine zj_iadd C dX8_payThem_152 ?_
                refine zj_topi (nI (123 + (3 * k) + 1)) ((nI_add _ _).trans (congrArg nI (by omega))) ?_
                refine zj_dup2 C dX8_payThem_153 rfl rfl ?_
                refine zj_lald C 1 (f := (gMs_at (f_X8_add (f_X8_goUnits (sMs_at x48_1 (vp_updL (gMs_at x48_1) 5 (((gMs_at x48_1) 5) - ((((gMs_sh X) k) * price) / 1000)))) (zho X k) ((gMs_sh x48_1) k) inc) (zho X k) 3 ((((gMs_sh X) k) * price) / 1000)))) (123 + (3 * k) + 1) (nI_clamp (by omega)) (vp_in_nI (by omega) (by omega)) rfl dX8_payThem_154 ?_
                refine zj_aload_n C dX8_payThem_155 2 rfl ?_
                refine zj_get C 0 8 7 (v := .ref (m 6)) inZ8 rfl rfl (by decide) tg_684 rfl dX8_payThem_156 ?_
                refine zj_iload C dX8_payThem_159 6 rfl ?_
                refine zj_lald C 6 (f := (gMs_sh (f_X8_add (f_X8_goUnits (sMs_at x48_1 (vp_updL (gMs_at x48_1) 5 (((gMs_at x48_1) 5) - ((((gMs_sh X) k) * price) / 1000)))) (zho X k) ((gMs_sh x48_1) k) inc) (zho X k) 3 ((((gMs_sh X) k) * price) / 1000)))) k (nI_clamp (by omega)) (vp_in_nI (by omega) (by omega)) rfl dX8_payThem_161 ?_
                refine zj_lsub C dX8_payThem_162 ?_
                refine zj_last C 1 (f := (gMs_at (f_X8_add (f_X8_goUnits (sMs_at x48_1 (vp_updL (gMs_at x48_1) 5 (((gMs_at x48_1) 5) - ((((gMs_sh X) k) * price) / 1000)))) (zho X k) ((gMs_sh x48_1) k) inc) (zho X k) 3 ((((gMs_sh X) k) * price) / 1000)))) (ws' := (WM cy m (sMs_at (f_X8_add (f_X8_goUnits (sMs_at x48_1 (vp_updL (gMs_at x48_1) 5 (((gMs_at x48_1) 5) - ((((gMs_sh X) k) * price) / 1000)))) (zho X k) ((gMs_sh x48_1) k) inc) (zho X k) 3 ((((gMs_sh X) k) * price) / 1000)) (vp_updL (gMs_at (f_X8_add (f_X8_goUnits (sMs_at x48_1 (vp_updL (gMs_at x48_1) 5 (((gMs_at x48_1) 5) - ((((gMs_sh X) k) * price) / 1000)))) (zho X k) ((gMs_sh x48_1) k) inc) (zho X k) 3 ((((gMs_sh X) k) * price) / 1000))) (123 + (3 * k) + 1) (((gMs_at (f_X8_add (f_X8_goUnits (sMs_at x48_1 (vp_updL (gMs_at x48_1) 5 (((gMs_at x48_1) 5) - ((((gMs_sh X) k) * price) / 1000)))) (zho X k) ((gMs_sh x48_1) k) inc) (zho X k) 3 ((((gMs_sh X) k) * price) / 1000))) (123 + (3 * k) + 1)) - ((gMs_sh (f_X8_add (f_X8_goUnits (sMs_at x48_1 (vp_updL (gMs_at x48_1) 5 (((gMs_at x48_1) 5) - ((((gMs_sh X) k) * price) / 1000)))) (zho X k) ((gMs_sh x48_1) k) inc) (zho X k) 3 ((((gMs_sh X) k) * price) / 1000))) k)))))) (123 + (3 * k) + 1) (nI_clamp (by omega)) (vp_in_nI (by omega) (by omega)) rfl dX8_payThem_163 rfl ?_
                refine zj_aload_n C dX8_payThem_164 2 rfl ?_
                refine zj_get C 0 8 0 (v := .ref (m 1)) inZ8 rfl rfl (by decide) tg_677 rfl dX8_payThem_165 ?_
                refine zj_bipush C (v := (nI 13)) dX8_payThem_168 (by decide) ?_
                refine zj_dup2 C dX8_payThem_170 rfl rfl ?_
                refine zj_lald C 1 (f := (vp_updL (gMs_at (f_X8_add (f_X8_goUnits (sMs_at x48_1 (vp_updL (gMs_at x48_1) 5 (((gMs_at x48_1) 5) - ((((gMs_sh X) k) * price) / 1000)))) (zho X k) ((gMs_sh x48_1) k) inc) (zho X k) 3 ((((gMs_sh X) k) * price) / 1000))) (123 + (3 * k) + 1) (((gMs_at (f_X8_add (f_X8_goUnits (sMs_at x48_1 (vp_updL (gMs_at x48_1) 5 (((gMs_at x48_1) 5) - ((((gMs_sh X) k) * price) / 1000)))) (zho X k) ((gMs_sh x48_1) k) inc) (zho X k) 3 ((((gMs_sh X) k) * price) / 1000))) (123 + (3 * k) + 1)) - ((gMs_sh (f_X8_add (f_X8_goUnits (sMs_at x48_1 (vp_updL (gMs_at x48_1) 5 (((gMs_at x48_1) 5) - ((((gMs_sh X) k) * price) / 1000)))) (zho X k) ((gMs_sh x48_1) k) inc) (zho X k) 3 ((((gMs_sh X) k) * price) / 1000))) k)))) 13 (by decide) (vp_in_nI (by decide) (by decide)) rfl dX8_payThem_171 ?_
                refine zj_aload_n C dX8_payThem_172 2 rfl ?_
                refine zj_get C 0 8 7 (v := .ref (m 6)) inZ8 rfl rfl (by decide) tg_684 rfl dX8_payThem_173 ?_
                refine zj_iload C dX8_payThem_176 6 rfl ?_
                refine zj_lald C 6 (f := (gMs_sh (f_X8_add (f_X8_goUnits (sMs_at x48_1 (vp_updL (gMs_at x48_1) 5 (((gMs_at x48_1) 5) - ((((gMs_sh X) k) * price) / 1000)))) (zho X k) ((gMs_sh x48_1) k) inc) (zho X k) 3 ((((gMs_sh X) k) * price) / 1000)))) k (nI_clamp (by omega)) (vp_in_nI (by omega) (by omega)) rfl dX8_payThem_178 ?_
                refine zj_ladd C dX8_payThem_179 ?_
                refine zj_last C 1 (f := (vp_updL (gMs_at (f_X8_add (f_X8_goUnits (sMs_at x48_1 (vp_updL (gMs_at x48_1) 5 (((gMs_at x48_1) 5) - ((((gMs_sh X) k) * price) / 1000)))) (zho X k) ((gMs_sh x48_1) k) inc) (zho X k) 3 ((((gMs_sh X) k) * price) / 1000))) (123 + (3 * k) + 1) (((gMs_at (f_X8_add (f_X8_goUnits (sMs_at x48_1 (vp_updL (gMs_at x48_1) 5 (((gMs_at x48_1) 5) - ((((gMs_sh X) k) * price) / 1000)))) (zho X k) ((gMs_sh x48_1) k) inc) (zho X k) 3 ((((gMs_sh X) k) * price) / 1000))) (123 + (3 * k) + 1)) - ((gMs_sh (f_X8_add (f_X8_goUnits (sMs_at x48_1 (vp_updL (gMs_at x48_1) 5 (((gMs_at x48_1) 5) - ((((gMs_sh X) k) * price) / 1000)))) (zho X k) ((gMs_sh x48_1) k) inc) (zho X k) 3 ((((gMs_sh X) k) * price) / 1000))) k)))) (ws' := (WM cy m (sMs_at (f_X8_add (f_X8_goUnits (sMs_at x48_1 (vp_updL (gMs_at x48_1) 5 (((gMs_at x48_1) 5) - ((((gMs_sh X) k) * price) / 1000)))) (zho X k) ((gMs_sh x48_1) k) inc) (zho X k) 3 ((((gMs_sh X) k) * price) / 1000)) (vp_updL (vp_updL (gMs_at (f_X8_add (f_X8_goUnits (sMs_at x48_1 (vp_updL (gMs_at x48_1) 5 (((gMs_at x48_1) 5) - ((((gMs_sh X) k) * price) / 1000)))) (zho X k) ((gMs_sh x48_1) k) inc) (zho X k) 3 ((((gMs_sh X) k) * price) / 1000))) (123 + (3 * k) + 1) (((gMs_at (f_X8_add (f_X8_goUnits (sMs_at x48_1 (vp_updL (gMs_at x48_1) 5 (((gMs_at x48_1) 5) - ((((gMs_sh X) k) * price) / 1000)))) (zho X k) ((gMs_sh x48_1) k) inc) (zho X k) 3 ((((gMs_sh X) k) * price) / 1000))) (123 + (3 * k) + 1)) - ((gMs_sh (f_X8_add (f_X8_goUnits (sMs_at x48_1 (vp_updL (gMs_at x48_1) 5 (((gMs_at x48_1) 5) - ((((gMs_sh X) k) * price) / 1000)))) (zho X k) ((gMs_sh x48_1) k) inc) (zho X k) 3 ((((gMs_sh X) k) * price) / 1000))) k))) 13 (((vp_updL (gMs_at (f_X8_add (f_X8_goUnits (sMs_at x48_1 (vp_updL (gMs_at x48_1) 5 (((gMs_at x48_1) 5) - ((((gMs_sh X) k) * price) / 1000)))) (zho X k) ((gMs_sh x48_1) k) inc) (zho X k) 3 ((((gMs_sh X) k) * price) / 1000))) (123 + (3 * k) + 1) (((gMs_at (f_X8_add (f_X8_goUnits (sMs_at x48_1 (vp_updL (gMs_at x48_1) 5 (((gMs_at x48_1) 5) - ((((gMs_sh X) k) * price) / 1000)))) (zho X k) ((gMs_sh x48_1) k) inc) (zho X k) 3 ((((gMs_sh X) k) * price) / 1000))) (123 + (3 * k) + 1)) - ((gMs_sh (f_X8_add (f_X8_goUnits (sMs_at x48_1 (vp_updL (gMs_at x48_1) 5 (((gMs_at x48_1) 5) - ((((gMs_sh X) k) * price) / 1000)))) (zho X k) ((gMs_sh x48_1) k) inc) (zho X k) 3 ((((gMs_sh X) k) * price) / 1000))) k))) 13) + ((gMs_sh (f_X8_add (f_X8_goUnits (sMs_at x48_1 (vp_updL (gMs_at x48_1) 5 (((gMs_at x48_1) 5) - ((((gMs_sh X) k) * price) / 1000)))) (zho X k) ((gMs_sh x48_1) k) inc) (zho X k) 3 ((((gMs_sh X) k) * price) / 1000))) k)))))) 13 (by decide) (vp_in_nI (by decide) (by decide)) rfl dX8_payThem_180 rfl ?_
                refine zj_sub (L' := [(7, .long ((((gMs_sh X) k) * price) / 1000)), (0, .ref (m 0)), (1, .long price), (3, .long inc), (5, .int (zB x48_0)), (6, .int (nI k))]) [1, 2, 3, 4, 5, 6] rfl ?_
                exact J_91 (sMs_at (f_X8_add (f_X8_goUnits (sMs_at x48_1 (vp_updL (gMs_at x48_1) 5 (((gMs_at x48_1) 5) - ((((gMs_sh X) k) * price) / 1000)))) (zho X k) ((gMs_sh x48_1) k) inc) (zho X k) 3 ((((gMs_sh X) k) * price) / 1000)) (vp_updL (vp_updL (gMs_at (f_X8_add (f_X8_goUnits (sMs_at x48_1 (vp_updL (gMs_at x48_1) 5 (((gMs_at x48_1) 5) - ((((gMs_sh X) k) * price) / 1000)))) (zho X k) ((gMs_sh x48_1) k) inc) (zho X k) 3 ((((gMs_sh X) k) * price) / 1000))) (123 + (3 * k) + 1) (((gMs_at (f_X8_add (f_X8_goUnits (sMs_at x48_1 (vp_updL (gMs_at x48_1) 5 (((gMs_at x48_1) 5) - ((((gMs_sh X) k) * price) / 1000)))) (zho X k) ((gMs_sh x48_1) k) inc) (zho X k) 3 ((((gMs_sh X) k) * price) / 1000))) (123 + (3 * k) + 1)) - ((gMs_sh (f_X8_add (f_X8_goUnits (sMs_at x48_1 (vp_updL (gMs_at x48_1) 5 (((gMs_at x48_1) 5) - ((((gMs_sh X) k) * price) / 1000)))) (zho X k) ((gMs_sh x48_1) k) inc) (zho X k) 3 ((((gMs_sh X) k) * price) / 1000))) k))) 13 (((vp_updL (gMs_at (f_X8_add (f_X8_goUnits (sMs_at x48_1 (vp_updL (gMs_at x48_1) 5 (((gMs_at x48_1) 5) - ((((gMs_sh X) k) * price) / 1000)))) (zho X k) ((gMs_sh x48_1) k) inc) (zho X k) 3 ((((gMs_sh X) k) * price) / 1000))) (123 + (3 * k) + 1) (((gMs_at (f_X8_add (f_X8_goUnits (sMs_at x48_1 (vp_updL (gMs_at x48_1) 5 (((gMs_at x48_1) 5) - ((((gMs_sh X) k) * price) / 1000)))) (zho X k) ((gMs_sh x48_1) k) inc) (zho X k) 3 ((((gMs_sh X) k) * price) / 1000))) (123 + (3 * k) + 1)) - ((gMs_sh (f_X8_add (f_X8_goUnits (sMs_at x48_1 (vp_updL (gMs_at x48_1) 5 (((gMs_at x48_1) 5) - ((((gMs_sh X) k) * price) / 1000)))) (zho X k) ((gMs_sh x48_1) k) inc) (zho X k) 3 ((((gMs_sh X) k) * price) / 1000))) k))) 13) + ((gMs_sh (f_X8_add (f_X8_goUnits (sMs_at x48_1 (vp_updL (gMs_at x48_1) 5 (((gMs_at x48_1) 5) - ((((gMs_sh X) k) * price) / 1000)))) (zho X k) ((gMs_sh x48_1) k) inc) (zho X k) 3 ((((gMs_sh X) k) * price) / 1000))) k)))) (by simp only [if_neg c_16, if_neg c_22, if_neg c_85, if_neg c_91]; first | done | assumption)
          refine zj_lcmp_le C 77 dX8_payThem_48 dX8_payThem_49 (by decide) (fun c => ?_) (fun c => ?_)
          · have c_48 : ((gMs_sh X) k) ≤ 0 := c
            exact J_48 go X (by simp only [if_neg c_16, if_neg c_22, if_pos c_48]; first | done | assumption) (by simp only [if_neg c_16, if_neg c_22, if_pos c_48]; first | done | assumption)
          · have c_48 : ¬ (((gMs_sh X) k) ≤ 0) := c
            refine zj_aload_n C dX8_payThem_52 1 rfl ?_
            refine zj_lload C dX8_payThem_53 0 rfl ?_
            refine zj_callV C (nn := 10) (ws' := (WM cy m (f_X8_sellFor X ((((gMs_sh X) k) * price) / 1000)))) (st := []) (st1 := []) 0 8 [0, 1, 2, 3, 4, 5, 6, 7, 8, 9] (c_X8_sellFor l D cy m ((((gMs_sh X) k) * price) / 1000) X ) (zg_V tg_861 tg_858 tg_860 tgp_40 tg_9) ⟨rfl, hdZ_X8_sellFor⟩ ⟨rfl, rfl⟩ ⟨by decide, by decide⟩ rfl rfl rfl (by decide) ⟨rfl, rfl⟩ rfl rfl (Nat.le_of_ble_eq_true rfl) dX8_payThem_55 rfl rfl ?_
            refine zj_aload_n C dX8_payThem_58 1 rfl ?_
            refine zj_get C 0 8 0 (v := .ref (m 1)) inZ8 rfl rfl (by decide) tg_677 rfl dX8_payThem_59 ?_
            refine zj_iconst C (v := (nI 5)) dX8_payThem_62 (by decide) ?_
            refine zj_lald C 1 (f := (gMs_at (f_X8_sellFor X ((((gMs_sh X) k) * price) / 1000)))) 5 (by decide) (vp_in_nI (by decide) (by decide)) rfl dX8_payThem_63 ?_
            refine zj_lload C dX8_payThem_64 0 rfl ?_
            have J_66 : ∀ (x66_0 : Bool), x66_0 = (if ((gMs_at (f_X8_sellFor X ((((gMs_sh X) k) * price) / 1000))) 5) < ((((gMs_sh X) k) * price) / 1000) then false else true) → zJ E 10 0 0 (WM cy m (f_X8_sellFor X ((((gMs_sh X) k) * price) / 1000))) 75 [(7, .long ((((gMs_sh X) k) * price) / 1000)), (0, .ref (m 0)), (1, .long price), (3, .long inc), (5, .int (zB go)), (6, .int (nI k))] [.int (zB x66_0)] := by
              intro x66_0 hx66_0
              refine zj_istore C (L' := [(5, .int (zB x66_0)), (7, .long ((((gMs_sh X) k) * price) / 1000)), (0, .ref (m 0)), (1, .long price), (3, .long inc), (6, .int (nI k))]) dX8_payThem_75 (by decide) rfl ?_
              refine zj_sub (L' := [(7, .long ((((gMs_sh X) k) * price) / 1000)), (0, .ref (m 0)), (1, .long price), (3, .long inc), (5, .int (zB x66_0)), (6, .int (nI k))]) [1, 2, 3, 4, 0, 5] rfl ?_
              exact J_48 x66_0 (f_X8_sellFor X ((((gMs_sh X) k) * price) / 1000)) (by simp only [if_neg c_16, if_neg c_22, if_neg c_48]; first | done | assumption) (by simp only [if_neg c_16, if_neg c_22, if_neg c_48]; first | done | assumption)
            refine zj_lcmp_lt C 74 dX8_payThem_66 dX8_payThem_67 (by decide) (fun c => ?_) (fun c => ?_)
            · have c_66 : ((gMs_at (f_X8_sellFor X ((((gMs_sh X) k) * price) / 1000))) 5) < ((((gMs_sh X) k) * price) / 1000) := c
              refine zj_iconst C (v := (nI 0)) dX8_payThem_74 (by decide) ?_
              exact J_66 false (by simp only [if_neg c_16, if_neg c_22, if_neg c_48, if_pos c_66]; first | done | assumption)
            · have c_66 : ¬ (((gMs_at (f_X8_sellFor X ((((gMs_sh X) k) * price) / 1000))) 5) < ((((gMs_sh X) k) * price) / 1000)) := c
              refine zj_iconst C (v := (nI 1)) dX8_payThem_70 (by decide) ?_
              refine zj_goto C 75 dX8_payThem_71 (by decide) ?_
              exact J_66 true (by simp only [if_neg c_16, if_neg c_22, if_neg c_48, if_neg c_66]; first | done | assumption)
  have K_6 : ∀ (X1 : zMs) (go1 : Bool) (k1 : Nat), X1 = ((L_X8_pay1 price inc (zcn S 122 - 0 + 1) S true 0).1) → go1 = ((L_X8_pay1 price inc (zcn S 122 - 0 + 1) S true 0).2.1) → k1 = ((L_X8_pay1 price inc (zcn S 122 - 0 + 1) S true 0).2.2) → (Pe_e : P X1 go1 k1) → zJ E 10 0 0 (WM cy m X1) 187 [(0, .ref (m 0)), (1, .long price), (3, .long inc)] [] := by
    intro X1 go1 k1 hX1 hgo1 hk1 Pe_e
    have hzc1 : zCk X1 122 := (hP _ _ _ Pe_e).1.1
    have hz201 := hzc1.2
    refine zj_aload_n C dX8_payThem_187 0 rfl ?_
    refine zj_get C 0 8 0 (v := .ref (m 1)) inZ8 rfl rfl (by decide) tg_677 rfl dX8_payThem_188 ?_
    refine zj_bipush C (v := (nI 122)) dX8_payThem_191 (by decide) ?_
    refine zj_lald C 1 (f := (gMs_at X1)) 122 (by decide) (vp_in_nI (by decide) (by decide)) rfl dX8_payThem_193 ?_
    refine zj_topl (lN (zcn X1 122)) hzc1.1 ?_
    refine zj_l2i C dX8_payThem_194 ?_
    refine zj_topi (nI (zcn X1 122)) (lN_i _) ?_
    refine zj_iconst C (v := (nI 1)) dX8_payThem_195 (by decide) ?_
    refine zj_isub C dX8_payThem_196 ?_
    refine zj_istore C (L' := [(6, .int ((nI (zcn X1 122)) - (nI 1))), (0, .ref (m 0)), (1, .long price), (3, .long inc)]) dX8_payThem_197 (by decide) rfl ?_
    have loop_199 : ∀ (fuel : Nat) (X : zMs) (j : Nat), (hzc : zCk X 122) → (hjc : j ≤ zcn X 122) → j < fuel → (zJ E 10 0 0 (WM cy m ((L_X8_pay2  fuel X j).1)) 232 [(0, .ref (m 0))] []) → zJ E 10 0 0 (WM cy m X) 199 [(0, .ref (m 0)), (6, .int ((nI j) - (nI 1)))] [] := by
      intro fuel
      induction fuel with
      | zero => intro X j hzc hjc hmu; exact absurd hmu (Nat.not_lt_zero _)
      | succ fuel ih_199 =>
        intro X j hzc hjc hmu_199 K_199
        have hz20 := hzc.2
        refine zj_iload C dX8_payThem_199 1 rfl ?_
        refine zj_if_lt C 232 dX8_payThem_201 (by decide) (fun c => ?_) (fun c => ?_)
        · have c_201 : j = 0 := ((zI_m1lt (by omega)).mp c)
          refine zj_sub (L' := [(0, .ref (m 0))]) [0] rfl ?_
          have e_199 : (L_X8_pay2  (fuel + 1) X j) = (X, j) := by refine (L_X8_pay2_s  fuel X j).trans ?_; refine (if_pos c_201).trans ?_; rfl
          rw [e_199] at K_199
          exact K_199 
        · have c_201 : ¬ (j = 0) := (fun q => c ((zI_m1lt (by omega)).mpr q))
          refine zj_aload_n C dX8_payThem_204 0 rfl ?_
          refine zj_bipush C (v := (nI 122)) dX8_payThem_205 (by decide) ?_
          refine zj_iload C dX8_payThem_207 1 rfl ?_
          refine zj_topi (nI (j - 1)) (pk_sub (by omega)) ?_
          refine zj_iconst C (v := (nI 1)) dX8_payThem_209 (by decide) ?_
          refine zj_callV C (nn := 10) (ws' := (WM cy m X)) (st := []) (st1 := [.long (f_X8_ofOrder X 122 (j - 1) 1)]) 0 8 [0, 1, 2, 3, 4, 5, 6, 7, 8, 9] (c_X8_ofOrder l D cy m 122 (j - 1) 1 X (by omega)) (zg_V tg_760 tg_757 tg_759 tgp_18 tg_9) ⟨rfl, hdZ_X8_ofOrder⟩ ⟨rfl, rfl⟩ ⟨by decide, by decide⟩ rfl rfl rfl (by decide) ⟨rfl, rfl⟩ rfl rfl (Nat.le_of_ble_eq_true rfl) dX8_payThem_210 rfl rfl ?_
          refine zj_lconst C (v := 0) dX8_payThem_213 (by decide) ?_
          have J_214 : ∀ (x214_0 : zMs), x214_0 = (if (f_X8_ofOrder X 122 (j - 1) 1) = 0 then (f_X8_takeOut X 122 (j - 1)) else X) → zJ E 10 0 0 (WM cy m x214_0) 226 [(0, .ref (m 0)), (6, .int ((nI j) - (nI 1)))] [] := by
            intro x214_0 hx214_0
            refine zj_iinc C (j := 1) (v := ((nI (j - 1)) - (nI 1))) (L' := [(6, .int ((nI (j - 1)) - (nI 1))), (0, .ref (m 0))]) dX8_payThem_226 rfl (zI_m2 c_201) (by decide) rfl ?_
            refine zj_goto C 199 dX8_payThem_229 (by decide) ?_
            refine zj_sub (L' := [(0, .ref (m 0)), (6, .int ((nI (j - 1)) - (nI 1)))]) [1, 0] rfl ?_
            have hn_hzc : zCk x214_0 122 := (by rw [hx214_0]; split; exact (zCk_take (by decide) hzc (by omega)).1; exact hzc)
            have hn_hjc : (j - 1) ≤ zcn x214_0 122 := (by rw [hx214_0]; split; (have q := (zCk_take (S := X) (kd := 122) (o := j - 1) (by decide) hzc (by omega)).2; omega); omega)
            have hn_mu : (j - 1) < fuel := (by omega)
            subst hx214_0
            have e_199 : (L_X8_pay2  (fuel + 1) X j) = (L_X8_pay2  fuel (if (f_X8_ofOrder X 122 (j - 1) 1) = 0 then (f_X8_takeOut X 122 (j - 1)) else X) (j - 1)) := by refine (L_X8_pay2_s  fuel X j).trans ?_; refine (if_neg c_201).trans ?_; rfl
            rw [e_199] at K_199
            exact ih_199 (if (f_X8_ofOrder X 122 (j - 1) 1) = 0 then (f_X8_takeOut X 122 (j - 1)) else X) (j - 1) hn_hzc hn_hjc hn_mu K_199
          refine zj_lcmp_ne C 226 dX8_payThem_214 dX8_payThem_215 (by decide) (fun c => ?_) (fun c => ?_)
          · have c_214 : ¬ ((f_X8_ofOrder X 122 (j - 1) 1) = 0) := c
            exact J_214 X (by simp only [if_neg c_201, if_neg c_214]; first | done | assumption)
          · have c_214 : (f_X8_ofOrder X 122 (j - 1) 1) = 0 := (Classical.not_not.mp c)
            refine zj_aload_n C dX8_payThem_218 0 rfl ?_
            refine zj_bipush C (v := (nI 122)) dX8_payThem_219 (by decide) ?_
            refine zj_iload C dX8_payThem_221 1 rfl ?_
            refine zj_topi (nI (j - 1)) (pk_sub (by omega)) ?_
            refine zj_callV C (nn := 10) (ws' := (WM cy m (f_X8_takeOut X 122 (j - 1)))) (st := []) (st1 := []) 0 8 [0, 1, 2, 3, 4, 5, 6, 7, 8, 9] (c_X8_takeOut l D cy m 122 (j - 1) X (by decide) hzc (by omega)) (zg_V tg_870 tg_867 tg_869 tgp_42 tg_9) ⟨rfl, hdZ_X8_takeOut⟩ ⟨rfl, rfl⟩ ⟨by decide, by decide⟩ rfl rfl rfl (by decide) ⟨rfl, rfl⟩ rfl rfl (Nat.le_of_ble_eq_true rfl) dX8_payThem_223 rfl rfl ?_
            exact J_214 (f_X8_takeOut X 122 (j - 1)) (by simp only [if_neg c_201, if_pos c_214]; first | done | assumption)
    have K_199 : ∀ (X2 : zMs) (j2 : Nat), X2 = ((L_X8_pay2  ((zcn X1 122) + 1) X1 (zcn X1 122)).1) → j2 = ((L_X8_pay2  ((zcn X1 122) + 1) X1 (zcn X1 122)).2) → zJ E 10 0 0 (WM cy m X2) 232 [(0, .ref (m 0))] [] := by
      intro X2 j2 hX2 hj2 
      subst hj2
      subst hX2
      subst hk1
      subst hgo1
      subst hX1
      have e : f_X8_payThem S price inc = ((L_X8_pay2  ((zcn ((L_X8_pay1 price inc (zcn S 122 - 0 + 1) S true 0).1) 122) + 1) ((L_X8_pay1 price inc (zcn S 122 - 0 + 1) S true 0).1) (zcn ((L_X8_pay1 price inc (zcn S 122 - 0 + 1) S true 0).1) 122)).1) := by refine (zsl_e _).trans ?_; rfl
      rw [e] at hret
      exact hret _ _ dX8_payThem_232
    refine zj_sub (L' := [(0, .ref (m 0)), (6, .int ((nI (zcn X1 122)) - (nI 1)))]) [1, 0] rfl ?_
    exact loop_199 ((zcn X1 122) + 1) X1 (zcn X1 122) hzc1 (Nat.le_refl _) (Nat.lt_succ_self _) (K_199 _ _ rfl rfl)
  refine zj_sub (L' := [(0, .ref (m 0)), (1, .long price), (3, .long inc), (5, .int (nI 1)), (6, .int (nI 0))]) [2, 3, 4, 1, 0] rfl ?_
  exact loop_6 (zcn S 122 - 0 + 1) S true 0 (by omega) h0 (Nat.lt_succ_self _) (K_6 _ _ _ rfl rfl rfl)

noncomputable def f_X8_buyFor (S : zMs) (h : Nat) (amount : Int64) (price : Int64) (inc : Int64) : zMs := zsl (
  let x3_0 : Int64 := (if price = 0 then 0 else ((1000 * amount) / price))
  if x3_0 = 0 then
    (sMs_at S (vp_updL (gMs_at S) 17 (((gMs_at S) 17) + amount)))
  else
    if ((f_X8_issue S) + x3_0) ≤ 1000000000 then
      (sMs_at (f_X8_add (f_X8_makeUnits (sMs_at S (vp_updL (gMs_at S) 5 (((gMs_at S) 5) + amount))) h x3_0 inc) h 2 amount) (vp_updL (gMs_at (f_X8_add (f_X8_makeUnits (sMs_at S (vp_updL (gMs_at S) 5 (((gMs_at S) 5) + amount))) h x3_0 inc) h 2 amount)) 12 (((gMs_at (f_X8_add (f_X8_makeUnits (sMs_at S (vp_updL (gMs_at S) 5 (((gMs_at S) 5) + amount))) h x3_0 inc) h 2 amount)) 12) + x3_0)))
    else
      (sMs_at S (vp_updL (gMs_at S) 17 (((gMs_at S) 17) + amount)))
  )
set_option maxHeartbeats 4000000 in
set_option maxRecDepth 100000 in
theorem c_X8_buyFor (l : Launch) (D : va_G) (cy : Nat → ClassId) (m : Nat → Nat) (h : Nat) (amount : Int64) (price : Int64) (inc : Int64)  (S : zMs) (hh : h < 6) : zC l yX8_buyFor (zW yX8_buyFor cX8_buyFor 10 (Option.none : Option Jvm.ClassFile.FieldType)) { frames := 3, cells := 0, slots := 0, locals := 66 } D cy [.ref (m 0), .int (nI h), .long amount, .long price, .long inc] (WM cy m S) none (WM cy m (f_X8_buyFor S h amount price inc)) := by
  refine zC_of rfl (Nat.le_of_ble_eq_true rfl) zOk_v (fun E C hret => ?_)
  show zJ E 10 0 0 (WM cy m S) 0 [(0, .ref (m 0)), (1, .int (nI h)), (2, .long amount), (4, .long price), (6, .long inc)] []
  refine zj_lload C dX8_buyFor_0 3 rfl ?_
  refine zj_lconst C (v := 0) dX8_buyFor_2 (by decide) ?_
  have J_3 : ∀ (x3_0 : Int64), x3_0 = (if price = 0 then 0 else ((1000 * amount) / price)) → zJ E 10 0 0 (WM cy m S) 19 [(0, .ref (m 0)), (1, .int (nI h)), (2, .long amount), (4, .long price), (6, .long inc)] [.long x3_0] := by
    intro x3_0 hx3_0
    refine zj_lstore C (L' := [(8, .long x3_0), (0, .ref (m 0)), (1, .int (nI h)), (2, .long amount), (4, .long price), (6, .long inc)]) dX8_buyFor_19 (by decide) rfl ?_
    refine zj_lload C dX8_buyFor_21 0 rfl ?_
    refine zj_lconst C (v := 0) dX8_buyFor_23 (by decide) ?_
    refine zj_lcmp_eq C 42 dX8_buyFor_24 dX8_buyFor_25 (by decide) (fun c => ?_) (fun c => ?_)
    · have c_24 : x3_0 = 0 := c
      refine zj_aload_n C dX8_buyFor_42 1 rfl ?_
      refine zj_get C 0 8 0 (v := .ref (m 1)) inZ8 rfl rfl (by decide) tg_677 rfl dX8_buyFor_43 ?_
      refine zj_bipush C (v := (nI 17)) dX8_buyFor_46 (by decide) ?_
      refine zj_dup2 C dX8_buyFor_48 rfl rfl ?_
      refine zj_lald C 1 (f := (gMs_at S)) 17 (by decide) (vp_in_nI (by decide) (by decide)) rfl dX8_buyFor_49 ?_
      refine zj_lload_n C dX8_buyFor_50 3 rfl ?_
      refine zj_ladd C dX8_buyFor_51 ?_
      refine zj_last C 1 (f := (gMs_at S)) (ws' := (WM cy m (sMs_at S (vp_updL (gMs_at S) 17 (((gMs_at S) 17) + amount))))) 17 (by decide) (vp_in_nI (by decide) (by decide)) rfl dX8_buyFor_52 rfl ?_
      subst hx3_0
      have e : f_X8_buyFor S h amount price inc = (sMs_at S (vp_updL (gMs_at S) 17 (((gMs_at S) 17) + amount))) := by refine (zsl_e _).trans ?_; refine (if_pos c_24).trans ?_; rfl
      rw [e] at hret
      exact hret _ _ dX8_buyFor_53
    · have c_24 : ¬ (x3_0 = 0) := c
      refine zj_aload_n C dX8_buyFor_28 1 rfl ?_
      refine zj_callV C (nn := 10) (ws' := (WM cy m S)) (st := []) (st1 := [.long (f_X8_issue S)]) 0 8 [0, 1, 2, 3, 4, 5, 6, 7, 8, 9] (c_X8_issue l D cy m  S ) (zg_V tg_788 tg_785 tg_787 tgp_23 tg_9) ⟨rfl, hdZ_X8_issue⟩ ⟨rfl, rfl⟩ ⟨by decide, by decide⟩ rfl rfl rfl (by decide) ⟨rfl, rfl⟩ rfl rfl (Nat.le_of_ble_eq_true rfl) dX8_buyFor_29 rfl rfl ?_
      refine zj_lload C dX8_buyFor_32 0 rfl ?_
      refine zj_ladd C dX8_buyFor_34 ?_
      refine zj_ldc2 C dX8_buyFor_35 tg_876 ?_
      refine zj_lcmp_le C 54 dX8_buyFor_38 dX8_buyFor_39 (by decide) (fun c => ?_) (fun c => ?_)
      · have c_38 : ((f_X8_issue S) + x3_0) ≤ 1000000000 := c
        refine zj_aload_n C dX8_buyFor_54 1 rfl ?_
        refine zj_get C 0 8 0 (v := .ref (m 1)) inZ8 rfl rfl (by decide) tg_677 rfl dX8_buyFor_55 ?_
        refine zj_iconst C (v := (nI 5)) dX8_buyFor_58 (by decide) ?_
        refine zj_dup2 C dX8_buyFor_59 rfl rfl ?_
        refine zj_lald C 1 (f := (gMs_at S)) 5 (by decide) (vp_in_nI (by decide) (by decide)) rfl dX8_buyFor_60 ?_
        refine zj_lload_n C dX8_buyFor_61 3 rfl ?_
        refine zj_ladd C dX8_buyFor_62 ?_
        refine zj_last C 1 (f := (gMs_at S)) (ws' := (WM cy m (sMs_at S (vp_updL (gMs_at S) 5 (((gMs_at S) 5) + amount))))) 5 (by decide) (vp_in_nI (by decide) (by decide)) rfl dX8_buyFor_63 rfl ?_
        refine zj_aload_n C dX8_buyFor_64 1 rfl ?_
        refine zj_iload_n C dX8_buyFor_65 2 rfl ?_
        refine zj_lload C dX8_buyFor_66 0 rfl ?_
        refine zj_lload C dX8_buyFor_68 5 rfl ?_
        refine zj_callV C (nn := 10) (ws' := (WM cy m (f_X8_makeUnits (sMs_at S (vp_updL (gMs_at S) 5 (((gMs_at S) 5) + amount))) h x3_0 inc))) (st := []) (st1 := []) 0 8 [0, 1, 2, 3, 4, 5, 6, 7, 8, 9] (c_X8_makeUnits l D cy m h x3_0 inc (sMs_at S (vp_updL (gMs_at S) 5 (((gMs_at S) 5) + amount))) (by omega)) (zg_V tg_880 tg_877 tg_879 tgp_44 tg_9) ⟨rfl, hdZ_X8_makeUnits⟩ ⟨rfl, rfl⟩ ⟨by decide, by decide⟩ rfl rfl rfl (by decide) ⟨rfl, rfl⟩ rfl rfl (Nat.le_of_ble_eq_true rfl) dX8_buyFor_70 rfl rfl ?_
        refine zj_aload_n C dX8_buyFor_73 1 rfl ?_
        refine zj_iload_n C dX8_buyFor_74 2 rfl ?_
        refine zj_iconst C (v := (nI 2)) dX8_buyFor_75 (by decide) ?_
        refine zj_lload_n C dX8_buyFor_76 3 rfl ?_
        refine zj_callV C (nn := 10) (ws' := (WM cy m (f_X8_add (f_X8_makeUnits (sMs_at S (vp_updL (gMs_at S) 5 (((gMs_at S) 5) + amount))) h x3_0 inc) h 2 amount))) (st := []) (st1 := []) 0 8 [0, 1, 2, 3, 4, 5, 6, 7, 8, 9] (c_X8_add l D cy m h 2 amount (f_X8_makeUnits (sMs_at S (vp_updL (gMs_at S) 5 (((gMs_at S) 5) + amount))) h x3_0 inc) (by omega) (by omega)) (zg_V tg_804 tg_801 tg_803 tgp_27 tg_9) ⟨rfl, hdZ_X8_add⟩ ⟨rfl, rfl⟩ ⟨by decide, by decide⟩ rfl rfl rfl (by decide) ⟨rfl, rfl⟩ rfl rfl (Nat.le_of_ble_eq_true rfl) dX8_buyFor_77 rfl rfl ?_
        refine zj_aload_n C dX8_buyFor_80 1 rfl ?_
        refine zj_get C 0 8 0 (v := .ref (m 1)) inZ8 rfl rfl (by decide) tg_677 rfl dX8_buyFor_81 ?_
        refine zj_bipush C (v := (nI 12)) dX8_buyFor_84 (by decide) ?_
        refine zj_dup2 C dX8_buyFor_86 rfl rfl ?_
        refine zj_lald C 1 (f := (gMs_at (f_X8_add (f_X8_makeUnits (sMs_at S (vp_updL (gMs_at S) 5 (((gMs_at S) 5) + amount))) h x3_0 inc) h 2 amount))) 12 (by decide) (vp_in_nI (by decide) (by decide)) rfl dX8_buyFor_87 ?_
        refine zj_lload C dX8_buyFor_88 0 rfl ?_
        refine zj_ladd C dX8_buyFor_90 ?_
        refine zj_last C 1 (f := (gMs_at (f_X8_add (f_X8_makeUnits (sMs_at S (vp_updL (gMs_at S) 5 (((gMs_at S) 5) + amount))) h x3_0 inc) h 2 amount))) (ws' := (WM cy m (sMs_at (f_X8_add (f_X8_makeUnits (sMs_at S (vp_updL (gMs_at S) 5 (((gMs_at S) 5) + amount))) h x3_0 inc) h 2 amount) (vp_updL (gMs_at (f_X8_add (f_X8_makeUnits (sMs_at S (vp_updL (gMs_at S) 5 (((gMs_at S) 5) + amount))) h x3_0 inc) h 2 amount)) 12 (((gMs_at (f_X8_add (f_X8_makeUnits (sMs_at S (vp_updL (gMs_at S) 5 (((gMs_at S) 5) + amount))) h x3_0 inc) h 2 amount)) 12) + x3_0))))) 12 (by decide) (vp_in_nI (by decide) (by decide)) rfl dX8_buyFor_91 rfl ?_
        subst hx3_0
        have e : f_X8_buyFor S h amount price inc = (sMs_at (f_X8_add (f_X8_makeUnits (sMs_at S (vp_updL (gMs_at S) 5 (((gMs_at S) 5) + amount))) h (if price = 0 then 0 else ((1000 * amount) / price)) inc) h 2 amount) (vp_updL (gMs_at (f_X8_add (f_X8_makeUnits (sMs_at S (vp_updL (gMs_at S) 5 (((gMs_at S) 5) + amount))) h (if price = 0 then 0 else ((1000 * amount) / price)) inc) h 2 amount)) 12 (((gMs_at (f_X8_add (f_X8_makeUnits (sMs_at S (vp_updL (gMs_at S) 5 (((gMs_at S) 5) + amount))) h (if price = 0 then 0 else ((1000 * amount) / price)) inc) h 2 amount)) 12) + (if price = 0 then 0 else ((1000 * amount) / price))))) := by refine (zsl_e _).trans ?_; refine (if_neg c_24).trans ?_; refine (if_pos c_38).trans ?_; rfl
        rw [e] at hret
        exact hret _ _ dX8_buyFor_92
      · have c_38 : ¬ (((f_X8_issue S) + x3_0) ≤ 1000000000) := c
        refine zj_aload_n C dX8_buyFor_42 1 rfl ?_
        refine zj_get C 0 8 0 (v := .ref (m 1)) inZ8 rfl rfl (by decide) tg_677 rfl dX8_buyFor_43 ?_
        refine zj_bipush C (v := (nI 17)) dX8_buyFor_46 (by decide) ?_
        refine zj_dup2 C dX8_buyFor_48 rfl rfl ?_
        refine zj_lald C 1 (f := (gMs_at S)) 17 (by decide) (vp_in_nI (by decide) (by decide)) rfl dX8_buyFor_49 ?_
        refine zj_lload_n C dX8_buyFor_50 3 rfl ?_
        refine zj_ladd C dX8_buyFor_51 ?_
        refine zj_last C 1 (f := (gMs_at S)) (ws' := (WM cy m (sMs_at S (vp_updL (gMs_at S) 17 (((gMs_at S) 17) + amount))))) 17 (by decide) (vp_in_nI (by decide) (by decide)) rfl dX8_buyFor_52 rfl ?_
        subst hx3_0
        have e : f_X8_buyFor S h amount price inc = (sMs_at S (vp_updL (gMs_at S) 17 (((gMs_at S) 17) + amount))) := by refine (zsl_e _).trans ?_; refine (if_neg c_24).trans ?_; refine (if_neg c_38).trans ?_; rfl
        rw [e] at hret
        exact hret _ _ dX8_buyFor_53
  refine zj_lcmp_ne C 11 dX8_buyFor_3 dX8_buyFor_4 (by decide) (fun c => ?_) (fun c => ?_)
  · have c_3 : ¬ (price = 0) := c
    refine zj_ldc2 C dX8_buyFor_11 tg_675 ?_
    refine zj_lload_n C dX8_buyFor_14 2 rfl ?_
    refine zj_lmul C dX8_buyFor_15 ?_
    refine zj_lload C dX8_buyFor_16 3 rfl ?_
    refine zj_ldiv C dX8_buyFor_18 c_3 ?_
    exact J_3 ((1000 * amount) / price) (by simp only [if_neg c_3]; first | done | assumption)
  · have c_3 : price = 0 := (Classical.not_not.mp c)
    refine zj_lconst C (v := 0) dX8_buyFor_7 (by decide) ?_
    refine zj_goto C 19 dX8_buyFor_8 (by decide) ?_
    exact J_3 0 (by simp only [if_pos c_3]; first | done | assumption)

theorem f_add_at (S : zMs) {h w i : Nat} {x : Int64} (hi : i ≠ 19 + 7 * h + w) : gMs_at (f_X8_add S h w x) i = gMs_at S i := vp_updL_n _ _ hi
theorem f_hold_at (S : zMs) {i : Nat} (hi : i ≠ 8) : gMs_at (f_X8_holdPool S) i = gMs_at S i := vp_updL_n _ _ hi
theorem f_make_at (S : zMs) {h i : Nat} {many inc : Int64} (hh : h < 6) (hi : 61 ≤ i) : gMs_at (f_X8_makeUnits S h many inc) i = gMs_at S i := by
  unfold f_X8_makeUnits
  rw [zsl_e, f_hold_at _ (by omega)]
  show vp_updL (vp_updL (gMs_at (f_X8_add S h 1 many)) 8 _) 9 _ i = _
  rw [vp_updL_n _ _ (by omega), vp_updL_n _ _ (by omega), f_add_at _ (by omega)]
theorem f_buy_at (S : zMs) {h i : Nat} {amount price inc : Int64} (hh : h < 6) (hi : 61 ≤ i) : gMs_at (f_X8_buyFor S h amount price inc) i = gMs_at S i := by
  have key : ∀ q : Int64, gMs_at (sMs_at (f_X8_add (f_X8_makeUnits (sMs_at S (vp_updL (gMs_at S) 5 (gMs_at S 5 + amount))) h q inc) h 2 amount) (vp_updL (gMs_at (f_X8_add (f_X8_makeUnits (sMs_at S (vp_updL (gMs_at S) 5 (gMs_at S 5 + amount))) h q inc) h 2 amount)) 12 (gMs_at (f_X8_add (f_X8_makeUnits (sMs_at S (vp_updL (gMs_at S) 5 (gMs_at S 5 + amount))) h q inc) h 2 amount) 12 + q))) i = gMs_at S i := fun q => by
    refine (vp_updL_n _ _ (by omega)).trans ((f_add_at _ (by omega)).trans ((f_make_at _ hh hi).trans (vp_updL_n _ _ (by omega))))
  have key2 : gMs_at (sMs_at S (vp_updL (gMs_at S) 17 (gMs_at S 17 + amount))) i = gMs_at S i := vp_updL_n _ _ (by omega)
  unfold f_X8_buyFor
  rw [zsl_e]
  dsimp only
  repeat' split
  all_goals first | exact key2 | exact key _
/-- what a step of the buying rests on -/
def okp_buy (X : zMs) : Prop := zCk X 61 ∧ (¬ zcn X 61 = 0 → f_X8_ofOrder X 61 0 2 ≤ gMs_at X 10 → f_X8_ofOrder X 61 0 0 = lN (zhb X) ∧ zhb X < 6)
noncomputable def f_X8_clear (S : zMs) : zMs := sMs_at S (vp_updL (vp_updL (vp_updL (vp_updL (vp_updL (vp_updL (gMs_at S) 12 0) 13 0) 14 0) 15 0) 16 0) 17 0)
theorem zcn_k {S T : zMs} {kd : Nat} (h : gMs_at T kd = gMs_at S kd) : zcn T kd = zcn S kd := by unfold zcn; rw [h]
theorem zCk_k {S T : zMs} {kd : Nat} (h : gMs_at T kd = gMs_at S kd) (hc : zCk S kd) : zCk T kd := by
  unfold zCk at hc ⊢
  rw [zcn_k h, h]
  exact hc
theorem zbuy_dec {X : zMs} {h : Nat} {a p i : Int64} (hh : h < 6) (hc : zCk X 61) (h0 : ¬ zcn X 61 = 0) : zcn (f_X8_takeOut (f_X8_buyFor X h a p i) 61 0) 61 = zcn X 61 - 1 := by
  have e := f_buy_at X (amount := a) (price := p) (inc := i) hh (show 61 ≤ 61 by decide)
  rw [(zCk_take (by decide) (zCk_k e hc) (by rw [zcn_k e]; omega)).2, zcn_k e]

noncomputable def L_X8_buys (S : zMs) : Nat → (zMs) → (zMs)
  | 0, X => X
  | fuel + 1, X =>
    if zcn X 61 = 0 then
      X
    else
      if ((gMs_at X) 10) < (f_X8_ofOrder X 61 0 2) then
        X
      else
        L_X8_buys S fuel (f_X8_takeOut (f_X8_buyFor X (zhb X) (f_X8_ofOrder X 61 0 1) (f_X8_priceNow S) (f_X8_incomeOfUnit S)) 61 0)
theorem L_X8_buys_s (S : zMs) (fuel : Nat) (X : zMs) : L_X8_buys S (fuel + 1) X = (
    if zcn X 61 = 0 then
      X
    else
      if ((gMs_at X) 10) < (f_X8_ofOrder X 61 0 2) then
        X
      else
        L_X8_buys S fuel (f_X8_takeOut (f_X8_buyFor X (zhb X) (f_X8_ofOrder X 61 0 1) (f_X8_priceNow S) (f_X8_incomeOfUnit S)) 61 0)
  ) := rfl
/-- what a day's end rests on -/
def ok_endIt (S : zMs) : Prop := zCk S 61 ∧ zCk S 122 ∧ ok_share S ∧ 0 ≤ f_X8_mayLeave S ∧
  (∃ P : zMs → Bool → Nat → Prop, P (f_X8_clear (f_X8_shareOut S (f_X8_mayLeave S))) true 0 ∧ ∀ X go k, P X go k → okp_pay (f_X8_clear (f_X8_shareOut S (f_X8_mayLeave S))) X go k ∧ P (L_X8_pay1 (f_X8_priceNow S) (f_X8_incomeOfUnit S) (0 + 1) X go k).1 (L_X8_pay1 (f_X8_priceNow S) (f_X8_incomeOfUnit S) (0 + 1) X go k).2.1 (L_X8_pay1 (f_X8_priceNow S) (f_X8_incomeOfUnit S) (0 + 1) X go k).2.2) ∧
  zCk (f_X8_clear (f_X8_shareOut S (f_X8_mayLeave S))) 122 ∧
  (∃ Q : zMs → Prop, Q (f_X8_payThem (f_X8_clear (f_X8_shareOut S (f_X8_mayLeave S))) (f_X8_priceNow S) (f_X8_incomeOfUnit S)) ∧ ∀ X, Q X → okp_buy X ∧ Q (L_X8_buys S (0 + 1) X))

noncomputable def f_X8_endIt (S : zMs) : zMs := zsl (
  let X3 : zMs := (L_X8_buys S (zcn (f_X8_payThem (sMs_at (f_X8_shareOut S (f_X8_mayLeave S)) (vp_updL (vp_updL (vp_updL (vp_updL (vp_updL (vp_updL (gMs_at (f_X8_shareOut S (f_X8_mayLeave S))) 12 0) 13 0) 14 0) 15 0) 16 0) 17 0)) (f_X8_priceNow S) (f_X8_incomeOfUnit S)) 61 + 1) (f_X8_payThem (sMs_at (f_X8_shareOut S (f_X8_mayLeave S)) (vp_updL (vp_updL (vp_updL (vp_updL (vp_updL (vp_updL (gMs_at (f_X8_shareOut S (f_X8_mayLeave S))) 12 0) 13 0) 14 0) 15 0) 16 0) 17 0)) (f_X8_priceNow S) (f_X8_incomeOfUnit S)))
  (sMs_at X3 (vp_updL (vp_updL (vp_updL (vp_updL (vp_updL (gMs_at X3) 15 (((f_X8_swing S)).toInt64)) 16 ((f_X8_sumOf S 122 ((gMs_at S) 10)) - ((vp_updL (gMs_at X3) 15 (((f_X8_swing S)).toInt64)) 13))) 11 (f_X8_priceNow S)) 18 1) 10 (((vp_updL (vp_updL (vp_updL (vp_updL (gMs_at X3) 15 (((f_X8_swing S)).toInt64)) 16 ((f_X8_sumOf S 122 ((gMs_at S) 10)) - ((vp_updL (gMs_at X3) 15 (((f_X8_swing S)).toInt64)) 13))) 11 (f_X8_priceNow S)) 18 1) 10) + 1)))
  )
set_option maxHeartbeats 4000000 in
set_option maxRecDepth 100000 in
theorem c_X8_endIt (l : Launch) (D : va_G) (cy : Nat → ClassId) (m : Nat → Nat)   (S : zMs) (hok : ok_endIt S) : zC l yX8_endIt (zW yX8_endIt cX8_endIt 9 (Option.none : Option Jvm.ClassFile.FieldType)) { frames := 6, cells := 0, slots := 0, locals := 134 } D cy [.ref (m 0)] (WM cy m S) none (WM cy m (f_X8_endIt S)) := by
  refine zC_of rfl (Nat.le_of_ble_eq_true rfl) zOk_v (fun E C hret => ?_)
  obtain ⟨hb, hc, hsh, hmay, ⟨P, hP0, hP⟩, hc1, Q, hQ0, hQ⟩ := hok
  show zJ E 9 0 0 (WM cy m S) 0 [(0, .ref (m 0))] []
  refine zj_aload_n C dX8_endIt_0 0 rfl ?_
  refine zj_callV C (nn := 10) (ws' := (WM cy m S)) (st := []) (st1 := [.long (f_X8_priceNow S)]) 0 8 [0, 1, 2, 3, 4, 5, 6, 7, 8, 9] (c_X8_priceNow l D cy m  S hb hc) (zg_V tg_824 tg_821 tg_823 tgp_31 tg_9) ⟨rfl, hdZ_X8_priceNow⟩ ⟨rfl, rfl⟩ ⟨by decide, by decide⟩ rfl rfl rfl (by decide) ⟨rfl, rfl⟩ rfl rfl (Nat.le_of_ble_eq_true rfl) dX8_endIt_1 rfl rfl ?_
  refine zj_lstore_n C (L' := [(1, .long (f_X8_priceNow S)), (0, .ref (m 0))]) dX8_endIt_4 rfl (by decide) rfl ?_
  refine zj_aload_n C dX8_endIt_5 1 rfl ?_
  refine zj_callV C (nn := 10) (ws' := (WM cy m S)) (st := []) (st1 := [.long (f_X8_incomeOfUnit S)]) 0 8 [0, 1, 2, 3, 4, 5, 6, 7, 8, 9] (c_X8_incomeOfUnit l D cy m  S ) (zg_V tg_792 tg_789 tg_791 tgp_24 tg_9) ⟨rfl, hdZ_X8_incomeOfUnit⟩ ⟨rfl, rfl⟩ ⟨by decide, by decide⟩ rfl rfl rfl (by decide) ⟨rfl, rfl⟩ rfl rfl (Nat.le_of_ble_eq_true rfl) dX8_endIt_6 rfl rfl ?_
  refine zj_lstore_n C (L' := [(3, .long (f_X8_incomeOfUnit S)), (1, .long (f_X8_priceNow S)), (0, .ref (m 0))]) dX8_endIt_9 rfl (by decide) rfl ?_
  refine zj_aload_n C dX8_endIt_10 2 rfl ?_
  refine zj_bipush C (v := (nI 122)) dX8_endIt_11 (by decide) ?_
  refine zj_aload_n C dX8_endIt_13 2 rfl ?_
  refine zj_get C 0 8 0 (v := .ref (m 1)) inZ8 rfl rfl (by decide) tg_677 rfl dX8_endIt_14 ?_
  refine zj_bipush C (v := (nI 10)) dX8_endIt_17 (by decide) ?_
  refine zj_lald C 1 (f := (gMs_at S)) 10 (by decide) (vp_in_nI (by decide) (by decide)) rfl dX8_endIt_19 ?_
  refine zj_callV C (nn := 10) (ws' := (WM cy m S)) (st := []) (st1 := [.long (f_X8_sumOf S 122 ((gMs_at S) 10))]) 0 8 [0, 1, 2, 3, 4, 5, 6, 7, 8, 9] (c_X8_sumOf l D cy m 122 ((gMs_at S) 10) S (by decide) hc) (zg_V tg_841 tg_838 tg_840 tgp_35 tg_9) ⟨rfl, hdZ_X8_sumOf⟩ ⟨rfl, rfl⟩ ⟨by decide, by decide⟩ rfl rfl rfl (by decide) ⟨rfl, rfl⟩ rfl rfl (Nat.le_of_ble_eq_true rfl) dX8_endIt_20 rfl rfl ?_
  refine zj_lstore C (L' := [(5, .long (f_X8_sumOf S 122 ((gMs_at S) 10))), (3, .long (f_X8_incomeOfUnit S)), (1, .long (f_X8_priceNow S)), (0, .ref (m 0))]) dX8_endIt_23 (by decide) rfl ?_
  refine zj_aload_n C dX8_endIt_25 3 rfl ?_
  refine zj_callV C (nn := 10) (ws' := (WM cy m S)) (st := []) (st1 := [.int (f_X8_swing S)]) 0 8 [0, 1, 2, 3, 4, 5, 6, 7, 8, 9] (c_X8_swing l D cy m  S hb hc) (zg_V tg_837 tg_834 tg_836 tgp_34 tg_9) ⟨rfl, hdZ_X8_swing⟩ ⟨rfl, rfl⟩ ⟨by decide, by decide⟩ rfl rfl rfl (by decide) ⟨rfl, rfl⟩ rfl rfl (Nat.le_of_ble_eq_true rfl) dX8_endIt_26 rfl rfl ?_
  refine zj_istore C (L' := [(7, .int (f_X8_swing S)), (5, .long (f_X8_sumOf S 122 ((gMs_at S) 10))), (3, .long (f_X8_incomeOfUnit S)), (1, .long (f_X8_priceNow S)), (0, .ref (m 0))]) dX8_endIt_29 (by decide) rfl ?_
  refine zj_aload_n C dX8_endIt_31 4 rfl ?_
  refine zj_aload_n C dX8_endIt_32 4 rfl ?_
  refine zj_callV C (nn := 10) (ws' := (WM cy m S)) (st := [.ref (m 0)]) (st1 := [.long (f_X8_mayLeave S), .ref (m 0)]) 0 8 [0, 1, 2, 3, 4, 5, 6, 7, 8, 9] (c_X8_mayLeave l D cy m  S hc) (zg_V tg_845 tg_842 tg_844 tgp_36 tg_9) ⟨rfl, hdZ_X8_mayLeave⟩ ⟨rfl, rfl⟩ ⟨by decide, by decide⟩ rfl rfl rfl (by decide) ⟨rfl, rfl⟩ rfl rfl (Nat.le_of_ble_eq_true rfl) dX8_endIt_33 rfl rfl ?_
  refine zj_callV C (nn := 10) (ws' := (WM cy m (f_X8_shareOut S (f_X8_mayLeave S)))) (st := []) (st1 := []) 0 8 [0, 1, 2, 3, 4, 5, 6, 7, 8, 9] (c_X8_shareOut l D cy m (f_X8_mayLeave S) S hc hmay hsh) (zg_V tg_849 tg_846 tg_848 tgp_37 tg_9) ⟨rfl, hdZ_X8_shareOut⟩ ⟨rfl, rfl⟩ ⟨by decide, by decide⟩ rfl rfl rfl (by decide) ⟨rfl, rfl⟩ rfl rfl (Nat.le_of_ble_eq_true rfl) dX8_endIt_36 rfl rfl ?_
  refine zj_iconst C (v := (nI 0)) dX8_endIt_39 (by decide) ?_
  refine zj_istore C (L' := [(8, .int (nI 0)), (7, .int (f_X8_swing S)), (5, .long (f_X8_sumOf S 122 ((gMs_at S) 10))), (3, .long (f_X8_incomeOfUnit S)), (1, .long (f_X8_priceNow S)), (0, .ref (m 0))]) dX8_endIt_40 (by decide) rfl ?_
  refine zj_iload C dX8_endIt_42 0 rfl ?_
  refine zj_bipush C (v := (nI 6)) dX8_endIt_44 (by decide) ?_
  refine zj_icmp_ge C 66 dX8_endIt_46 (by decide) (fun c => absurd c (by decide)) (fun c => ?_)
  refine zj_aload_n C dX8_endIt_49 5 rfl ?_
  refine zj_get C 0 8 0 (v := .ref (m 1)) inZ8 rfl rfl (by decide) tg_677 rfl dX8_endIt_50 ?_
  refine zj_bipush C (v := (nI 12)) dX8_endIt_53 (by decide) ?_
  refine zj_iload C dX8_endIt_55 0 rfl ?_
  refine zj_iadd C dX8_endIt_57 ?_
  refine zj_topi (nI 12) (by decide) ?_
  refine zj_lconst C (v := 0) dX8_endIt_58 (by decide) ?_
  refine zj_last C 1 (f := (gMs_at (f_X8_shareOut S (f_X8_mayLeave S)))) (ws' := (WM cy m (sMs_at (f_X8_shareOut S (f_X8_mayLeave S)) (vp_updL (gMs_at (f_X8_shareOut S (f_X8_mayLeave S))) 12 0)))) 12 (by decide) (vp_in_nI (by decide) (by decide)) rfl dX8_endIt_59 rfl ?_
  refine zj_iinc C (j := 0) (v := (nI 1)) (L' := [(8, .int (nI 1)), (7, .int (f_X8_swing S)), (5, .long (f_X8_sumOf S 122 ((gMs_at S) 10))), (3, .long (f_X8_incomeOfUnit S)), (1, .long (f_X8_priceNow S)), (0, .ref (m 0))]) dX8_endIt_60 rfl (by decide) (by decide) rfl ?_
  refine zj_goto C 42 dX8_endIt_63 (by decide) ?_
  refine zj_iload C dX8_endIt_42 0 rfl ?_
  refine zj_bipush C (v := (nI 6)) dX8_endIt_44 (by decide) ?_
  refine zj_icmp_ge C 66 dX8_endIt_46 (by decide) (fun c => absurd c (by decide)) (fun c => ?_)
  refine zj_aload_n C dX8_endIt_49 5 rfl ?_
  refine zj_get C 0 8 0 (v := .ref (m 1)) inZ8 rfl rfl (by decide) tg_677 rfl dX8_endIt_50 ?_
  refine zj_bipush C (v := (nI 12)) dX8_endIt_53 (by decide) ?_
  refine zj_iload C dX8_endIt_55 0 rfl ?_
  refine zj_iadd C dX8_endIt_57 ?_
  refine zj_topi (nI 13) (by decide) ?_
  refine zj_lconst C (v := 0) dX8_endIt_58 (by decide) ?_
  refine zj_last C 1 (f := (vp_updL (gMs_at (f_X8_shareOut S (f_X8_mayLeave S))) 12 0)) (ws' := (WM cy m (sMs_at (f_X8_shareOut S (f_X8_mayLeave S)) (vp_updL (vp_updL (gMs_at (f_X8_shareOut S (f_X8_mayLeave S))) 12 0) 13 0)))) 13 (by decide) (vp_in_nI (by decide) (by decide)) rfl dX8_endIt_59 rfl ?_
  refine zj_iinc C (j := 0) (v := (nI 2)) (L' := [(8, .int (nI 2)), (7, .int (f_X8_swing S)), (5, .long (f_X8_sumOf S 122 ((gMs_at S) 10))), (3, .long (f_X8_incomeOfUnit S)), (1, .long (f_X8_priceNow S)), (0, .ref (m 0))]) dX8_endIt_60 rfl (by decide) (by decide) rfl ?_
  refine zj_goto C 42 dX8_endIt_63 (by decide) ?_
  refine zj_iload C dX8_endIt_42 0 rfl ?_
  refine zj_bipush C (v := (nI 6)) dX8_endIt_44 (by decide) ?_
  refine zj_icmp_ge C 66 dX8_endIt_46 (by decide) (fun c => absurd c (by decide)) (fun c => ?_)
  refine zj_aload_n C dX8_endIt_49 5 rfl ?_
  refine zj_get C 0 8 0 (v := .ref (m 1)) inZ8 rfl rfl (by decide) tg_677 rfl dX8_endIt_50 ?_
  refine zj_bipush C (v := (nI 12)) dX8_endIt_53 (by decide) ?_
  refine zj_iload C dX8_endIt_55 0 rfl ?_
  refine zj_iadd C dX8_endIt_57 ?_
  refine zj_topi (nI 14) (by decide) ?_
  refine zj_lconst C (v := 0) dX8_endIt_58 (by decide) ?_
  refine zj_last C 1 (f := (vp_updL (vp_updL (gMs_at (f_X8_shareOut S (f_X8_mayLeave S))) 12 0) 13 0)) (ws' := (WM cy m (sMs_at (f_X8_shareOut S (f_X8_mayLeave S)) (vp_updL (vp_updL (vp_updL (gMs_at (f_X8_shareOut S (f_X8_mayLeave S))) 12 0) 13 0) 14 0)))) 14 (by decide) (vp_in_nI (by decide) (by decide)) rfl dX8_endIt_59 rfl ?_
  refine zj_iinc C (j := 0) (v := (nI 3)) (L' := [(8, .int (nI 3)), (7, .int (f_X8_swing S)), (5, .long (f_X8_sumOf S 122 ((gMs_at S) 10))), (3, .long (f_X8_incomeOfUnit S)), (1, .long (f_X8_priceNow S)), (0, .ref (m 0))]) dX8_endIt_60 rfl (by decide) (by decide) rfl ?_
  refine zj_goto C 42 dX8_endIt_63 (by decide) ?_
  refine zj_iload C dX8_endIt_42 0 rfl ?_
  refine zj_bipush C (v := (nI 6)) dX8_endIt_44 (by decide) ?_
  refine zj_icmp_ge C 66 dX8_endIt_46 (by decide) (fun c => absurd c (by decide)) (fun c => ?_)
  refine zj_aload_n C dX8_endIt_49 5 rfl ?_
  refine zj_get C 0 8 0 (v := .ref (m 1)) inZ8 rfl rfl (by decide) tg_677 rfl dX8_endIt_50 ?_
  refine zj_bipush C (v := (nI 12)) dX8_endIt_53 (by decide) ?_
  refine zj_iload C dX8_endIt_55 0 rfl ?_
  refine zj_iadd C dX8_endIt_57 ?_
  refine zj_topi (nI 15) (by decide) ?_
  refine zj_lconst C (v := 0) dX8_endIt_58 (by decide) ?_
  refine zj_last C 1 (f := (vp_updL (vp_updL (vp_updL (gMs_at (f_X8_shareOut S (f_X8_mayLeave S))) 12 0) 13 0) 14 0)) (ws' := (WM cy m (sMs_at (f_X8_shareOut S (f_X8_mayLeave S)) (vp_updL (vp_updL (vp_updL (vp_updL (gMs_at (f_X8_shareOut S (f_X8_mayLeave S))) 12 0) 13 0) 14 0) 15 0)))) 15 (by decide) (vp_in_nI (by decide) (by decide)) rfl dX8_endIt_59 rfl ?_
  refine zj_iinc C (j := 0) (v := (nI 4)) (L' := [(8, .int (nI 4)), (7, .int (f_X8_swing S)), (5, .long (f_X8_sumOf S 122 ((gMs_at S) 10))), (3, .long (f_X8_incomeOfUnit S)), (1, .long (f_X8_priceNow S)), (0, .ref (m 0))]) dX8_endIt_60 rfl (by decide) (by decide) rfl ?_
  refine zj_goto C 42 dX8_endIt_63 (by decide) ?_
  refine zj_iload C dX8_endIt_42 0 rfl ?_
  refine zj_bipush C (v := (nI 6)) dX8_endIt_44 (by decide) ?_
  refine zj_icmp_ge C 66 dX8_endIt_46 (by decide) (fun c => absurd c (by decide)) (fun c => ?_)
  refine zj_aload_n C dX8_endIt_49 5 rfl ?_
  refine zj_get C 0 8 0 (v := .ref (m 1)) inZ8 rfl rfl (by decide) tg_677 rfl dX8_endIt_50 ?_
  refine zj_bipush C (v := (nI 12)) dX8_endIt_53 (by decide) ?_
  refine zj_iload C dX8_endIt_55 0 rfl ?_
  refine zj_iadd C dX8_endIt_57 ?_
  refine zj_topi (nI 16) (by decide) ?_
  refine zj_lconst C (v := 0) dX8_endIt_58 (by decide) ?_
  refine zj_last C 1 (f := (vp_updL (vp_updL (vp_updL (vp_updL (gMs_at (f_X8_shareOut S (f_X8_mayLeave S))) 12 0) 13 0) 14 0) 15 0)) (ws' := (WM cy m (sMs_at (f_X8_shareOut S (f_X8_mayLeave S)) (vp_updL (vp_updL (vp_updL (vp_updL (vp_updL (gMs_at (f_X8_shareOut S (f_X8_mayLeave S))) 12 0) 13 0) 14 0) 15 0) 16 0)))) 16 (by decide) (vp_in_nI (by decide) (by decide)) rfl dX8_endIt_59 rfl ?_
  refine zj_iinc C (j := 0) (v := (nI 5)) (L' := [(8, .int (nI 5)), (7, .int (f_X8_swing S)), (5, .long (f_X8_sumOf S 122 ((gMs_at S) 10))), (3, .long (f_X8_incomeOfUnit S)), (1, .long (f_X8_priceNow S)), (0, .ref (m 0))]) dX8_endIt_60 rfl (by decide) (by decide) rfl ?_
  refine zj_goto C 42 dX8_endIt_63 (by decide) ?_
  refine zj_iload C dX8_endIt_42 0 rfl ?_
  refine zj_bipush C (v := (nI 6)) dX8_endIt_44 (by decide) ?_
  refine zj_icmp_ge C 66 dX8_endIt_46 (by decide) (fun c => absurd c (by decide)) (fun c => ?_)
  refine zj_aload_n C dX8_endIt_49 5 rfl ?_
  refine zj_get C 0 8 0 (v := .ref (m 1)) inZ8 rfl rfl (by decide) tg_677 rfl dX8_endIt_50 ?_
  refine zj_bipush C (v := (nI 12)) dX8_endIt_53 (by decide) ?_
  refine zj_iload C dX8_endIt_55 0 rfl ?_
  refine zj_iadd C dX8_endIt_57 ?_
  refine zj_topi (nI 17) (by decide) ?_
  refine zj_lconst C (v := 0) dX8_endIt_58 (by decide) ?_
  refine zj_last C 1 (f := (vp_updL (vp_updL (vp_updL (vp_updL (vp_updL (gMs_at (f_X8_shareOut S (f_X8_mayLeave S))) 12 0) 13 0) 14 0) 15 0) 16 0)) (ws' := (WM cy m (sMs_at (f_X8_shareOut S (f_X8_mayLeave S)) (vp_updL (vp_updL (vp_updL (vp_updL (vp_updL (vp_updL (gMs_at (f_X8_shareOut S (f_X8_mayLeave S))) 12 0) 13 0) 14 0) 15 0) 16 0) 17 0)))) 17 (by decide) (vp_in_nI (by decide) (by decide)) rfl dX8_endIt_59 rfl ?_
  refine zj_iinc C (j := 0) (v := (nI 6)) (L' := [(8, .int (nI 6)), (7, .int (f_X8_swing S)), (5, .long (f_X8_sumOf S 122 ((gMs_at S) 10))), (3, .long (f_X8_incomeOfUnit S)), (1, .long (f_X8_priceNow S)), (0, .ref (m 0))]) dX8_endIt_60 rfl (by decide) (by decide) rfl ?_
  refine zj_goto C 42 dX8_endIt_63 (by decide) ?_
  refine zj_iload C dX8_endIt_42 0 rfl ?_
  refine zj_bipush C (v := (nI 6)) dX8_endIt_44 (by decide) ?_
  refine zj_icmp_ge C 66 dX8_endIt_46 (by decide) (fun c => ?_) (fun c => absurd (by decide) c)
  refine zj_aload_n C dX8_endIt_66 5 rfl ?_
  refine zj_lload_n C dX8_endIt_67 4 rfl ?_
  refine zj_lload_n C dX8_endIt_68 3 rfl ?_
  refine zj_callV C (nn := 10) (ws' := (WM cy m (f_X8_payThem (sMs_at (f_X8_shareOut S (f_X8_mayLeave S)) (vp_updL (vp_updL (vp_updL (vp_updL (vp_updL (vp_updL (gMs_at (f_X8_shareOut S (f_X8_mayLeave S))) 12 0) 13 0) 14 0) 15 0) 16 0) 17 0)) (f_X8_priceNow S) (f_X8_incomeOfUnit S)))) (st := []) (st1 := []) 0 8 [0, 1, 2, 3, 4, 5, 6, 7, 8, 9] (c_X8_payThem l D cy m (f_X8_priceNow S) (f_X8_incomeOfUnit S) (sMs_at (f_X8_shareOut S (f_X8_mayLeave S)) (vp_updL (vp_updL (vp_updL (vp_updL (vp_updL (vp_updL (gMs_at (f_X8_shareOut S (f_X8_mayLeave S))) 12 0) 13 0) 14 0) 15 0) 16 0) 17 0)) P hP0 hP hc1) (zg_V tg_857 tg_854 tg_856 tgp_39 tg_9) ⟨rfl, hdZ_X8_payThem⟩ ⟨rfl, rfl⟩ ⟨by decide, by decide⟩ rfl rfl rfl (by decide) ⟨rfl, rfl⟩ rfl rfl (Nat.le_of_ble_eq_true rfl) dX8_endIt_69 rfl rfl ?_
  have loop_72 : ∀ (fuel : Nat) (X : zMs), (hPk : Q X) → zcn X 61 < fuel → (zJ E 9 0 0 (WM cy m (L_X8_buys S fuel X)) 136 [(0, .ref (m 0)), (1, .long (f_X8_priceNow S)), (3, .long (f_X8_incomeOfUnit S)), (5, .long (f_X8_sumOf S 122 ((gMs_at S) 10))), (7, .int (f_X8_swing S))] []) → zJ E 9 0 0 (WM cy m X) 72 [(0, .ref (m 0)), (1, .long (f_X8_priceNow S)), (3, .long (f_X8_incomeOfUnit S)), (5, .long (f_X8_sumOf S 122 ((gMs_at S) 10))), (7, .int (f_X8_swing S))] [] := by
    intro fuel
    induction fuel with
    | zero => intro X hPk hmu; exact absurd hmu (Nat.not_lt_zero _)
    | succ fuel ih_72 =>
      intro X hPk hmu_72 K_72
      have hz := (hQ X hPk).1
      have hzc : zCk X 61 := hz.1
      have hz20 := hzc.2
      have hq := hz.2
      refine zj_aload_n C dX8_endIt_72 0 rfl ?_
      refine zj_get C 0 8 0 (v := .ref (m 1)) inZ8 rfl rfl (by decide) tg_677 rfl dX8_endIt_73 ?_
      refine zj_bipush C (v := (nI 61)) dX8_endIt_76 (by decide) ?_
      refine zj_lald C 1 (f := (gMs_at X)) 61 (by decide) (vp_in_nI (by decide) (by decide)) rfl dX8_endIt_78 ?_
      refine zj_topl (lN (zcn X 61)) hzc.1 ?_
      refine zj_lconst C (v := 0) dX8_endIt_79 (by decide) ?_
      refine zj_lcmp_le C 136 dX8_endIt_80 dX8_endIt_81 (by decide) (fun c => ?_) (fun c => ?_)
      · have c_80 : zcn X 61 = 0 := ((zl_le0 (by omega)).mp c)
        have e_72 : (L_X8_buys S (fuel + 1) X) = X := by refine (L_X8_buys_s S fuel X).trans ?_; refine (if_pos c_80).trans ?_; rfl
        rw [e_72] at K_72
        exact K_72 
      · have c_80 : ¬ (zcn X 61 = 0) := (fun q => c ((zl_le0 (by omega)).mpr q))
        refine zj_aload_n C dX8_endIt_84 0 rfl ?_
        refine zj_bipush C (v := (nI 61)) dX8_endIt_85 (by decide) ?_
        refine zj_iconst C (v := (nI 0)) dX8_endIt_87 (by decide) ?_
        refine zj_iconst C (v := (nI 2)) dX8_endIt_88 (by decide) ?_
        refine zj_callV C (nn := 10) (ws' := (WM cy m X)) (st := []) (st1 := [.long (f_X8_ofOrder X 61 0 2)]) 0 8 [0, 1, 2, 3, 4, 5, 6, 7, 8, 9] (c_X8_ofOrder l D cy m 61 0 2 X (by decide)) (zg_V tg_760 tg_757 tg_759 tgp_18 tg_9) ⟨rfl, hdZ_X8_ofOrder⟩ ⟨rfl, rfl⟩ ⟨by decide, by decide⟩ rfl rfl rfl (by decide) ⟨rfl, rfl⟩ rfl rfl (Nat.le_of_ble_eq_true rfl) dX8_endIt_89 rfl rfl ?_
        refine zj_aload_n C dX8_endIt_92 0 rfl ?_
        refine zj_get C 0 8 0 (v := .ref (m 1)) inZ8 rfl rfl (by decide) tg_677 rfl dX8_endIt_93 ?_
        refine zj_bipush C (v := (nI 10)) dX8_endIt_96 (by decide) ?_
        refine zj_lald C 1 (f := (gMs_at X)) 10 (by decide) (vp_in_nI (by decide) (by decide)) rfl dX8_endIt_98 ?_
        refine zj_lcmp_gt C 136 dX8_endIt_99 dX8_endIt_100 (by decide) (fun c => ?_) (fun c => ?_)
        · have c_99 : ((gMs_at X) 10) < (f_X8_ofOrder X 61 0 2) := c
          have e_72 : (L_X8_buys S (fuel + 1) X) = X := by refine (L_X8_buys_s S fuel X).trans ?_; refine (if_neg c_80).trans ?_; refine (if_pos c_99).trans ?_; rfl
          rw [e_72] at K_72
          exact K_72 
        · have c_99 : ¬ (((gMs_at X) 10) < (f_X8_ofOrder X 61 0 2)) := c
          refine zj_aload_n C dX8_endIt_103 0 rfl ?_
          refine zj_aload_n C dX8_endIt_104 0 rfl ?_
          refine zj_bipush C (v := (nI 61)) dX8_endIt_105 (by decide) ?_
          refine zj_iconst C (v := (nI 0)) dX8_endIt_107 (by decide) ?_
          refine zj_iconst C (v := (nI 0)) dX8_endIt_108 (by decide) ?_
          refine zj_callV C (nn := 10) (ws' := (WM cy m X)) (st := [.ref (m 0)]) (st1 := [.long (f_X8_ofOrder X 61 0 0), .ref (m 0)]) 0 8 [0, 1, 2, 3, 4, 5, 6, 7, 8, 9] (c_X8_ofOrder l D cy m 61 0 0 X (by decide)) (zg_V tg_760 tg_757 tg_759 tgp_18 tg_9) ⟨rfl, hdZ_X8_ofOrder⟩ ⟨rfl, rfl⟩ ⟨by decide, by decide⟩ rfl rfl rfl (by decide) ⟨rfl, rfl⟩ rfl rfl (Nat.le_of_ble_eq_true rfl) dX8_endIt_109 rfl rfl ?_
          refine zj_topl (lN (zhb X)) (hq c_80 (Int64.not_lt.mp c_99)).1 ?_
          refine zj_l2i C dX8_endIt_112 ?_
          refine zj_topi (nI (zhb X)) (lN_i _) ?_
          refine zj_aload_n C dX8_endIt_113 0 rfl ?_
          refine zj_bipush C (v := (nI 61)) dX8_endIt_114 (by decide) ?_
          refine zj_iconst C (v := (nI 0)) dX8_endIt_116 (by decide) ?_
          refine zj_iconst C (v := (nI 1)) dX8_endIt_117 (by decide) ?_
          refine zj_callV C (nn := 10) (ws' := (WM cy m X)) (st := [.int (nI (zhb X)), .ref (m 0)]) (st1 := [.long (f_X8_ofOrder X 61 0 1), .int (nI (zhb X)), .ref (m 0)]) 0 8 [0, 1, 2, 3, 4, 5, 6, 7, 8, 9] (c_X8_ofOrder l D cy m 61 0 1 X (by decide)) (zg_V tg_760 tg_757 tg_759 tgp_18 tg_9) ⟨rfl, hdZ_X8_ofOrder⟩ ⟨rfl, rfl⟩ ⟨by decide, by decide⟩ rfl rfl rfl (by decide) ⟨rfl, rfl⟩ rfl rfl (Nat.le_of_ble_eq_true rfl) dX8_endIt_118 rfl rfl ?_
          refine zj_lload_n C dX8_endIt_121 1 rfl ?_
          refine zj_lload_n C dX8_endIt_122 2 rfl ?_
          refine zj_callV C (nn := 10) (ws' := (WM cy m (f_X8_buyFor X (zhb X) (f_X8_ofOrder X 61 0 1) (f_X8_priceNow S) (f_X8_incomeOfUnit S)))) (st := []) (st1 := []) 0 8 [0, 1, 2, 3, 4, 5, 6, 7, 8, 9] (c_X8_buyFor l D cy m (zhb X) (f_X8_ofOrder X 61 0 1) (f_X8_priceNow S) (f_X8_incomeOfUnit S) X (hq c_80 (Int64.not_lt.mp c_99)).2) (zg_V tg_875 tg_872 tg_874 tgp_43 tg_9) ⟨rfl, hdZ_X8_buyFor⟩ ⟨rfl, rfl⟩ ⟨by decide, by decide⟩ rfl rfl rfl (by decide) ⟨rfl, rfl⟩ rfl rfl (Nat.le_of_ble_eq_true rfl) dX8_endIt_123 rfl rfl ?_
          refine zj_aload_n C dX8_endIt_126 0 rfl ?_
          refine zj_bipush C (v := (nI 61)) dX8_endIt_127 (by decide) ?_
          refine zj_iconst C (v := (nI 0)) dX8_endIt_129 (by decide) ?_
          refine zj_callV C (nn := 10) (ws' := (WM cy m (f_X8_takeOut (f_X8_buyFor X (zhb X) (f_X8_ofOrder X 61 0 1) (f_X8_priceNow S) (f_X8_incomeOfUnit S)) 61 0))) (st := []) (st1 := []) 0 8 [0, 1, 2, 3, 4, 5, 6, 7, 8, 9] (c_X8_takeOut l D cy m 61 0 (f_X8_buyFor X (zhb X) (f_X8_ofOrder X 61 0 1) (f_X8_priceNow S) (f_X8_incomeOfUnit S)) (by decide) (zCk_k (f_buy_at X (hq c_80 (Int64.not_lt.mp c_99)).2 (by decide)) hzc) (by rw [zcn_k (f_buy_at X (hq c_80 (Int64.not_lt.mp c_99)).2 (by decide))]; omega)) (zg_V tg_870 tg_867 tg_869 tgp_42 tg_9) ⟨rfl, hdZ_X8_takeOut⟩ ⟨rfl, rfl⟩ ⟨by decide, by decide⟩ rfl rfl rfl (by decide) ⟨rfl, rfl⟩ rfl rfl (Nat.le_of_ble_eq_true rfl) dX8_endIt_130 rfl rfl ?_
          refine zj_goto C 72 dX8_endIt_133 (by decide) ?_
          have hn_mu : zcn (f_X8_takeOut (f_X8_buyFor X (zhb X) (f_X8_ofOrder X 61 0 1) (f_X8_priceNow S) (f_X8_incomeOfUnit S)) 61 0) 61 < fuel := (by rw [zbuy_dec (hq c_80 (Int64.not_lt.mp c_99)).2 hzc c_80]; omega)
          have e_72 : (L_X8_buys S (fuel + 1) X) = (L_X8_buys S fuel (f_X8_takeOut (f_X8_buyFor X (zhb X) (f_X8_ofOrder X 61 0 1) (f_X8_priceNow S) (f_X8_incomeOfUnit S)) 61 0)) := by refine (L_X8_buys_s S fuel X).trans ?_; refine (if_neg c_80).trans ?_; refine (if_neg c_99).trans ?_; rfl
          rw [e_72] at K_72
          have hn_hPk : Q (f_X8_takeOut (f_X8_buyFor X (zhb X) (f_X8_ofOrder X 61 0 1) (f_X8_priceNow S) (f_X8_incomeOfUnit S)) 61 0) := by have q := (hQ X hPk).2; have e1 : L_X8_buys S (0 + 1) X = (f_X8_takeOut (f_X8_buyFor X (zhb X) (f_X8_ofOrder X 61 0 1) (f_X8_priceNow S) (f_X8_incomeOfUnit S)) 61 0) := (by refine (L_X8_buys_s S 0 X).trans ?_; refine (if_neg c_80).trans ?_; refine (if_neg c_99).trans ?_; rfl); rw [e1] at q; exact q
          exact ih_72 (f_X8_takeOut (f_X8_buyFor X (zhb X) (f_X8_ofOrder X 61 0 1) (f_X8_priceNow S) (f_X8_incomeOfUnit S)) 61 0) hn_hPk hn_mu K_72
  have K_72 : ∀ (X3 : zMs), X3 = (L_X8_buys S (zcn (f_X8_payThem (sMs_at (f_X8_shareOut S (f_X8_mayLeave S)) (vp_updL (vp_updL (vp_updL (vp_updL (vp_updL (vp_updL (gMs_at (f_X8_shareOut S (f_X8_mayLeave S))) 12 0) 13 0) 14 0) 15 0) 16 0) 17 0)) (f_X8_priceNow S) (f_X8_incomeOfUnit S)) 61 + 1) (f_X8_payThem (sMs_at (f_X8_shareOut S (f_X8_mayLeave S)) (vp_updL (vp_updL (vp_updL (vp_updL (vp_updL (vp_updL (gMs_at (f_X8_shareOut S (f_X8_mayLeave S))) 12 0) 13 0) 14 0) 15 0) 16 0) 17 0)) (f_X8_priceNow S) (f_X8_incomeOfUnit S))) → zJ E 9 0 0 (WM cy m X3) 136 [(0, .ref (m 0)), (1, .long (f_X8_priceNow S)), (3, .long (f_X8_incomeOfUnit S)), (5, .long (f_X8_sumOf S 122 ((gMs_at S) 10))), (7, .int (f_X8_swing S))] [] := by
    intro X3 hX3 
    refine zj_aload_n C dX8_endIt_136 0 rfl ?_
    refine zj_get C 0 8 0 (v := .ref (m 1)) inZ8 rfl rfl (by decide) tg_677 rfl dX8_endIt_137 ?_
    refine zj_bipush C (v := (nI 15)) dX8_endIt_140 (by decide) ?_
    refine zj_iload C dX8_endIt_142 4 rfl ?_
    refine zj_i2l C dX8_endIt_144 ?_
    refine zj_last C 1 (f := (gMs_at X3)) (ws' := (WM cy m (sMs_at X3 (vp_updL (gMs_at X3) 15 (((f_X8_swing S)).toInt64))))) 15 (by decide) (vp_in_nI (by decide) (by decide)) rfl dX8_endIt_145 rfl ?_
    refine zj_aload_n C dX8_endIt_146 0 rfl ?_
    refine zj_get C 0 8 0 (v := .ref (m 1)) inZ8 rfl rfl (by decide) tg_677 rfl dX8_endIt_147 ?_
    refine zj_bipush C (v := (nI 16)) dX8_endIt_150 (by decide) ?_
    refine zj_lload C dX8_endIt_152 3 rfl ?_
    refine zj_aload_n C dX8_endIt_154 0 rfl ?_
    refine zj_get C 0 8 0 (v := .ref (m 1)) inZ8 rfl rfl (by decide) tg_677 rfl dX8_endIt_155 ?_
    refine zj_bipush C (v := (nI 13)) dX8_endIt_158 (by decide) ?_
    refine zj_lald C 1 (f := (vp_updL (gMs_at X3) 15 (((f_X8_swing S)).toInt64))) 13 (by decide) (vp_in_nI (by decide) (by decide)) rfl dX8_endIt_160 ?_
    refine zj_lsub C dX8_endIt_161 ?_
    refine zj_last C 1 (f := (vp_updL (gMs_at X3) 15 (((f_X8_swing S)).toInt64))) (ws' := (WM cy m (sMs_at X3 (vp_updL (vp_updL (gMs_at X3) 15 (((f_X8_swing S)).toInt64)) 16 ((f_X8_sumOf S 122 ((gMs_at S) 10)) - ((vp_updL (gMs_at X3) 15 (((f_X8_swing S)).toInt64)) 13)))))) 16 (by decide) (vp_in_nI (by decide) (by decide)) rfl dX8_endIt_162 rfl ?_
    refine zj_aload_n C dX8_endIt_163 0 rfl ?_
    refine zj_get C 0 8 0 (v := .ref (m 1)) inZ8 rfl rfl (by decide) tg_677 rfl dX8_endIt_164 ?_
    refine zj_bipush C (v := (nI 11)) dX8_endIt_167 (by decide) ?_
    refine zj_lload_n C dX8_endIt_169 1 rfl ?_
    refine zj_last C 1 (f := (vp_updL (vp_updL (gMs_at X3) 15 (((f_X8_swing S)).toInt64)) 16 ((f_X8_sumOf S 122 ((gMs_at S) 10)) - ((vp_updL (gMs_at X3) 15 (((f_X8_swing S)).toInt64)) 13)))) (ws' := (WM cy m (sMs_at X3 (vp_updL (vp_updL (vp_updL (gMs_at X3) 15 (((f_X8_swing S)).toInt64)) 16 ((f_X8_sumOf S 122 ((gMs_at S) 10)) - ((vp_updL (gMs_at X3) 15 (((f_X8_swing S)).toInt64)) 13))) 11 (f_X8_priceNow S))))) 11 (by decide) (vp_in_nI (by decide) (by decide)) rfl dX8_endIt_170 rfl ?_
    refine zj_aload_n C dX8_endIt_171 0 rfl ?_
    refine zj_get C 0 8 0 (v := .ref (m 1)) inZ8 rfl rfl (by decide) tg_677 rfl dX8_endIt_172 ?_
    refine zj_bipush C (v := (nI 18)) dX8_endIt_175 (by decide) ?_
    refine zj_lconst C (v := 1) dX8_endIt_177 (by decide) ?_
    refine zj_last C 1 (f := (vp_updL (vp_updL (vp_updL (gMs_at X3) 15 (((f_X8_swing S)).toInt64)) 16 ((f_X8_sumOf S 122 ((gMs_at S) 10)) - ((vp_updL (gMs_at X3) 15 (((f_X8_swing S)).toInt64)) 13))) 11 (f_X8_priceNow S))) (ws' := (WM cy m (sMs_at X3 (vp_updL (vp_updL (vp_updL (vp_updL (gMs_at X3) 15 (((f_X8_swing S)).toInt64)) 16 ((f_X8_sumOf S 122 ((gMs_at S) 10)) - ((vp_updL (gMs_at X3) 15 (((f_X8_swing S)).toInt64)) 13))) 11 (f_X8_priceNow S)) 18 1)))) 18 (by decide) (vp_in_nI (by decide) (by decide)) rfl dX8_endIt_178 rfl ?_
    refine zj_aload_n C dX8_endIt_179 0 rfl ?_
    refine zj_get C 0 8 0 (v := .ref (m 1)) inZ8 rfl rfl (by decide) tg_677 rfl dX8_endIt_180 ?_
    refine zj_bipush C (v := (nI 10)) dX8_endIt_183 (by decide) ?_
    refine zj_dup2 C dX8_endIt_185 rfl rfl ?_
    refine zj_lald C 1 (f := (vp_updL (vp_updL (vp_updL (vp_updL (gMs_at X3) 15 (((f_X8_swing S)).toInt64)) 16 ((f_X8_sumOf S 122 ((gMs_at S) 10)) - ((vp_updL (gMs_at X3) 15 (((f_X8_swing S)).toInt64)) 13))) 11 (f_X8_priceNow S)) 18 1)) 10 (by decide) (vp_in_nI (by decide) (by decide)) rfl dX8_endIt_186 ?_
    refine zj_lconst C (v := 1) dX8_endIt_187 (by decide) ?_
    refine zj_ladd C dX8_endIt_188 ?_
    refine zj_last C 1 (f := (vp_updL (vp_updL (vp_updL (vp_updL (gMs_at X3) 15 (((f_X8_swing S)).toInt64)) 16 ((f_X8_sumOf S 122 ((gMs_at S) 10)) - ((vp_updL (gMs_at X3) 15 (((f_X8_swing S)).toInt64)) 13))) 11 (f_X8_priceNow S)) 18 1)) (ws' := (WM cy m (sMs_at X3 (vp_updL (vp_updL (vp_updL (vp_updL (vp_updL (gMs_at X3) 15 (((f_X8_swing S)).toInt64)) 16 ((f_X8_sumOf S 122 ((gMs_at S) 10)) - ((vp_updL (gMs_at X3) 15 (((f_X8_swing S)).toInt64)) 13))) 11 (f_X8_priceNow S)) 18 1) 10 (((vp_updL (vp_updL (vp_updL (vp_updL (gMs_at X3) 15 (((f_X8_swing S)).toInt64)) 16 ((f_X8_sumOf S 122 ((gMs_at S) 10)) - ((vp_updL (gMs_at X3) 15 (((f_X8_swing S)).toInt64)) 13))) 11 (f_X8_priceNow S)) 18 1) 10) + 1))))) 10 (by decide) (vp_in_nI (by decide) (by decide)) rfl dX8_endIt_189 rfl ?_
    subst hX3
    have e : f_X8_endIt S = (sMs_at (L_X8_buys S (zcn (f_X8_payThem (sMs_at (f_X8_shareOut S (f_X8_mayLeave S)) (vp_updL (vp_updL (vp_updL (vp_updL (vp_updL (vp_updL (gMs_at (f_X8_shareOut S (f_X8_mayLeave S))) 12 0) 13 0) 14 0) 15 0) 16 0) 17 0)) (f_X8_priceNow S) (f_X8_incomeOfUnit S)) 61 + 1) (f_X8_payThem (sMs_at (f_X8_shareOut S (f_X8_mayLeave S)) (vp_updL (vp_updL (vp_updL (vp_updL (vp_updL (vp_updL (gMs_at (f_X8_shareOut S (f_X8_mayLeave S))) 12 0) 13 0) 14 0) 15 0) 16 0) 17 0)) (f_X8_priceNow S) (f_X8_incomeOfUnit S))) (vp_updL (vp_updL (vp_updL (vp_updL (vp_updL (gMs_at (L_X8_buys S (zcn (f_X8_payThem (sMs_at (f_X8_shareOut S (f_X8_mayLeave S)) (vp_updL (vp_updL (vp_updL (vp_updL (vp_updL (vp_updL (gMs_at (f_X8_shareOut S (f_X8_mayLeave S))) 12 0) 13 0) 14 0) 15 0) 16 0) 17 0)) (f_X8_priceNow S) (f_X8_incomeOfUnit S)) 61 + 1) (f_X8_payThem (sMs_at (f_X8_shareOut S (f_X8_mayLeave S)) (vp_updL (vp_updL (vp_updL (vp_updL (vp_updL (vp_updL (gMs_at (f_X8_shareOut S (f_X8_mayLeave S))) 12 0) 13 0) 14 0) 15 0) 16 0) 17 0)) (f_X8_priceNow S) (f_X8_incomeOfUnit S)))) 15 (((f_X8_swing S)).toInt64)) 16 ((f_X8_sumOf S 122 ((gMs_at S) 10)) - ((vp_updL (gMs_at (L_X8_buys S (zcn (f_X8_payThem (sMs_at (f_X8_shareOut S (f_X8_mayLeave S)) (vp_updL (vp_updL (vp_updL (vp_updL (vp_updL (vp_updL (gMs_at (f_X8_shareOut S (f_X8_mayLeave S))) 12 0) 13 0) 14 0) 15 0) 16 0) 17 0)) (f_X8_priceNow S) (f_X8_incomeOfUnit S)) 61 + 1) (f_X8_payThem (sMs_at (f_X8_shareOut S (f_X8_mayLeave S)) (vp_updL (vp_updL (vp_updL (vp_updL (vp_updL (vp_updL (gMs_at (f_X8_shareOut S (f_X8_mayLeave S))) 12 0) 13 0) 14 0) 15 0) 16 0) 17 0)) (f_X8_priceNow S) (f_X8_incomeOfUnit S)))) 15 (((f_X8_swing S)).toInt64)) 13))) 11 (f_X8_priceNow S)) 18 1) 10 (((vp_updL (vp_updL (vp_updL (vp_updL (gMs_at (L_X8_buys S (zcn (f_X8_payThem (sMs_at (f_X8_shareOut S (f_X8_mayLeave S)) (vp_updL (vp_updL (vp_updL (vp_updL (vp_updL (vp_updL (gMs_at (f_X8_shareOut S (f_X8_mayLeave S))) 12 0) 13 0) 14 0) 15 0) 16 0) 17 0)) (f_X8_priceNow S) (f_X8_incomeOfUnit S)) 61 + 1) (f_X8_payThem (sMs_at (f_X8_shareOut S (f_X8_mayLeave S)) (vp_updL (vp_updL (vp_updL (vp_updL (vp_updL (vp_updL (gMs_at (f_X8_shareOut S (f_X8_mayLeave S))) 12 0) 13 0) 14 0) 15 0) 16 0) 17 0)) (f_X8_priceNow S) (f_X8_incomeOfUnit S)))) 15 (((f_X8_swing S)).toInt64)) 16 ((f_X8_sumOf S 122 ((gMs_at S) 10)) - ((vp_updL (gMs_at (L_X8_buys S (zcn (f_X8_payThem (sMs_at (f_X8_shareOut S (f_X8_mayLeave S)) (vp_updL (vp_updL (vp_updL (vp_updL (vp_updL (vp_updL (gMs_at (f_X8_shareOut S (f_X8_mayLeave S))) 12 0) 13 0) 14 0) 15 0) 16 0) 17 0)) (f_X8_priceNow S) (f_X8_incomeOfUnit S)) 61 + 1) (f_X8_payThem (sMs_at (f_X8_shareOut S (f_X8_mayLeave S)) (vp_updL (vp_updL (vp_updL (vp_updL (vp_updL (vp_updL (gMs_at (f_X8_shareOut S (f_X8_mayLeave S))) 12 0) 13 0) 14 0) 15 0) 16 0) 17 0)) (f_X8_priceNow S) (f_X8_incomeOfUnit S)))) 15 (((f_X8_swing S)).toInt64)) 13))) 11 (f_X8_priceNow S)) 18 1) 10) + 1))) := by refine (zsl_e _).trans ?_; rfl
    rw [e] at hret
    exact hret _ _ dX8_endIt_190
  refine zj_sub (L' := [(0, .ref (m 0)), (1, .long (f_X8_priceNow S)), (3, .long (f_X8_incomeOfUnit S)), (5, .long (f_X8_sumOf S 122 ((gMs_at S) 10))), (7, .int (f_X8_swing S))]) [5, 4, 3, 2, 1] rfl ?_
  exact loop_72 (zcn (f_X8_payThem (sMs_at (f_X8_shareOut S (f_X8_mayLeave S)) (vp_updL (vp_updL (vp_updL (vp_updL (vp_updL (vp_updL (gMs_at (f_X8_shareOut S (f_X8_mayLeave S))) 12 0) 13 0) 14 0) 15 0) 16 0) 17 0)) (f_X8_priceNow S) (f_X8_incomeOfUnit S)) 61 + 1) (f_X8_payThem (sMs_at (f_X8_shareOut S (f_X8_mayLeave S)) (vp_updL (vp_updL (vp_updL (vp_updL (vp_updL (vp_updL (gMs_at (f_X8_shareOut S (f_X8_mayLeave S))) 12 0) 13 0) 14 0) 15 0) 16 0) 17 0)) (f_X8_priceNow S) (f_X8_incomeOfUnit S)) hQ0 (Nat.lt_succ_self _) (K_72 _ rfl)
