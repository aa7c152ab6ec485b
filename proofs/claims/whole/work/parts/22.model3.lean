theorem zne_of2 {a s : Int64} (h : 0 ≤ a) (h2 : a < s) : ¬ s = 0 := fun e => by
  subst e
  exact absurd h2 (Int64.not_lt.mpr h)
theorem zdec2 {x : Int64} (h : ¬ x ≤ 0) : (x - 1).toInt.toNat < x.toInt.toNat := by
  have h1 : 0 < x.toInt := by
    have := Int64.not_le.mp h
    rw [Int64.lt_iff_toInt_lt] at this
    exact this
  have h2 : (x - 1).toInt = x.toInt - 1 := by
    rw [Int64.toInt_sub]
    have hx := x.toInt_lt
    have h3 : (1 : Int64).toInt = 1 := by decide
    rw [h3]
    rw [Int.bmod_eq_of_le] <;> omega
  omega
theorem zI_m1lt {j : Nat} (h : j < 2 ^ 31) : nI j - nI 1 < 0 ↔ j = 0 := by
  rcases Nat.eq_zero_or_pos j with e | e
  · subst e; exact ⟨fun _ => rfl, fun _ => by decide⟩
  · rw [pk_sub (by omega)]
    exact ⟨fun q => absurd q (nI_pos (by omega)), fun q => by omega⟩
theorem zI_m2 {j : Nat} (h : ¬ j = 0) : nI j - nI 1 + -1 = nI (j - 1) - nI 1 := by
  rw [pk_sub (by omega), Int32.sub_eq_add_neg, show -(nI 1) = (-1 : Int32) from by decide]

noncomputable def L_X8_sell (S : zMs) (amount : Int64) : Nat → (Nat → Int64) → (Nat → Int64)
  | 0, A => A
  | fuel + 1, A =>
    if amount ≤ (A 5) then
      A
    else
      if (A 6) ≤ 0 then
        A
      else
        L_X8_sell S amount fuel (vp_updL (vp_updL (vp_updL A 6 ((A 6) - 1)) 5 (((vp_updL A 6 ((A 6) - 1)) 5) + (((vp_updL A 6 ((A 6) - 1)) 7) - (f_X8_cost (sMs_at S (vp_updL A 6 ((A 6) - 1))))))) 14 (((vp_updL (vp_updL A 6 ((A 6) - 1)) 5 (((vp_updL A 6 ((A 6) - 1)) 5) + (((vp_updL A 6 ((A 6) - 1)) 7) - (f_X8_cost (sMs_at S (vp_updL A 6 ((A 6) - 1))))))) 14) + 1))
theorem L_X8_sell_s (S : zMs) (amount : Int64) (fuel : Nat) (A : Nat → Int64) : L_X8_sell S amount (fuel + 1) A = (
    if amount ≤ (A 5) then
      A
    else
      if (A 6) ≤ 0 then
        A
      else
        L_X8_sell S amount fuel (vp_updL (vp_updL (vp_updL A 6 ((A 6) - 1)) 5 (((vp_updL A 6 ((A 6) - 1)) 5) + (((vp_updL A 6 ((A 6) - 1)) 7) - (f_X8_cost (sMs_at S (vp_updL A 6 ((A 6) - 1))))))) 14 (((vp_updL (vp_updL A 6 ((A 6) - 1)) 5 (((vp_updL A 6 ((A 6) - 1)) 5) + (((vp_updL A 6 ((A 6) - 1)) 7) - (f_X8_cost (sMs_at S (vp_updL A 6 ((A 6) - 1))))))) 14) + 1))
  ) := rfl
noncomputable def f_X8_sellFor (S : zMs) (amount : Int64) : zMs := zsl (
  let A_e : Nat → Int64 := (L_X8_sell S amount (((gMs_at S) 6).toInt.toNat + 1) (gMs_at S))
  (sMs_at S A_e)
  )
set_option maxHeartbeats 4000000 in
set_option maxRecDepth 100000 in
theorem c_X8_sellFor (l : Launch) (D : va_G) (cy : Nat → ClassId) (m : Nat → Nat) (amount : Int64)  (S : zMs)  : zC l yX8_sellFor (zW yX8_sellFor cX8_sellFor 3 (Option.none : Option Jvm.ClassFile.FieldType)) { frames := 1, cells := 0, slots := 0, locals := 20 } D cy [.ref (m 0), .long amount] (WM cy m S) none (WM cy m (f_X8_sellFor S amount)) := by
  refine zC_of rfl (Nat.le_of_ble_eq_true rfl) zOk_v (fun E C hret => ?_)
  show zJ E 3 0 0 (WM cy m S) 0 [(0, .ref (m 0)), (1, .long amount)] []
  have loop_0 : ∀ (fuel : Nat) (A : Nat → Int64), (A 6).toInt.toNat < fuel → (zJ E 3 0 0 (WM cy m (sMs_at S (L_X8_sell S amount fuel A))) 69 [(0, .ref (m 0)), (1, .long amount)] []) → zJ E 3 0 0 (WM cy m (sMs_at S A)) 0 [(0, .ref (m 0)), (1, .long amount)] [] := by
    intro fuel
    induction fuel with
    | zero => intro A hmu; exact absurd hmu (Nat.not_lt_zero _)
    | succ fuel ih_0 =>
      intro A hmu_0 K_0
      refine zj_aload_n C dX8_sellFor_0 0 rfl ?_
      refine zj_get C 0 8 0 (v := .ref (m 1)) inZ8 rfl rfl (by decide) tg_677 rfl dX8_sellFor_1 ?_
      refine zj_iconst C (v := (nI 5)) dX8_sellFor_4 (by decide) ?_
      refine zj_lald C 1 (f := A) 5 (by decide) (vp_in_nI (by decide) (by decide)) rfl dX8_sellFor_5 ?_
      refine zj_lload_n C dX8_sellFor_6 1 rfl ?_
      refine zj_lcmp_ge C 69 dX8_sellFor_7 dX8_sellFor_8 (by decide) (fun c => ?_) (fun c => ?_)
      · have c_7 : amount ≤ (A 5) := c
        have e_0 : (L_X8_sell S amount (fuel + 1) A) = A := by refine (L_X8_sell_s S amount fuel A).trans ?_; refine (if_pos c_7).trans ?_; rfl
        rw [e_0] at K_0
        exact K_0 
      · have c_7 : ¬ (amount ≤ (A 5)) := c
        refine zj_aload_n C dX8_sellFor_11 0 rfl ?_
        refine zj_get C 0 8 0 (v := .ref (m 1)) inZ8 rfl rfl (by decide) tg_677 rfl dX8_sellFor_12 ?_
        refine zj_bipush C (v := (nI 6)) dX8_sellFor_15 (by decide) ?_
        refine zj_lald C 1 (f := A) 6 (by decide) (vp_in_nI (by decide) (by decide)) rfl dX8_sellFor_17 ?_
        refine zj_lconst C (v := 0) dX8_sellFor_18 (by decide) ?_
        refine zj_lcmp_le C 69 dX8_sellFor_19 dX8_sellFor_20 (by decide) (fun c => ?_) (fun c => ?_)
        · have c_19 : (A 6) ≤ 0 := c
          have e_0 : (L_X8_sell S amount (fuel + 1) A) = A := by refine (L_X8_sell_s S amount fuel A).trans ?_; refine (if_neg c_7).trans ?_; refine (if_pos c_19).trans ?_; rfl
          rw [e_0] at K_0
          exact K_0 
        · have c_19 : ¬ ((A 6) ≤ 0) := c
          refine zj_aload_n C dX8_sellFor_23 0 rfl ?_
          refine zj_get C 0 8 0 (v := .ref (m 1)) inZ8 rfl rfl (by decide) tg_677 rfl dX8_sellFor_24 ?_
          refine zj_bipush C (v := (nI 6)) dX8_sellFor_27 (by decide) ?_
          refine zj_dup2 C dX8_sellFor_29 rfl rfl ?_
          refine zj_lald C 1 (f := A) 6 (by decide) (vp_in_nI (by decide) (by decide)) rfl dX8_sellFor_30 ?_
          refine zj_lconst C (v := 1) dX8_sellFor_31 (by decide) ?_
          refine zj_lsub C dX8_sellFor_32 ?_
          refine zj_last C 1 (f := A) (ws' := (WM cy m (sMs_at S (vp_updL A 6 ((A 6) - 1))))) 6 (by decide) (vp_in_nI (by decide) (by decide)) rfl dX8_sellFor_33 rfl ?_
          refine zj_aload_n C dX8_sellFor_34 0 rfl ?_
          refine zj_get C 0 8 0 (v := .ref (m 1)) inZ8 rfl rfl (by decide) tg_677 rfl dX8_sellFor_35 ?_
          refine zj_iconst C (v := (nI 5)) dX8_sellFor_38 (by decide) ?_
          refine zj_dup2 C dX8_sellFor_39 rfl rfl ?_
          refine zj_lald C 1 (f := (vp_updL A 6 ((A 6) - 1))) 5 (by decide) (vp_in_nI (by decide) (by decide)) rfl dX8_sellFor_40 ?_
          refine zj_aload_n C dX8_sellFor_41 0 rfl ?_
          refine zj_get C 0 8 0 (v := .ref (m 1)) inZ8 rfl rfl (by decide) tg_677 rfl dX8_sellFor_42 ?_
          refine zj_bipush C (v := (nI 7)) dX8_sellFor_45 (by decide) ?_
          refine zj_lald C 1 (f := (vp_updL A 6 ((A 6) - 1))) 7 (by decide) (vp_in_nI (by decide) (by decide)) rfl dX8_sellFor_47 ?_
          refine zj_aload_n C dX8_sellFor_48 0 rfl ?_
          refine zj_callV C (nn := 10) (ws' := (WM cy m (sMs_at S (vp_updL A 6 ((A 6) - 1))))) (st := [.long ((vp_updL A 6 ((A 6) - 1)) 7), .long ((vp_updL A 6 ((A 6) - 1)) 5), .int (nI 5), .ref (m 1)]) (st1 := [.long (f_X8_cost (sMs_at S (vp_updL A 6 ((A 6) - 1)))), .long ((vp_updL A 6 ((A 6) - 1)) 7), .long ((vp_updL A 6 ((A 6) - 1)) 5), .int (nI 5), .ref (m 1)]) 0 8 [0, 1, 2, 3, 4, 5, 6, 7, 8, 9] (c_X8_cost l D cy m  (sMs_at S (vp_updL A 6 ((A 6) - 1))) ) (zg_V tg_865 tg_862 tg_864 tgp_41 tg_9) ⟨rfl, hdZ_X8_cost⟩ ⟨rfl, rfl⟩ ⟨by decide, by decide⟩ rfl rfl rfl (by decide) ⟨rfl, rfl⟩ rfl rfl (Nat.le_of_ble_eq_true rfl) dX8_sellFor_49 rfl rfl ?_
          refine zj_lsub C dX8_sellFor_52 ?_
          refine zj_ladd C dX8_sellFor_53 ?_
          refine zj_last C 1 (f := (vp_updL A 6 ((A 6) - 1))) (ws' := (WM cy m (sMs_at S (vp_updL (vp_updL A 6 ((A 6) - 1)) 5 (((vp_updL A 6 ((A 6) - 1)) 5) + (((vp_updL A 6 ((A 6) - 1)) 7) - (f_X8_cost (sMs_at S (vp_updL A 6 ((A 6) - 1)))))))))) 5 (by decide) (vp_in_nI (by decide) (by decide)) rfl dX8_sellFor_54 rfl ?_
          refine zj_aload_n C dX8_sellFor_55 0 rfl ?_
          refine zj_get C 0 8 0 (v := .ref (m 1)) inZ8 rfl rfl (by decide) tg_677 rfl dX8_sellFor_56 ?_
          refine zj_bipush C (v := (nI 14)) dX8_sellFor_59 (by decide) ?_
          refine zj_dup2 C dX8_sellFor_61 rfl rfl ?_
          refine zj_lald C 1 (f := (vp_updL (vp_updL A 6 ((A 6) - 1)) 5 (((vp_updL A 6 ((A 6) - 1)) 5) + (((vp_updL A 6 ((A 6) - 1)) 7) - (f_X8_cost (sMs_at S (vp_updL A 6 ((A 6) - 1)))))))) 14 (by decide) (vp_in_nI (by decide) (by decide)) rfl dX8_sellFor_62 ?_
          refine zj_lconst C (v := 1) dX8_sellFor_63 (by decide) ?_
          refine zj_ladd C dX8_sellFor_64 ?_
          refine zj_last C 1 (f := (vp_updL (vp_updL A 6 ((A 6) - 1)) 5 (((vp_updL A 6 ((A 6) - 1)) 5) + (((vp_updL A 6 ((A 6) - 1)) 7) - (f_X8_cost (sMs_at S (vp_updL A 6 ((A 6) - 1)))))))) (ws' := (WM cy m (sMs_at S (vp_updL (vp_updL (vp_updL A 6 ((A 6) - 1)) 5 (((vp_updL A 6 ((A 6) - 1)) 5) + (((vp_updL A 6 ((A 6) - 1)) 7) - (f_X8_cost (sMs_at S (vp_updL A 6 ((A 6) - 1))))))) 14 (((vp_updL (vp_updL A 6 ((A 6) - 1)) 5 (((vp_updL A 6 ((A 6) - 1)) 5) + (((vp_updL A 6 ((A 6) - 1)) 7) - (f_X8_cost (sMs_at S (vp_updL A 6 ((A 6) - 1))))))) 14) + 1))))) 14 (by decide) (vp_in_nI (by decide) (by decide)) rfl dX8_sellFor_65 rfl ?_
          refine zj_goto C 0 dX8_sellFor_66 (by decide) ?_
          have hn_mu : ((vp_updL (vp_updL (vp_updL A 6 ((A 6) - 1)) 5 (((vp_updL A 6 ((A 6) - 1)) 5) + (((vp_updL A 6 ((A 6) - 1)) 7) - (f_X8_cost (sMs_at S (vp_updL A 6 ((A 6) - 1))))))) 14 (((vp_updL (vp_updL A 6 ((A 6) - 1)) 5 (((vp_updL A 6 ((A 6) - 1)) 5) + (((vp_updL A 6 ((A 6) - 1)) 7) - (f_X8_cost (sMs_at S (vp_updL A 6 ((A 6) - 1))))))) 14) + 1)) 6).toInt.toNat < fuel := (Nat.lt_of_lt_of_le (zdec2 c_19) (Nat.le_of_lt_succ hmu_0))
          have e_0 : (L_X8_sell S amount (fuel + 1) A) = (L_X8_sell S amount fuel (vp_updL (vp_updL (vp_updL A 6 ((A 6) - 1)) 5 (((vp_updL A 6 ((A 6) - 1)) 5) + (((vp_updL A 6 ((A 6) - 1)) 7) - (f_X8_cost (sMs_at S (vp_updL A 6 ((A 6) - 1))))))) 14 (((vp_updL (vp_updL A 6 ((A 6) - 1)) 5 (((vp_updL A 6 ((A 6) - 1)) 5) + (((vp_updL A 6 ((A 6) - 1)) 7) - (f_X8_cost (sMs_at S (vp_updL A 6 ((A 6) - 1))))))) 14) + 1))) := by refine (L_X8_sell_s S amount fuel A).trans ?_; refine (if_neg c_7).trans ?_; refine (if_neg c_19).trans ?_; rfl
          rw [e_0] at K_0
          exact ih_0 (vp_updL (vp_updL (vp_updL A 6 ((A 6) - 1)) 5 (((vp_updL A 6 ((A 6) - 1)) 5) + (((vp_updL A 6 ((A 6) - 1)) 7) - (f_X8_cost (sMs_at S (vp_updL A 6 ((A 6) - 1))))))) 14 (((vp_updL (vp_updL A 6 ((A 6) - 1)) 5 (((vp_updL A 6 ((A 6) - 1)) 5) + (((vp_updL A 6 ((A 6) - 1)) 7) - (f_X8_cost (sMs_at S (vp_updL A 6 ((A 6) - 1))))))) 14) + 1))  hn_mu K_0
  have K_0 : ∀ (A_e : Nat → Int64), A_e = (L_X8_sell S amount (((gMs_at S) 6).toInt.toNat + 1) (gMs_at S)) → zJ E 3 0 0 (WM cy m (sMs_at S A_e)) 69 [(0, .ref (m 0)), (1, .long amount)] [] := by
    intro A_e hA_e 
    subst hA_e
    have e : f_X8_sellFor S amount = (sMs_at S (L_X8_sell S amount (((gMs_at S) 6).toInt.toNat + 1) (gMs_at S))) := by refine (zsl_e _).trans ?_; rfl
    rw [e] at hret
    exact hret _ _ dX8_sellFor_69
  refine zj_eq (ws' := (WM cy m (sMs_at S (gMs_at S)))) rfl rfl rfl rfl ?_
  exact loop_0 (((gMs_at S) 6).toInt.toNat + 1) (gMs_at S)  (Nat.lt_succ_self _) (K_0 _ rfl)

noncomputable def L_X8_sd1 (S : zMs) (to : Nat) : Nat → (Int64) → (Nat) → (Int64) × (Nat)
  | 0, sm, j => (sm, j)
  | fuel + 1, sm, j =>
    if to ≤ j then
      (sm, j)
    else
      L_X8_sd1 S to fuel (sm + (f_X8_ofOrder S 122 j 1)) (j + 1)
theorem L_X8_sd1_s (S : zMs) (to : Nat) (fuel : Nat) (sm : Int64) (j : Nat) : L_X8_sd1 S to (fuel + 1) sm j = (
    if to ≤ j then
      (sm, j)
    else
      L_X8_sd1 S to fuel (sm + (f_X8_ofOrder S 122 j 1)) (j + 1)
  ) := rfl
noncomputable def L_X8_sd2 (S : zMs) (to : Nat) (left : Int64) (sm_e : Int64) : Nat → (Nat → Int64) → (Int64) → (Nat) → (Nat → Int64) × (Int64) × (Nat)
  | 0, sh, rest, k => (sh, rest, k)
  | fuel + 1, sh, rest, k =>
    if to ≤ k then
      (sh, rest, k)
    else
      let x64_0 : Int64 := (if left < sm_e then (((f_X8_ofOrder (sMs_sh S sh) 122 k 1) * left) / sm_e) else (f_X8_ofOrder (sMs_sh S sh) 122 k 1))
      L_X8_sd2 S to left sm_e fuel (vp_updL sh k x64_0) (rest - ((vp_updL sh k x64_0) k)) (k + 1)
theorem L_X8_sd2_s (S : zMs) (to : Nat) (left : Int64) (sm_e : Int64) (fuel : Nat) (sh : Nat → Int64) (rest : Int64) (k : Nat) : L_X8_sd2 S to left sm_e (fuel + 1) sh rest k = (
    if to ≤ k then
      (sh, rest, k)
    else
      let x64_0 : Int64 := (if left < sm_e then (((f_X8_ofOrder (sMs_sh S sh) 122 k 1) * left) / sm_e) else (f_X8_ofOrder (sMs_sh S sh) 122 k 1))
      L_X8_sd2 S to left sm_e fuel (vp_updL sh k x64_0) (rest - ((vp_updL sh k x64_0) k)) (k + 1)
  ) := rfl
noncomputable def L_X8_sd3 (S : zMs) (to : Nat) (left : Int64) (sm_e : Int64) : Nat → (Nat → Int64) → (Int64) → (Nat) → (Nat → Int64) × (Int64) × (Nat)
  | 0, sh, rest, k => (sh, rest, k)
  | fuel + 1, sh, rest, k =>
    if to ≤ k then
      (sh, rest, k)
    else
      if sm_e ≤ left then
        (sh, rest, k)
      else
        if rest ≤ 0 then
          (sh, rest, k)
        else
          L_X8_sd3 S to left sm_e fuel (vp_updL sh k ((sh k) + 1)) (rest - 1) (k + 1)
theorem L_X8_sd3_s (S : zMs) (to : Nat) (left : Int64) (sm_e : Int64) (fuel : Nat) (sh : Nat → Int64) (rest : Int64) (k : Nat) : L_X8_sd3 S to left sm_e (fuel + 1) sh rest k = (
    if to ≤ k then
      (sh, rest, k)
    else
      if sm_e ≤ left then
        (sh, rest, k)
      else
        if rest ≤ 0 then
          (sh, rest, k)
        else
          L_X8_sd3 S to left sm_e fuel (vp_updL sh k ((sh k) + 1)) (rest - 1) (k + 1)
  ) := rfl
noncomputable def f_X8_shareDay (S : zMs) (fr : Nat) (to : Nat) (left : Int64) : Int64 × zMs := zsl (
  let sm_e : Int64 := ((L_X8_sd1 S to (to - fr + 1) 0 fr).1)
  let j_e : Nat := ((L_X8_sd1 S to (to - fr + 1) 0 fr).2)
  let sh1 : Nat → Int64 := ((L_X8_sd2 S to left sm_e (to - fr + 1) (gMs_sh S) left fr).1)
  let rest1 : Int64 := ((L_X8_sd2 S to left sm_e (to - fr + 1) (gMs_sh S) left fr).2.1)
  let k1 : Nat := ((L_X8_sd2 S to left sm_e (to - fr + 1) (gMs_sh S) left fr).2.2)
  let sh2 : Nat → Int64 := ((L_X8_sd3 S to left sm_e (to - fr + 1) sh1 rest1 fr).1)
  let rest2 : Int64 := ((L_X8_sd3 S to left sm_e (to - fr + 1) sh1 rest1 fr).2.1)
  let k2 : Nat := ((L_X8_sd3 S to left sm_e (to - fr + 1) sh1 rest1 fr).2.2)
  (rest2, (sMs_sh S sh2))
  )
set_option maxHeartbeats 4000000 in
set_option maxRecDepth 100000 in
theorem c_X8_shareDay (l : Launch) (D : va_G) (cy : Nat → ClassId) (m : Nat → Nat) (fr : Nat) (to : Nat) (left : Int64)  (S : zMs) (ht : to ≤ 20) (hf : fr ≤ 20) (hl : 0 ≤ left) : zC l yX8_shareDay (zW yX8_shareDay cX8_shareDay 12 (Option.some Jvm.ClassFile.FieldType.long)) { frames := 1, cells := 0, slots := 0, locals := 23 } D cy [.ref (m 0), .int (nI fr), .int (nI to), .long left] (WM cy m S) (some (.long ((f_X8_shareDay S fr to left).1))) (WM cy m ((f_X8_shareDay S fr to left).2)) := by
  refine zC_of rfl (Nat.le_of_ble_eq_true rfl) (zOk_l _) (fun E C hret => ?_)
  show zJ E 12 0 0 (WM cy m S) 0 [(0, .ref (m 0)), (1, .int (nI fr)), (2, .int (nI to)), (3, .long left)] []
  refine zj_lconst C (v := 0) dX8_shareDay_0 (by decide) ?_
  refine zj_lstore C (L' := [(5, .long 0), (0, .ref (m 0)), (1, .int (nI fr)), (2, .int (nI to)), (3, .long left)]) dX8_shareDay_1 (by decide) rfl ?_
  refine zj_iload_n C dX8_shareDay_3 2 rfl ?_
  refine zj_istore C (L' := [(7, .int (nI fr)), (5, .long 0), (0, .ref (m 0)), (1, .int (nI fr)), (2, .int (nI to)), (3, .long left)]) dX8_shareDay_4 (by decide) rfl ?_
  have loop_6 : ∀ (fuel : Nat) (sm : Int64) (j : Nat), (hj : j ≤ 20) → to - j < fuel → (zJ E 12 0 0 (WM cy m S) 32 [(0, .ref (m 0)), (1, .int (nI fr)), (2, .int (nI to)), (3, .long left), (5, .long ((L_X8_sd1 S to fuel sm j).1))] []) → zJ E 12 0 0 (WM cy m S) 6 [(0, .ref (m 0)), (1, .int (nI fr)), (2, .int (nI to)), (3, .long left), (5, .long sm), (7, .int (nI j))] [] := by
    intro fuel
    induction fuel with
    | zero => intro sm j hj hmu; exact absurd hmu (Nat.not_lt_zero _)
    | succ fuel ih_6 =>
      intro sm j hj hmu_6 K_6
      refine zj_iload C dX8_shareDay_6 5 rfl ?_
      refine zj_iload_n C dX8_shareDay_8 2 rfl ?_
      refine zj_icmp_ge C 32 dX8_shareDay_9 (by decide) (fun c => ?_) (fun c => ?_)
      · have c_9 : to ≤ j := ((nI_leI (by omega) (by omega)).mp c)
        refine zj_sub (L' := [(0, .ref (m 0)), (1, .int (nI fr)), (2, .int (nI to)), (3, .long left), (5, .long sm)]) [0, 1, 2, 3, 4] rfl ?_
        have e_6 : (L_X8_sd1 S to (fuel + 1) sm j) = (sm, j) := by refine (L_X8_sd1_s S to fuel sm j).trans ?_; refine (if_pos c_9).trans ?_; rfl
        rw [e_6] at K_6
        exact K_6 
      · have c_9 : ¬ (to ≤ j) := (fun q => c ((nI_leI (by omega) (by omega)).mpr q))
        refine zj_lload C dX8_shareDay_12 4 rfl ?_
        refine zj_aload_n C dX8_shareDay_14 0 rfl ?_
        refine zj_bipush C (v := (nI 122)) dX8_shareDay_15 (by decide) ?_
        refine zj_iload C dX8_shareDay_17 5 rfl ?_
        refine zj_iconst C (v := (nI 1)) dX8_shareDay_19 (by decide) ?_
        refine zj_callV C (nn := 10) (ws' := (WM cy m S)) (st := [.long sm]) (st1 := [.long (f_X8_ofOrder S 122 j 1), .long sm]) 0 8 [0, 1, 2, 3, 4, 5, 6, 7, 8, 9] (c_X8_ofOrder l D cy m 122 j 1 S (by omega)) (zg_V tg_760 tg_757 tg_759 tgp_18 tg_9) ⟨rfl, hdZ_X8_ofOrder⟩ ⟨rfl, rfl⟩ ⟨by decide, by decide⟩ rfl rfl rfl (by decide) ⟨rfl, rfl⟩ rfl rfl (Nat.le_of_ble_eq_true rfl) dX8_shareDay_20 rfl rfl ?_
        refine zj_ladd C dX8_shareDay_23 ?_
        refine zj_lstore C (L' := [(5, .long (sm + (f_X8_ofOrder S 122 j 1))), (0, .ref (m 0)), (1, .int (nI fr)), (2, .int (nI to)), (3, .long left), (7, .int (nI j))]) dX8_shareDay_24 (by decide) rfl ?_
        refine zj_iinc C (j := 5) (v := (nI (j + 1))) (L' := [(7, .int (nI (j + 1))), (5, .long (sm + (f_X8_ofOrder S 122 j 1))), (0, .ref (m 0)), (1, .int (nI fr)), (2, .int (nI to)), (3, .long left)]) dX8_shareDay_26 rfl (nI_1 _) (by decide) rfl ?_
        refine zj_goto C 6 dX8_shareDay_29 (by decide) ?_
        refine zj_sub (L' := [(0, .ref (m 0)), (1, .int (nI fr)), (2, .int (nI to)), (3, .long left), (5, .long (sm + (f_X8_ofOrder S 122 j 1))), (7, .int (nI (j + 1)))]) [2, 3, 4, 5, 1, 0] rfl ?_
        have hn_hj : (j + 1) ≤ 20 := (by omega)
        have hn_mu : to - (j + 1) < fuel := (by omega)
        have e_6 : (L_X8_sd1 S to (fuel + 1) sm j) = (L_X8_sd1 S to fuel (sm + (f_X8_ofOrder S 122 j 1)) (j + 1)) := by refine (L_X8_sd1_s S to fuel sm j).trans ?_; refine (if_neg c_9).trans ?_; rfl
        rw [e_6] at K_6
        exact ih_6 (sm + (f_X8_ofOrder S 122 j 1)) (j + 1) hn_hj hn_mu K_6
  have K_6 : ∀ (sm_e : Int64) (j_e : Nat), sm_e = ((L_X8_sd1 S to (to - fr + 1) 0 fr).1) → j_e = ((L_X8_sd1 S to (to - fr + 1) 0 fr).2) → zJ E 12 0 0 (WM cy m S) 32 [(0, .ref (m 0)), (1, .int (nI fr)), (2, .int (nI to)), (3, .long left), (5, .long sm_e)] [] := by
    intro sm_e j_e hsm_e hj_e 
    refine zj_lload_n C dX8_shareDay_32 3 rfl ?_
    refine zj_lstore C (L' := [(7, .long left), (0, .ref (m 0)), (1, .int (nI fr)), (2, .int (nI to)), (3, .long left), (5, .long sm_e)]) dX8_shareDay_33 (by decide) rfl ?_
    refine zj_iload_n C dX8_shareDay_35 2 rfl ?_
    refine zj_istore C (L' := [(9, .int (nI fr)), (7, .long left), (0, .ref (m 0)), (1, .int (nI fr)), (2, .int (nI to)), (3, .long left), (5, .long sm_e)]) dX8_shareDay_36 (by decide) rfl ?_
    have loop_38 : ∀ (fuel : Nat) (sh : Nat → Int64) (rest : Int64) (k : Nat), (hj : k ≤ 20) → to - k < fuel → (zJ E 12 0 0 (WM cy m (sMs_sh S ((L_X8_sd2 S to left sm_e fuel sh rest k).1))) 99 [(0, .ref (m 0)), (1, .int (nI fr)), (2, .int (nI to)), (3, .long left), (5, .long sm_e), (7, .long ((L_X8_sd2 S to left sm_e fuel sh rest k).2.1))] []) → zJ E 12 0 0 (WM cy m (sMs_sh S sh)) 38 [(0, .ref (m 0)), (1, .int (nI fr)), (2, .int (nI to)), (3, .long left), (5, .long sm_e), (7, .long rest), (9, .int (nI k))] [] := by
      intro fuel
      induction fuel with
      | zero => intro sh rest k hj hmu; exact absurd hmu (Nat.not_lt_zero _)
      | succ fuel ih_38 =>
        intro sh rest k hj hmu_38 K_38
        refine zj_iload C dX8_shareDay_38 6 rfl ?_
        refine zj_iload_n C dX8_shareDay_40 2 rfl ?_
        refine zj_icmp_ge C 99 dX8_shareDay_41 (by decide) (fun c => ?_) (fun c => ?_)
        · have c_41 : to ≤ k := ((nI_leI (by omega) (by omega)).mp c)
          refine zj_sub (L' := [(0, .ref (m 0)), (1, .int (nI fr)), (2, .int (nI to)), (3, .long left), (5, .long sm_e), (7, .long rest)]) [0, 1, 2, 3, 4, 5] rfl ?_
          have e_38 : (L_X8_sd2 S to left sm_e (fuel + 1) sh rest k) = (sh, rest, k) := by refine (L_X8_sd2_s S to left sm_e fuel sh rest k).trans ?_; refine (if_pos c_41).trans ?_; rfl
          rw [e_38] at K_38
          exact K_38 
        · have c_41 : ¬ (to ≤ k) := (fun q => c ((nI_leI (by omega) (by omega)).mpr q))
          refine zj_aload_n C dX8_shareDay_44 0 rfl ?_
          refine zj_bipush C (v := (nI 122)) dX8_shareDay_45 (by decide) ?_
          refine zj_iload C dX8_shareDay_47 6 rfl ?_
          refine zj_iconst C (v := (nI 1)) dX8_shareDay_49 (by decide) ?_
          refine zj_callV C (nn := 10) (ws' := (WM cy m (sMs_sh S sh))) (st := []) (st1 := [.long (f_X8_ofOrder (sMs_sh S sh) 122 k 1)]) 0 8 [0, 1, 2, 3, 4, 5, 6, 7, 8, 9] (c_X8_ofOrder l D cy m 122 k 1 (sMs_sh S sh) (by omega)) (zg_V tg_760 tg_757 tg_759 tgp_18 tg_9) ⟨rfl, hdZ_X8_ofOrder⟩ ⟨rfl, rfl⟩ ⟨by decide, by decide⟩ rfl rfl rfl (by decide) ⟨rfl, rfl⟩ rfl rfl (Nat.le_of_ble_eq_true rfl) dX8_shareDay_50 rfl rfl ?_
          refine zj_lstore C (L' := [(10, .long (f_X8_ofOrder (sMs_sh S sh) 122 k 1)), (0, .ref (m 0)), (1, .int (nI fr)), (2, .int (nI to)), (3, .long left), (5, .long sm_e), (7, .long rest), (9, .int (nI k))]) dX8_shareDay_53 (by decide) rfl ?_
          refine zj_aload_n C dX8_shareDay_55 1 rfl ?_
          refine zj_get C 0 8 7 (v := .ref (m 6)) inZ8 rfl rfl (by decide) tg_684 rfl dX8_shareDay_56 ?_
          refine zj_iload C dX8_shareDay_59 7 rfl ?_
          refine zj_lload C dX8_shareDay_61 5 rfl ?_
          refine zj_lload_n C dX8_shareDay_63 4 rfl ?_
          have J_64 : ∀ (x64_0 : Int64), x64_0 = (if left < sm_e then (((f_X8_ofOrder (sMs_sh S sh) 122 k 1) * left) / sm_e) else (f_X8_ofOrder (sMs_sh S sh) 122 k 1)) → zJ E 12 0 0 (WM cy m (sMs_sh S sh)) 80 [(10, .long (f_X8_ofOrder (sMs_sh S sh) 122 k 1)), (0, .ref (m 0)), (1, .int (nI fr)), (2, .int (nI to)), (3, .long left), (5, .long sm_e), (7, .long rest), (9, .int (nI k))] [.long x64_0, .int (nI k), .ref (m 6)] := by
            intro x64_0 hx64_0
            refine zj_last C 6 (f := sh) (ws' := (WM cy m (sMs_sh S (vp_updL sh k x64_0)))) k (nI_clamp (by omega)) (vp_in_nI (by omega) (by omega)) rfl dX8_shareDay_80 rfl ?_
            refine zj_lload C dX8_shareDay_81 6 rfl ?_
            refine zj_aload_n C dX8_shareDay_83 1 rfl ?_
            refine zj_get C 0 8 7 (v := .ref (m 6)) inZ8 rfl rfl (by decide) tg_684 rfl dX8_shareDay_84 ?_
            refine zj_iload C dX8_shareDay_87 7 rfl ?_
            refine zj_lald C 6 (f := (vp_updL sh k x64_0)) k (nI_clamp (by omega)) (vp_in_nI (by omega) (by omega)) rfl dX8_shareDay_89 ?_
            refine zj_lsub C dX8_shareDay_90 ?_
            refine zj_lstore C (L' := [(7, .long (rest - ((vp_updL sh k x64_0) k))), (10, .long (f_X8_ofOrder (sMs_sh S sh) 122 k 1)), (0, .ref (m 0)), (1, .int (nI fr)), (2, .int (nI to)), (3, .long left), (5, .long sm_e), (9, .int (nI k))]) dX8_shareDay_91 (by decide) rfl ?_
            refine zj_iinc C (j := 7) (v := (nI (k + 1))) (L' := [(9, .int (nI (k + 1))), (7, .long (rest - ((vp_updL sh k x64_0) k))), (10, .long (f_X8_ofOrder (sMs_sh S sh) 122 k 1)), (0, .ref (m 0)), (1, .int (nI fr)), (2, .int (nI to)), (3, .long left), (5, .long sm_e)]) dX8_shareDay_93 rfl (nI_1 _) (by decide) rfl ?_
            refine zj_goto C 38 dX8_shareDay_96 (by decide) ?_
            refine zj_sub (L' := [(0, .ref (m 0)), (1, .int (nI fr)), (2, .int (nI to)), (3, .long left), (5, .long sm_e), (7, .long (rest - ((vp_updL sh k x64_0) k))), (9, .int (nI (k + 1)))]) [3, 4, 5, 6, 7, 1, 0] rfl ?_
            have hn_hj : (k + 1) ≤ 20 := (by omega)
            have hn_mu : to - (k + 1) < fuel := (by omega)
            subst hx64_0
            have e_38 : (L_X8_sd2 S to left sm_e (fuel + 1) sh rest k) = (L_X8_sd2 S to left sm_e fuel (vp_updL sh k (if left < sm_e then (((f_X8_ofOrder (sMs_sh S sh) 122 k 1) * left) / sm_e) else (f_X8_ofOrder (sMs_sh S sh) 122 k 1))) (rest - ((vp_updL sh k (if left < sm_e then (((f_X8_ofOrder (sMs_sh S sh) 122 k 1) * left) / sm_e) else (f_X8_ofOrder (sMs_sh S sh) 122 k 1))) k)) (k + 1)) := by refine (L_X8_sd2_s S to left sm_e fuel sh rest k).trans ?_; refine (if_neg c_41).trans ?_; rfl
            rw [e_38] at K_38
            exact ih_38 (vp_updL sh k (if left < sm_e then (((f_X8_ofOrder (sMs_sh S sh) 122 k 1) * left) / sm_e) else (f_X8_ofOrder (sMs_sh S sh) 122 k 1))) (rest - ((vp_updL sh k (if left < sm_e then (((f_X8_ofOrder (sMs_sh S sh) 122 k 1) * left) / sm_e) else (f_X8_ofOrder (sMs_sh S sh) 122 k 1))) k)) (k + 1) hn_hj hn_mu K_38
          refine zj_lcmp_gt C 73 dX8_shareDay_64 dX8_shareDay_65 (by decide) (fun c => ?_) (fun c => ?_)
          · have c_64 : left < sm_e := c
            refine zj_lload C dX8_shareDay_73 0 rfl ?_
            refine zj_lload_n C dX8_shareDay_75 4 rfl ?_
            refine zj_lmul C dX8_shareDay_76 ?_
            refine zj_lload C dX8_shareDay_77 5 rfl ?_
            refine zj_ldiv C dX8_shareDay_79 (zne_of2 hl c_64) ?_
            exact J_64 (((f_X8_ofOrder (sMs_sh S sh) 122 k 1) * left) / sm_e) (by simp only [if_neg c_41, if_pos c_64]; first | done | assumption)
          · have c_64 : ¬ (left < sm_e) := c
            refine zj_lload C dX8_shareDay_68 0 rfl ?_
            refine zj_goto C 80 dX8_shareDay_70 (by decide) ?_
            exact J_64 (f_X8_ofOrder (sMs_sh S sh) 122 k 1) (by simp only [if_neg c_41, if_neg c_64]; first | done | assumption)
    have K_38 : ∀ (sh1 : Nat → Int64) (rest1 : Int64) (k1 : Nat), sh1 = ((L_X8_sd2 S to left sm_e (to - fr + 1) (gMs_sh S) left fr).1) → rest1 = ((L_X8_sd2 S to left sm_e (to - fr + 1) (gMs_sh S) left fr).2.1) → k1 = ((L_X8_sd2 S to left sm_e (to - fr + 1) (gMs_sh S) left fr).2.2) → zJ E 12 0 0 (WM cy m (sMs_sh S sh1)) 99 [(0, .ref (m 0)), (1, .int (nI fr)), (2, .int (nI to)), (3, .long left), (5, .long sm_e), (7, .long rest1)] [] := by
      intro sh1 rest1 k1 hsh1 hrest1 hk1 
      refine zj_iload_n C dX8_shareDay_99 1 rfl ?_
      refine zj_istore C (L' := [(9, .int (nI fr)), (0, .ref (m 0)), (1, .int (nI fr)), (2, .int (nI to)), (3, .long left), (5, .long sm_e), (7, .long rest1)]) dX8_shareDay_100 (by decide) rfl ?_
      have loop_102 : ∀ (fuel : Nat) (sh : Nat → Int64) (rest : Int64) (k : Nat), (hj : k ≤ 20) → to - k < fuel → (zJ E 12 0 0 (WM cy m (sMs_sh S ((L_X8_sd3 S to left sm_e fuel sh rest k).1))) 145 [(0, .ref (m 0)), (1, .int (nI fr)), (2, .int (nI to)), (3, .long left), (5, .long sm_e), (7, .long ((L_X8_sd3 S to left sm_e fuel sh rest k).2.1))] []) → zJ E 12 0 0 (WM cy m (sMs_sh S sh)) 102 [(0, .ref (m 0)), (1, .int (nI fr)), (2, .int (nI to)), (3, .long left), (5, .long sm_e), (7, .long rest), (9, .int (nI k))] [] := by
        intro fuel
        induction fuel with
        | zero => intro sh rest k hj hmu; exact absurd hmu (Nat.not_lt_zero _)
        | succ fuel ih_102 =>
          intro sh rest k hj hmu_102 K_102
          refine zj_iload C dX8_shareDay_102 6 rfl ?_
          refine zj_iload_n C dX8_shareDay_104 2 rfl ?_
          refine zj_icmp_ge C 145 dX8_shareDay_105 (by decide) (fun c => ?_) (fun c => ?_)
          · have c_105 : to ≤ k := ((nI_leI (by omega) (by omega)).mp c)
            refine zj_sub (L' := [(0, .ref (m 0)), (1, .int (nI fr)), (2, .int (nI to)), (3, .long left), (5, .long sm_e), (7, .long rest)]) [0, 1, 2, 3, 4, 5] rfl ?_
            have e_102 : (L_X8_sd3 S to left sm_e (fuel + 1) sh rest k) = (sh, rest, k) := by refine (L_X8_sd3_s S to left sm_e fuel sh rest k).trans ?_; refine (if_pos c_105).trans ?_; rfl
            rw [e_102] at K_102
            exact K_102 
          · have c_105 : ¬ (to ≤ k) := (fun q => c ((nI_leI (by omega) (by omega)).mpr q))
            refine zj_lload C dX8_shareDay_108 4 rfl ?_
            refine zj_lload_n C dX8_shareDay_110 3 rfl ?_
            refine zj_lcmp_le C 145 dX8_shareDay_111 dX8_shareDay_112 (by decide) (fun c => ?_) (fun c => ?_)
            · have c_111 : sm_e ≤ left := c
              refine zj_sub (L' := [(0, .ref (m 0)), (1, .int (nI fr)), (2, .int (nI to)), (3, .long left), (5, .long sm_e), (7, .long rest)]) [0, 1, 2, 3, 4, 5] rfl ?_
              have e_102 : (L_X8_sd3 S to left sm_e (fuel + 1) sh rest k) = (sh, rest, k) := by refine (L_X8_sd3_s S to left sm_e fuel sh rest k).trans ?_; refine (if_neg c_105).trans ?_; refine (if_pos c_111).trans ?_; rfl
              rw [e_102] at K_102
              exact K_102 
            · have c_111 : ¬ (sm_e ≤ left) := c
              refine zj_lload C dX8_shareDay_115 5 rfl ?_
              refine zj_lconst C (v := 0) dX8_shareDay_117 (by decide) ?_
              refine zj_lcmp_le C 145 dX8_shareDay_118 dX8_shareDay_119 (by decide) (fun c => ?_) (fun c => ?_)
              · have c_118 : rest ≤ 0 := c
                refine zj_sub (L' := [(0, .ref (m 0)), (1, .int (nI fr)), (2, .int (nI to)), (3, .long left), (5, .long sm_e), (7, .long rest)]) [0, 1, 2, 3, 4, 5] rfl ?_
                have e_102 : (L_X8_sd3 S to left sm_e (fuel + 1) sh rest k) = (sh, rest, k) := by refine (L_X8_sd3_s S to left sm_e fuel sh rest k).trans ?_; refine (if_neg c_105).trans ?_; refine (if_neg c_111).trans ?_; refine (if_pos c_118).trans ?_; rfl
                rw [e_102] at K_102
                exact K_102 
              · have c_118 : ¬ (rest ≤ 0) := c
                refine zj_aload_n C dX8_shareDay_122 0 rfl ?_
                refine zj_get C 0 8 7 (v := .ref (m 6)) inZ8 rfl rfl (by decide) tg_684 rfl dX8_shareDay_123 ?_
                refine zj_iload C dX8_shareDay_126 6 rfl ?_
                refine zj_dup2 C dX8_shareDay_128 rfl rfl ?_
                refine zj_lald C 6 (f := sh) k (nI_clamp (by omega)) (vp_in_nI (by omega) (by omega)) rfl dX8_shareDay_129 ?_
                refine zj_lconst C (v := 1) dX8_shareDay_130 (by decide) ?_
                refine zj_ladd C dX8_shareDay_131 ?_
                refine zj_last C 6 (f := sh) (ws' := (WM cy m (sMs_sh S (vp_updL sh k ((sh k) + 1))))) k (nI_clamp (by omega)) (vp_in_nI (by omega) (by omega)) rfl dX8_shareDay_132 rfl ?_
                refine zj_lload C dX8_shareDay_133 5 rfl ?_
                refine zj_lconst C (v := 1) dX8_shareDay_135 (by decide) ?_
                refine zj_lsub C dX8_shareDay_136 ?_
                refine zj_lstore C (L' := [(7, .long (rest - 1)), (0, .ref (m 0)), (1, .int (nI fr)), (2, .int (nI to)), (3, .long left), (5, .long sm_e), (9, .int (nI k))]) dX8_shareDay_137 (by decide) rfl ?_
                refine zj_iinc C (j := 6) (v := (nI (k + 1))) (L' := [(9, .int (nI (k + 1))), (7, .long (rest - 1)), (0, .ref (m 0)), (1, .int (nI fr)), (2, .int (nI to)), (3, .long left), (5, .long sm_e)]) dX8_shareDay_139 rfl (nI_1 _) (by decide) rfl ?_
                refine zj_goto C 102 dX8_shareDay_142 (by decide) ?_
                refine zj_sub (L' := [(0, .ref (m 0)), (1, .int (nI fr)), (2, .int (nI to)), (3, .long left), (5, .long sm_e), (7, .long (rest - 1)), (9, .int (nI (k + 1)))]) [2, 3, 4, 5, 6, 1, 0] rfl ?_
                have hn_hj : (k + 1) ≤ 20 := (by omega)
                have hn_mu : to - (k + 1) < fuel := (by omega)
                have e_102 : (L_X8_sd3 S to left sm_e (fuel + 1) sh rest k) = (L_X8_sd3 S to left sm_e fuel (vp_updL sh k ((sh k) + 1)) (rest - 1) (k + 1)) := by refine (L_X8_sd3_s S to left sm_e fuel sh rest k).trans ?_; refine (if_neg c_105).trans ?_; refine (if_neg c_111).trans ?_; refine (if_neg c_118).trans ?_; rfl
                rw [e_102] at K_102
                exact ih_102 (vp_updL sh k ((sh k) + 1)) (rest - 1) (k + 1) hn_hj hn_mu K_102
      have K_102 : ∀ (sh2 : Nat → Int64) (rest2 : Int64) (k2 : Nat), sh2 = ((L_X8_sd3 S to left sm_e (to - fr + 1) sh1 rest1 fr).1) → rest2 = ((L_X8_sd3 S to left sm_e (to - fr + 1) sh1 rest1 fr).2.1) → k2 = ((L_X8_sd3 S to left sm_e (to - fr + 1) sh1 rest1 fr).2.2) → zJ E 12 0 0 (WM cy m (sMs_sh S sh2)) 145 [(0, .ref (m 0)), (1, .int (nI fr)), (2, .int (nI to)), (3, .long left), (5, .long sm_e), (7, .long rest2)] [] := by
        intro sh2 rest2 k2 hsh2 hrest2 hk2 
        refine zj_lload C dX8_shareDay_145 5 rfl ?_
        subst hk2
        subst hrest2
        subst hsh2
        subst hk1
        subst hrest1
        subst hsh1
        subst hj_e
        subst hsm_e
        have e : f_X8_shareDay S fr to left = (((L_X8_sd3 S to left ((L_X8_sd1 S to (to - fr + 1) 0 fr).1) (to - fr + 1) ((L_X8_sd2 S to left ((L_X8_sd1 S to (to - fr + 1) 0 fr).1) (to - fr + 1) (gMs_sh S) left fr).1) ((L_X8_sd2 S to left ((L_X8_sd1 S to (to - fr + 1) 0 fr).1) (to - fr + 1) (gMs_sh S) left fr).2.1) fr).2.1), (sMs_sh S ((L_X8_sd3 S to left ((L_X8_sd1 S to (to - fr + 1) 0 fr).1) (to - fr + 1) ((L_X8_sd2 S to left ((L_X8_sd1 S to (to - fr + 1) 0 fr).1) (to - fr + 1) (gMs_sh S) left fr).1) ((L_X8_sd2 S to left ((L_X8_sd1 S to (to - fr + 1) 0 fr).1) (to - fr + 1) (gMs_sh S) left fr).2.1) fr).1))) := by refine (zsl_e _).trans ?_; rfl
        rw [e] at hret
        exact hret _ _ dX8_shareDay_147
      refine zj_sub (L' := [(0, .ref (m 0)), (1, .int (nI fr)), (2, .int (nI to)), (3, .long left), (5, .long sm_e), (7, .long rest1), (9, .int (nI fr))]) [1, 2, 3, 4, 5, 6, 0] rfl ?_
      exact loop_102 (to - fr + 1) sh1 rest1 fr (by omega) (Nat.lt_succ_self _) (K_102 _ _ _ rfl rfl rfl)
    refine zj_sub (L' := [(0, .ref (m 0)), (1, .int (nI fr)), (2, .int (nI to)), (3, .long left), (5, .long sm_e), (7, .long left), (9, .int (nI fr))]) [2, 3, 4, 5, 6, 1, 0] rfl ?_
    refine zj_eq (ws' := (WM cy m (sMs_sh S (gMs_sh S)))) rfl rfl rfl rfl ?_
    exact loop_38 (to - fr + 1) (gMs_sh S) left fr (by omega) (Nat.lt_succ_self _) (K_38 _ _ _ rfl rfl rfl)
  refine zj_sub (L' := [(0, .ref (m 0)), (1, .int (nI fr)), (2, .int (nI to)), (3, .long left), (5, .long 0), (7, .int (nI fr))]) [2, 3, 4, 5, 1, 0] rfl ?_
  exact loop_6 (to - fr + 1) 0 fr (by omega) (Nat.lt_succ_self _) (K_6 _ _ rfl rfl)

theorem f_shareDay_sh (S : zMs) (fr to : Nat) (left : Int64) : (f_X8_shareDay S fr to left).2 = sMs_sh S (gMs_sh (f_X8_shareDay S fr to left).2) := by
  unfold f_X8_shareDay; rw [zsl_e]
/-- what the sharing out leaves is not below 0 -/
def ok_share (S : zMs) : Prop := ∀ (sh : Nat → Int64) (fr t : Nat) (left : Int64), 0 ≤ left → fr < t → t ≤ zcn S 122 → 0 ≤ (f_X8_shareDay (sMs_sh S sh) fr t left).1

noncomputable def L_X8_so1 (S : zMs) : Nat → (Nat → Int64) → (Nat) → (Nat → Int64) × (Nat)
  | 0, sh, k => (sh, k)
  | fuel + 1, sh, k =>
    if 20 ≤ k then
      (sh, k)
    else
      L_X8_so1 S fuel (vp_updL sh k 0) (k + 1)
theorem L_X8_so1_s (S : zMs) (fuel : Nat) (sh : Nat → Int64) (k : Nat) : L_X8_so1 S (fuel + 1) sh k = (
    if 20 ≤ k then
      (sh, k)
    else
      L_X8_so1 S fuel (vp_updL sh k 0) (k + 1)
  ) := rfl
noncomputable def L_X8_so3 (S : zMs) (sh : Nat → Int64) (fr : Nat) : Nat → (Nat) → (Nat)
  | 0, t => t
  | fuel + 1, t =>
    if (zcn S 122) ≤ t then
      t
    else
      if (f_X8_ofOrder (sMs_sh S sh) 122 t 2) = (f_X8_ofOrder (sMs_sh S sh) 122 fr 2) then
        L_X8_so3 S sh fr fuel (t + 1)
      else
        t
theorem L_X8_so3_s (S : zMs) (sh : Nat → Int64) (fr : Nat) (fuel : Nat) (t : Nat) : L_X8_so3 S sh fr (fuel + 1) t = (
    if (zcn S 122) ≤ t then
      t
    else
      if (f_X8_ofOrder (sMs_sh S sh) 122 t 2) = (f_X8_ofOrder (sMs_sh S sh) 122 fr 2) then
        L_X8_so3 S sh fr fuel (t + 1)
      else
        t
  ) := rfl
noncomputable def L_X8_so2 (S : zMs) : Nat → (Nat → Int64) → (Int64) → (Nat) → (Nat → Int64) × (Int64) × (Nat)
  | 0, sh, left, fr => (sh, left, fr)
  | fuel + 1, sh, left, fr =>
    if (zcn S 122) ≤ fr then
      (sh, left, fr)
    else
      if ((gMs_at S) 10) < (f_X8_ofOrder (sMs_sh S sh) 122 fr 2) then
        (sh, left, fr)
      else
        let t_e : Nat := (L_X8_so3 S sh fr (zcn S 122 - (fr + 1) + 1) (fr + 1))
        L_X8_so2 S fuel (gMs_sh ((f_X8_shareDay (sMs_sh S sh) fr t_e left).2)) ((f_X8_shareDay (sMs_sh S sh) fr t_e left).1) t_e
theorem L_X8_so2_s (S : zMs) (fuel : Nat) (sh : Nat → Int64) (left : Int64) (fr : Nat) : L_X8_so2 S (fuel + 1) sh left fr = (
    if (zcn S 122) ≤ fr then
      (sh, left, fr)
    else
      if ((gMs_at S) 10) < (f_X8_ofOrder (sMs_sh S sh) 122 fr 2) then
        (sh, left, fr)
      else
        let t_e : Nat := (L_X8_so3 S sh fr (zcn S 122 - (fr + 1) + 1) (fr + 1))
        L_X8_so2 S fuel (gMs_sh ((f_X8_shareDay (sMs_sh S sh) fr t_e left).2)) ((f_X8_shareDay (sMs_sh S sh) fr t_e left).1) t_e
  ) := rfl
noncomputable def f_X8_shareOut (S : zMs) (may : Int64) : zMs := zsl (
  let sh0 : Nat → Int64 := ((L_X8_so1 S (20 - 0 + 1) (gMs_sh S) 0).1)
  let k0 : Nat := ((L_X8_so1 S (20 - 0 + 1) (gMs_sh S) 0).2)
  let shz : Nat → Int64 := ((L_X8_so2 S (zcn S 122 - 0 + 1) sh0 may 0).1)
  let lz : Int64 := ((L_X8_so2 S (zcn S 122 - 0 + 1) sh0 may 0).2.1)
  let frz : Nat := ((L_X8_so2 S (zcn S 122 - 0 + 1) sh0 may 0).2.2)
  (sMs_sh S shz)
  )
set_option maxHeartbeats 4000000 in
set_option maxRecDepth 100000 in
theorem c_X8_shareOut (l : Launch) (D : va_G) (cy : Nat → ClassId) (m : Nat → Nat) (may : Int64)  (S : zMs) (hc : zCk S 122) (hm : 0 ≤ may) (hok : ok_share S) : zC l yX8_shareOut (zW yX8_shareOut cX8_shareOut 7 (Option.none : Option Jvm.ClassFile.FieldType)) { frames := 2, cells := 0, slots := 0, locals := 54 } D cy [.ref (m 0), .long may] (WM cy m S) none (WM cy m (f_X8_shareOut S may)) := by
  refine zC_of rfl (Nat.le_of_ble_eq_true rfl) zOk_v (fun E C hret => ?_)
  have hc2 := hc.2
  show zJ E 7 0 0 (WM cy m S) 0 [(0, .ref (m 0)), (1, .long may)] []
  refine zj_lload_n C dX8_shareOut_0 1 rfl ?_
  refine zj_lstore_n C (L' := [(3, .long may), (0, .ref (m 0)), (1, .long may)]) dX8_shareOut_1 rfl (by decide) rfl ?_
  refine zj_iconst C (v := (nI 0)) dX8_shareOut_2 (by decide) ?_
  refine zj_istore C (L' := [(5, .int (nI 0)), (3, .long may), (0, .ref (m 0)), (1, .long may)]) dX8_shareOut_3 (by decide) rfl ?_
  refine zj_iconst C (v := (nI 0)) dX8_shareOut_5 (by decide) ?_
  refine zj_istore C (L' := [(6, .int (nI 0)), (5, .int (nI 0)), (3, .long may), (0, .ref (m 0)), (1, .long may)]) dX8_shareOut_6 (by decide) rfl ?_
  have loop_8 : ∀ (fuel : Nat) (sh : Nat → Int64) (k : Nat), (hk : k ≤ 20) → 20 - k < fuel → (zJ E 7 0 0 (WM cy m (sMs_sh S ((L_X8_so1 S fuel sh k).1))) 29 [(0, .ref (m 0)), (1, .long may), (3, .long may), (5, .int (nI 0))] []) → zJ E 7 0 0 (WM cy m (sMs_sh S sh)) 8 [(0, .ref (m 0)), (1, .long may), (3, .long may), (5, .int (nI 0)), (6, .int (nI k))] [] := by
    intro fuel
    induction fuel with
    | zero => intro sh k hk hmu; exact absurd hmu (Nat.not_lt_zero _)
    | succ fuel ih_8 =>
      intro sh k hk hmu_8 K_8
      refine zj_iload C dX8_shareOut_8 4 rfl ?_
      refine zj_bipush C (v := (nI 20)) dX8_shareOut_10 (by decide) ?_
      refine zj_icmp_ge C 29 dX8_shareOut_12 (by decide) (fun c => ?_) (fun c => ?_)
      · have c_12 : 20 ≤ k := ((nI_leI (by omega) (by omega)).mp c)
        refine zj_sub (L' := [(0, .ref (m 0)), (1, .long may), (3, .long may), (5, .int (nI 0))]) [0, 1, 2, 3] rfl ?_
        have e_8 : (L_X8_so1 S (fuel + 1) sh k) = (sh, k) := by refine (L_X8_so1_s S fuel sh k).trans ?_; refine (if_pos c_12).trans ?_; rfl
        rw [e_8] at K_8
        exact K_8 
      · have c_12 : ¬ (20 ≤ k) := (fun q => c ((nI_leI (by omega) (by omega)).mpr q))
        refine zj_aload_n C dX8_shareOut_15 0 rfl ?_
        refine zj_get C 0 8 7 (v := .ref (m 6)) inZ8 rfl rfl (by decide) tg_684 rfl dX8_shareOut_16 ?_
        refine zj_iload C dX8_shareOut_19 4 rfl ?_
        refine zj_lconst C (v := 0) dX8_shareOut_21 (by decide) ?_
        refine zj_last C 6 (f := sh) (ws' := (WM cy m (sMs_sh S (vp_updL sh k 0)))) k (nI_clamp (by omega)) (vp_in_nI (by omega) (by omega)) rfl dX8_shareOut_22 rfl ?_
        refine zj_iinc C (j := 4) (v := (nI (k + 1))) (L' := [(6, .int (nI (k + 1))), (0, .ref (m 0)), (1, .long may), (3, .long may), (5, .int (nI 0))]) dX8_shareOut_23 rfl (nI_1 _) (by decide) rfl ?_
        refine zj_goto C 8 dX8_shareOut_26 (by decide) ?_
        refine zj_sub (L' := [(0, .ref (m 0)), (1, .long may), (3, .long may), (5, .int (nI 0)), (6, .int (nI (k + 1)))]) [1, 2, 3, 4, 0] rfl ?_
        have hn_hk : (k + 1) ≤ 20 := (by omega)
        have hn_mu : 20 - (k + 1) < fuel := (by omega)
        have e_8 : (L_X8_so1 S (fuel + 1) sh k) = (L_X8_so1 S fuel (vp_updL sh k 0) (k + 1)) := by refine (L_X8_so1_s S fuel sh k).trans ?_; refine (if_neg c_12).trans ?_; rfl
        rw [e_8] at K_8
        exact ih_8 (vp_updL sh k 0) (k + 1) hn_hk hn_mu K_8
  have K_8 : ∀ (sh0 : Nat → Int64) (k0 : Nat), sh0 = ((L_X8_so1 S (20 - 0 + 1) (gMs_sh S) 0).1) → k0 = ((L_X8_so1 S (20 - 0 + 1) (gMs_sh S) 0).2) → zJ E 7 0 0 (WM cy m (sMs_sh S sh0)) 29 [(0, .ref (m 0)), (1, .long may), (3, .long may), (5, .int (nI 0))] [] := by
    intro sh0 k0 hsh0 hk0 
    have loop_29 : ∀ (fuel : Nat) (sh : Nat → Int64) (left : Int64) (fr : Nat), (hl : 0 ≤ left) → (hfr : fr ≤ 20) → zcn S 122 - fr < fuel → (zJ E 7 0 0 (WM cy m (sMs_sh S ((L_X8_so2 S fuel sh left fr).1))) 128 [(0, .ref (m 0)), (1, .long may)] []) → zJ E 7 0 0 (WM cy m (sMs_sh S sh)) 29 [(0, .ref (m 0)), (1, .long may), (3, .long left), (5, .int (nI fr))] [] := by
      intro fuel
      induction fuel with
      | zero => intro sh left fr hl hfr hmu; exact absurd hmu (Nat.not_lt_zero _)
      | succ fuel ih_29 =>
        intro sh left fr hl hfr hmu_29 K_29
        refine zj_iload C dX8_shareOut_29 3 rfl ?_
        refine zj_i2l C dX8_shareOut_31 ?_
        refine zj_topl (lN fr) (nI_l (by omega)) ?_
        refine zj_aload_n C dX8_shareOut_32 0 rfl ?_
        refine zj_get C 0 8 0 (v := .ref (m 1)) inZ8 rfl rfl (by decide) tg_677 rfl dX8_shareOut_33 ?_
        refine zj_bipush C (v := (nI 122)) dX8_shareOut_36 (by decide) ?_
        refine zj_lald C 1 (f := (gMs_at S)) 122 (by decide) (vp_in_nI (by decide) (by decide)) rfl dX8_shareOut_38 ?_
        refine zj_topl (lN (zcn S 122)) hc.1 ?_
        refine zj_lcmp_ge C 128 dX8_shareOut_39 dX8_shareOut_40 (by decide) (fun c => ?_) (fun c => ?_)
        · have c_39 : (zcn S 122) ≤ fr := ((lN_le (by omega) (by omega)).mp c)
          refine zj_sub (L' := [(0, .ref (m 0)), (1, .long may)]) [0, 1] rfl ?_
          have e_29 : (L_X8_so2 S (fuel + 1) sh left fr) = (sh, left, fr) := by refine (L_X8_so2_s S fuel sh left fr).trans ?_; refine (if_pos c_39).trans ?_; rfl
          rw [e_29] at K_29
          exact K_29 
        · have c_39 : ¬ ((zcn S 122) ≤ fr) := (fun q => c ((lN_le (by omega) (by omega)).mpr q))
          refine zj_aload_n C dX8_shareOut_43 0 rfl ?_
          refine zj_bipush C (v := (nI 122)) dX8_shareOut_44 (by decide) ?_
          refine zj_iload C dX8_shareOut_46 3 rfl ?_
          refine zj_iconst C (v := (nI 2)) dX8_shareOut_48 (by decide) ?_
          refine zj_callV C (nn := 10) (ws' := (WM cy m (sMs_sh S sh))) (st := []) (st1 := [.long (f_X8_ofOrder (sMs_sh S sh) 122 fr 2)]) 0 8 [0, 1, 2, 3, 4, 5, 6, 7, 8, 9] (c_X8_ofOrder l D cy m 122 fr 2 (sMs_sh S sh) (by omega)) (zg_V tg_760 tg_757 tg_759 tgp_18 tg_9) ⟨rfl, hdZ_X8_ofOrder⟩ ⟨rfl, rfl⟩ ⟨by decide, by decide⟩ rfl rfl rfl (by decide) ⟨rfl, rfl⟩ rfl rfl (Nat.le_of_ble_eq_true rfl) dX8_shareOut_49 rfl rfl ?_
          refine zj_aload_n C dX8_shareOut_52 0 rfl ?_
          refine zj_get C 0 8 0 (v := .ref (m 1)) inZ8 rfl rfl (by decide) tg_677 rfl dX8_shareOut_53 ?_
          refine zj_bipush C (v := (nI 10)) dX8_shareOut_56 (by decide) ?_
          refine zj_lald C 1 (f := (gMs_at S)) 10 (by decide) (vp_in_nI (by decide) (by decide)) rfl dX8_shareOut_58 ?_
          refine zj_lcmp_gt C 128 dX8_shareOut_59 dX8_shareOut_60 (by decide) (fun c => ?_) (fun c => ?_)
          · have c_59 : ((gMs_at S) 10) < (f_X8_ofOrder (sMs_sh S sh) 122 fr 2) := c
            refine zj_sub (L' := [(0, .ref (m 0)), (1, .long may)]) [0, 1] rfl ?_
            have e_29 : (L_X8_so2 S (fuel + 1) sh left fr) = (sh, left, fr) := by refine (L_X8_so2_s S fuel sh left fr).trans ?_; refine (if_neg c_39).trans ?_; refine (if_pos c_59).trans ?_; rfl
            rw [e_29] at K_29
            exact K_29 
          · have c_59 : ¬ (((gMs_at S) 10) < (f_X8_ofOrder (sMs_sh S sh) 122 fr 2)) := c
            refine zj_iload C dX8_shareOut_63 3 rfl ?_
            refine zj_iconst C (v := (nI 1)) dX8_shareOut_65 (by decide) ?_
            refine zj_iadd C dX8_shareOut_66 ?_
            refine zj_topi (nI (fr + 1)) (nI_add _ _) ?_
            refine zj_istore C (L' := [(6, .int (nI (fr + 1))), (0, .ref (m 0)), (1, .long may), (3, .long left), (5, .int (nI fr))]) dX8_shareOut_67 (by decide) rfl ?_
            have loop_69 : ∀ (fuel : Nat) (t : Nat), (ht : t ≤ zcn S 122) → (ht2 : fr < t) → zcn S 122 - t < fuel → ((L_X8_so3 S sh fr fuel t) ≤ zcn S 122 → fr < (L_X8_so3 S sh fr fuel t) → zJ E 7 0 0 (WM cy m (sMs_sh S sh)) 111 [(0, .ref (m 0)), (1, .long may), (3, .long left), (5, .int (nI fr)), (6, .int (nI (L_X8_so3 S sh fr fuel t)))] []) → zJ E 7 0 0 (WM cy m (sMs_sh S sh)) 69 [(0, .ref (m 0)), (1, .long may), (3, .long left), (5, .int (nI fr)), (6, .int (nI t))] [] := by
              intro fuel
              induction fuel with
              | zero => intro t ht ht2 hmu; exact absurd hmu (Nat.not_lt_zero _)
              | succ fuel ih_69 =>
                intro t ht ht2 hmu_69 K_69
                refine zj_iload C dX8_shareOut_69 4 rfl ?_
                refine zj_i2l C dX8_shareOut_71 ?_
                refine zj_topl (lN t) (nI_l (by omega)) ?_
                refine zj_aload_n C dX8_shareOut_72 0 rfl ?_
                refine zj_get C 0 8 0 (v := .ref (m 1)) inZ8 rfl rfl (by decide) tg_677 rfl dX8_shareOut_73 ?_
                refine zj_bipush C (v := (nI 122)) dX8_shareOut_76 (by decide) ?_
                refine zj_lald C 1 (f := (gMs_at S)) 122 (by decide) (vp_in_nI (by decide) (by decide)) rfl dX8_shareOut_78 ?_
                refine zj_topl (lN (zcn S 122)) hc.1 ?_
                refine zj_lcmp_ge C 111 dX8_shareOut_79 dX8_shareOut_80 (by decide) (fun c => ?_) (fun c => ?_)
                · have c_79 : (zcn S 122) ≤ t := ((lN_le (by omega) (by omega)).mp c)
                  have e_69 : (L_X8_so3 S sh fr (fuel + 1) t) = t := by refine (L_X8_so3_s S sh fr fuel t).trans ?_; refine (if_pos c_79).trans ?_; rfl
                  rw [e_69] at K_69
                  exact K_69 ht ht2
                · have c_79 : ¬ ((zcn S 122) ≤ t) := (fun q => c ((lN_le (by omega) (by omega)).mpr q))
                  refine zj_aload_n C dX8_shareOut_83 0 rfl ?_
                  refine zj_bipush C (v := (nI 122)) dX8_shareOut_84 (by decide) ?_
                  refine zj_iload C dX8_shareOut_86 4 rfl ?_
                  refine zj_iconst C (v := (nI 2)) dX8_shareOut_88 (by decide) ?_
                  refine zj_callV C (nn := 10) (ws' := (WM cy m (sMs_sh S sh))) (st := []) (st1 := [.long (f_X8_ofOrder (sMs_sh S sh) 122 t 2)]) 0 8 [0, 1, 2, 3, 4, 5, 6, 7, 8, 9] (c_X8_ofOrder l D cy m 122 t 2 (sMs_sh S sh) (by omega)) (zg_V tg_760 tg_757 tg_759 tgp_18 tg_9) ⟨rfl, hdZ_X8_ofOrder⟩ ⟨rfl, rfl⟩ ⟨by decide, by decide⟩ rfl rfl rfl (by decide) ⟨rfl, rfl⟩ rfl rfl (Nat.le_of_ble_eq_true rfl) dX8_shareOut_89 rfl rfl ?_
                  refine zj_aload_n C dX8_shareOut_92 0 rfl ?_
                  refine zj_bipush C (v := (nI 122)) dX8_shareOut_93 (by decide) ?_
                  refine zj_iload C dX8_shareOut_95 3 rfl ?_
                  refine zj_iconst C (v := (nI 2)) dX8_shareOut_97 (by decide) ?_
                  refine zj_callV C (nn := 10) (ws' := (WM cy m (sMs_sh S sh))) (st := [.long (f_X8_ofOrder (sMs_sh S sh) 122 t 2)]) (st1 := [.long (f_X8_ofOrder (sMs_sh S sh) 122 fr 2), .long (f_X8_ofOrder (sMs_sh S sh) 122 t 2)]) 0 8 [0, 1, 2, 3, 4, 5, 6, 7, 8, 9] (c_X8_ofOrder l D cy m 122 fr 2 (sMs_sh S sh) (by omega)) (zg_V tg_760 tg_757 tg_759 tgp_18 tg_9) ⟨rfl, hdZ_X8_ofOrder⟩ ⟨rfl, rfl⟩ ⟨by decide, by decide⟩ rfl rfl rfl (by decide) ⟨rfl, rfl⟩ rfl rfl (Nat.le_of_ble_eq_true rfl) dX8_shareOut_98 rfl rfl ?_
                  refine zj_lcmp_ne C 111 dX8_shareOut_101 dX8_shareOut_102 (by decide) (fun c => ?_) (fun c => ?_)
                  · have c_101 : ¬ ((f_X8_ofOrder (sMs_sh S sh) 122 t 2) = (f_X8_ofOrder (sMs_sh S sh) 122 fr 2)) := c
                    have e_69 : (L_X8_so3 S sh fr (fuel + 1) t) = t := by refine (L_X8_so3_s S sh fr fuel t).trans ?_; refine (if_neg c_79).trans ?_; refine (if_neg c_101).trans ?_; rfl
                    rw [e_69] at K_69
                    exact K_69 ht ht2
                  · have c_101 : (f_X8_ofOrder (sMs_sh S sh) 122 t 2) = (f_X8_ofOrder (sMs_sh S sh) 122 fr 2) := (Classical.not_not.mp c)
                    refine zj_iinc C (j := 4) (v := (nI (t + 1))) (L' := [(6, .int (nI (t + 1))), (0, .ref (m 0)), (1, .long may), (3, .long left), (5, .int (nI fr))]) dX8_shareOut_105 rfl (nI_1 _) (by decide) rfl ?_
                    refine zj_goto C 69 dX8_shareOut_108 (by decide) ?_
                    refine zj_sub (L' := [(0, .ref (m 0)), (1, .long may), (3, .long left), (5, .int (nI fr)), (6, .int (nI (t + 1)))]) [1, 2, 3, 4, 0] rfl ?_
                    have hn_ht : (t + 1) ≤ zcn S 122 := (by omega)
                    have hn_ht2 : fr < (t + 1) := (by omega)
                    have hn_mu : zcn S 122 - (t + 1) < fuel := (by omega)
                    have e_69 : (L_X8_so3 S sh fr (fuel + 1) t) = (L_X8_so3 S sh fr fuel (t + 1)) := by refine (L_X8_so3_s S sh fr fuel t).trans ?_; refine (if_neg c_79).trans ?_; refine (if_pos c_101).trans ?_; rfl
                    rw [e_69] at K_69
                    exact ih_69 (t + 1) hn_ht hn_ht2 hn_mu K_69
            have K_69 : ∀ (t_e : Nat), t_e = (L_X8_so3 S sh fr (zcn S 122 - (fr + 1) + 1) (fr + 1)) → (pt_e : t_e ≤ zcn S 122) → (pt2_e : fr < t_e) → zJ E 7 0 0 (WM cy m (sMs_sh S sh)) 111 [(0, .ref (m 0)), (1, .long may), (3, .long left), (5, .int (nI fr)), (6, .int (nI t_e))] [] := by
              intro t_e ht_e pt_e pt2_e
              refine zj_aload_n C dX8_shareOut_111 0 rfl ?_
              refine zj_iload C dX8_shareOut_112 3 rfl ?_
              refine zj_iload C dX8_shareOut_114 4 rfl ?_
              refine zj_lload_n C dX8_shareOut_116 2 rfl ?_
              refine zj_callV C (nn := 10) (ws' := (WM cy m ((f_X8_shareDay (sMs_sh S sh) fr t_e left).2))) (st := []) (st1 := [.long ((f_X8_shareDay (sMs_sh S sh) fr t_e left).1)]) 0 8 [0, 1, 2, 3, 4, 5, 6, 7, 8, 9] (c_X8_shareDay l D cy m fr t_e left (sMs_sh S sh) (by omega) (by omega) hl) (zg_V tg_853 tg_850 tg_852 tgp_38 tg_9) ⟨rfl, hdZ_X8_shareDay⟩ ⟨rfl, rfl⟩ ⟨by decide, by decide⟩ rfl rfl rfl (by decide) ⟨rfl, rfl⟩ rfl rfl (Nat.le_of_ble_eq_true rfl) dX8_shareOut_117 rfl rfl ?_
              refine zj_lstore_n C (L' := [(3, .long ((f_X8_shareDay (sMs_sh S sh) fr t_e left).1)), (0, .ref (m 0)), (1, .long may), (5, .int (nI fr)), (6, .int (nI t_e))]) dX8_shareOut_120 rfl (by decide) rfl ?_
              refine zj_iload C dX8_shareOut_121 4 rfl ?_
              refine zj_istore C (L' := [(5, .int (nI t_e)), (3, .long ((f_X8_shareDay (sMs_sh S sh) fr t_e left).1)), (0, .ref (m 0)), (1, .long may), (6, .int (nI t_e))]) dX8_shareOut_123 (by decide) rfl ?_
              refine zj_goto C 29 dX8_shareOut_125 (by decide) ?_
              refine zj_sub (L' := [(0, .ref (m 0)), (1, .long may), (3, .long ((f_X8_shareDay (sMs_sh S sh) fr t_e left).1)), (5, .int (nI t_e))]) [2, 3, 1, 0] rfl ?_
              refine zj_eq (ws' := (WM cy m (sMs_sh S (gMs_sh ((f_X8_shareDay (sMs_sh S sh) fr t_e left).2))))) (congrArg (WM cy m) (f_shareDay_sh _ _ _ _)) rfl rfl rfl ?_
              have hn_hl : 0 ≤ ((f_X8_shareDay (sMs_sh S sh) fr t_e left).1) := (hok _ _ _ _ hl pt2_e pt_e)
              have hn_hfr : t_e ≤ 20 := (by omega)
              have hn_mu : zcn S 122 - t_e < fuel := (by omega)
              subst ht_e
              have e_29 : (L_X8_so2 S (fuel + 1) sh left fr) = (L_X8_so2 S fuel (gMs_sh ((f_X8_shareDay (sMs_sh S sh) fr (L_X8_so3 S sh fr (zcn S 122 - (fr + 1) + 1) (fr + 1)) left).2)) ((f_X8_shareDay (sMs_sh S sh) fr (L_X8_so3 S sh fr (zcn S 122 - (fr + 1) + 1) (fr + 1)) left).1) (L_X8_so3 S sh fr (zcn S 122 - (fr + 1) + 1) (fr + 1))) := by refine (L_X8_so2_s S fuel sh left fr).trans ?_; refine (if_neg c_39).trans ?_; refine (if_neg c_59).trans ?_; rfl
              rw [e_29] at K_29
              exact ih_29 (gMs_sh ((f_X8_shareDay (sMs_sh S sh) fr (L_X8_so3 S sh fr (zcn S 122 - (fr + 1) + 1) (fr + 1)) left).2)) ((f_X8_shareDay (sMs_sh S sh) fr (L_X8_so3 S sh fr (zcn S 122 - (fr + 1) + 1) (fr + 1)) left).1) (L_X8_so3 S sh fr (zcn S 122 - (fr + 1) + 1) (fr + 1)) hn_hl hn_hfr hn_mu K_29
            refine zj_sub (L' := [(0, .ref (m 0)), (1, .long may), (3, .long left), (5, .int (nI fr)), (6, .int (nI (fr + 1)))]) [1, 2, 3, 4, 0] rfl ?_
            exact loop_69 (zcn S 122 - (fr + 1) + 1) (fr + 1) (by omega) (by omega) (Nat.lt_succ_self _) (K_69 _ rfl)
    have K_29 : ∀ (shz : Nat → Int64) (lz : Int64) (frz : Nat), shz = ((L_X8_so2 S (zcn S 122 - 0 + 1) sh0 may 0).1) → lz = ((L_X8_so2 S (zcn S 122 - 0 + 1) sh0 may 0).2.1) → frz = ((L_X8_so2 S (zcn S 122 - 0 + 1) sh0 may 0).2.2) → zJ E 7 0 0 (WM cy m (sMs_sh S shz)) 128 [(0, .ref (m 0)), (1, .long may)] [] := by
      intro shz lz frz hshz hlz hfrz 
      subst hfrz
      subst hlz
      subst hshz
      subst hk0
      subst hsh0
      have e : f_X8_shareOut S may = (sMs_sh S ((L_X8_so2 S (zcn S 122 - 0 + 1) ((L_X8_so1 S (20 - 0 + 1) (gMs_sh S) 0).1) may 0).1)) := by refine (zsl_e _).trans ?_; rfl
      rw [e] at hret
      exact hret _ _ dX8_shareOut_128
    exact loop_29 (zcn S 122 - 0 + 1) sh0 may 0 hm (by omega) (Nat.lt_succ_self _) (K_29 _ _ _ rfl rfl rfl)
  refine zj_sub (L' := [(0, .ref (m 0)), (1, .long may), (3, .long may), (5, .int (nI 0)), (6, .int (nI 0))]) [3, 4, 2, 1, 0] rfl ?_
  refine zj_eq (ws' := (WM cy m (sMs_sh S (gMs_sh S)))) rfl rfl rfl rfl ?_
  exact loop_8 (20 - 0 + 1) (gMs_sh S) 0 (by omega) (Nat.lt_succ_self _) (K_8 _ _ rfl rfl)
