noncomputable def L_X0_sd1 (o : zOd) (to : Nat) (ofDay : Int64) (given : Int64) : Nat → (Nat → Int64) → (Int64) → (Nat) → (Nat → Int64) × (Int64) × (Nat)
  | 0, sh, rest, k => (sh, rest, k)
  | fuel + 1, sh, rest, k =>
    if to ≤ k then
      (sh, rest, k)
    else
      let x22_0 : Int64 := (if ofDay ≤ 0 then 0 else ((((((gOd_sz o) k)).toInt64) * given) / ofDay))
      let F_44 : Nat → Int64 := (vp_updL sh k x22_0)
      L_X0_sd1 o to ofDay given fuel F_44 (rest - (F_44 k)) (k + 1)
theorem L_X0_sd1_s (o : zOd) (to : Nat) (ofDay : Int64) (given : Int64) (fuel : Nat) (sh : Nat → Int64) (rest : Int64) (k : Nat) : L_X0_sd1 o to ofDay given (fuel + 1) sh rest k = (
    if to ≤ k then
      (sh, rest, k)
    else
      let x22_0 : Int64 := (if ofDay ≤ 0 then 0 else ((((((gOd_sz o) k)).toInt64) * given) / ofDay))
      let F_44 : Nat → Int64 := (vp_updL sh k x22_0)
      L_X0_sd1 o to ofDay given fuel F_44 (rest - (F_44 k)) (k + 1)
  ) := rfl
noncomputable def L_X0_sd2 (o : zOd) (to : Nat) (sh1 : Nat → Int64) (rest1 : Int64) (k1 : Nat) : Nat → (Nat → Int64) → (Int64) → (Nat) → (Nat → Int64) × (Int64) × (Nat)
  | 0, sh, rest, k => (sh, rest, k)
  | fuel + 1, sh, rest, k =>
    if to ≤ k then
      (sh, rest, k)
    else
      if rest ≤ 0 then
        (sh, rest, k)
      else
        let x94_0 : Int64 := (if ((((gOd_sz o) k)).toInt64) ≤ (sh k) then rest else (rest - 1))
        let x94_1 : Nat → Int64 := (if ((((gOd_sz o) k)).toInt64) ≤ (sh k) then sh else (vp_updL sh k ((sh k) + 1)))
        L_X0_sd2 o to sh1 rest1 k1 fuel x94_1 x94_0 (k + 1)
theorem L_X0_sd2_s (o : zOd) (to : Nat) (sh1 : Nat → Int64) (rest1 : Int64) (k1 : Nat) (fuel : Nat) (sh : Nat → Int64) (rest : Int64) (k : Nat) : L_X0_sd2 o to sh1 rest1 k1 (fuel + 1) sh rest k = (
    if to ≤ k then
      (sh, rest, k)
    else
      if rest ≤ 0 then
        (sh, rest, k)
      else
        let x94_0 : Int64 := (if ((((gOd_sz o) k)).toInt64) ≤ (sh k) then rest else (rest - 1))
        let x94_1 : Nat → Int64 := (if ((((gOd_sz o) k)).toInt64) ≤ (sh k) then sh else (vp_updL sh k ((sh k) + 1)))
        L_X0_sd2 o to sh1 rest1 k1 fuel x94_1 x94_0 (k + 1)
  ) := rfl
noncomputable def f_X0_shareOutDay (x : zDd) (o : zOd) (fr : Nat) (to : Nat) (ofDay : Int64) (given : Int64) : zDd :=
  let sh1 : Nat → Int64 := ((L_X0_sd1 o to ofDay given (to - fr + 1) (gDd_sh x) given fr).1)
  let rest1 : Int64 := ((L_X0_sd1 o to ofDay given (to - fr + 1) (gDd_sh x) given fr).2.1)
  let k1 : Nat := ((L_X0_sd1 o to ofDay given (to - fr + 1) (gDd_sh x) given fr).2.2)
  let sh2 : Nat → Int64 := ((L_X0_sd2 o to sh1 rest1 k1 (to - fr + 1) sh1 rest1 fr).1)
  let rest2 : Int64 := ((L_X0_sd2 o to sh1 rest1 k1 (to - fr + 1) sh1 rest1 fr).2.1)
  let k2 : Nat := ((L_X0_sd2 o to sh1 rest1 k1 (to - fr + 1) sh1 rest1 fr).2.2)
  (sDd_sh x sh2)
set_option maxHeartbeats 4000000 in
set_option maxRecDepth 100000 in
theorem c_X0_shareOutDay (l : Launch) (D : va_G) (cy : Nat → ClassId) (d0 d1 : Nat) (a0 a1 a2 a3 : Nat) (fr : Nat) (to : Nat) (ofDay : Int64) (given : Int64) (x : zDd) (o : zOd) (ht : to ≤ 20) (hf : fr ≤ 20) : zC l yX0_shareOutDay (zW yX0_shareOutDay cX0_shareOutDay 11 (Option.none : Option Jvm.ClassFile.FieldType)) { frames := 0, cells := 0, slots := 0, locals := 0 } D cy [.ref d0, .ref a0, .int (nI fr), .int (nI to), .long ofDay, .long given] ([(WD cy d0 d1 x), (WO cy a0 a1 a2 a3 o)] : List va_W).flatten none ([(WD cy d0 d1 (f_X0_shareOutDay x o fr to ofDay given)), (WO cy a0 a1 a2 a3 o)] : List va_W).flatten := by
  refine zC_of rfl (Nat.le_of_ble_eq_true rfl) zOk_v (fun E C hret => ?_)
  show zJ E 11 0 0 ([(WD cy d0 d1 x), (WO cy a0 a1 a2 a3 o)] : List va_W).flatten 0 [(0, .ref d0), (1, .ref a0), (2, .int (nI fr)), (3, .int (nI to)), (4, .long ofDay), (6, .long given)] []
  refine zj_lload C dX0_shareOutDay_0 5 rfl ?_
  refine zj_lstore C (L' := [(8, .long given), (0, .ref d0), (1, .ref a0), (2, .int (nI fr)), (3, .int (nI to)), (4, .long ofDay), (6, .long given)]) dX0_shareOutDay_2 (by decide) rfl ?_
  refine zj_iload_n C dX0_shareOutDay_4 3 rfl ?_
  refine zj_istore C (L' := [(10, .int (nI fr)), (8, .long given), (0, .ref d0), (1, .ref a0), (2, .int (nI fr)), (3, .int (nI to)), (4, .long ofDay), (6, .long given)]) dX0_shareOutDay_5 (by decide) rfl ?_
  have loop_7 : ∀ (fuel : Nat) (sh : Nat → Int64) (rest : Int64) (k : Nat), (hk : k ≤ 20) → to - k < fuel → (zJ E 11 0 0 ([(WD cy d0 d1 (sDd_sh x ((L_X0_sd1 o to ofDay given fuel sh rest k).1))), (WO cy a0 a1 a2 a3 o)] : List va_W).flatten 63 [(0, .ref d0), (1, .ref a0), (2, .int (nI fr)), (3, .int (nI to)), (8, .long ((L_X0_sd1 o to ofDay given fuel sh rest k).2.1))] []) → zJ E 11 0 0 ([(WD cy d0 d1 (sDd_sh x sh)), (WO cy a0 a1 a2 a3 o)] : List va_W).flatten 7 [(0, .ref d0), (1, .ref a0), (2, .int (nI fr)), (3, .int (nI to)), (4, .long ofDay), (6, .long given), (8, .long rest), (10, .int (nI k))] [] := by
    intro fuel
    induction fuel with
    | zero => intro sh rest k hk hmu; exact absurd hmu (Nat.not_lt_zero _)
    | succ fuel ih_7 =>
      intro sh rest k hk hmu_7 K_7
      refine zj_iload C dX0_shareOutDay_7 7 rfl ?_
      refine zj_iload_n C dX0_shareOutDay_9 3 rfl ?_
      refine zj_icmp_ge C 63 dX0_shareOutDay_10 (by decide) (fun c => ?_) (fun c => ?_)
      · have c_10 : to ≤ k := ((nI_leI (by omega) (by omega)).mp c)
        refine zj_sub (L' := [(0, .ref d0), (1, .ref a0), (2, .int (nI fr)), (3, .int (nI to)), (8, .long rest)]) [0, 1, 2, 3, 6] rfl ?_
        have e_7 : (L_X0_sd1 o to ofDay given (fuel + 1) sh rest k) = (sh, rest, k) := by refine (L_X0_sd1_s o to ofDay given fuel sh rest k).trans ?_; refine (if_pos c_10).trans ?_; rfl
        rw [e_7] at K_7
        exact K_7 
      · have c_10 : ¬ (to ≤ k) := (fun q => c ((nI_leI (by omega) (by omega)).mpr q))
        refine zj_aload_n C dX0_shareOutDay_13 0 rfl ?_
        refine zj_get C 0 0 6 (v := .ref d1) inZ0 rfl rfl (by decide) tg_206 rfl dX0_shareOutDay_14 ?_
        refine zj_iload C dX0_shareOutDay_17 7 rfl ?_
        refine zj_lload C dX0_shareOutDay_19 4 rfl ?_
        refine zj_lconst C (v := 0) dX0_shareOutDay_21 (by decide) ?_
        have J_22 : ∀ (x22_0 : Int64), x22_0 = (if ofDay ≤ 0 then 0 else ((((((gOd_sz o) k)).toInt64) * given) / ofDay)) → zJ E 11 0 0 ([(WD cy d0 d1 (sDd_sh x sh)), (WO cy a0 a1 a2 a3 o)] : List va_W).flatten 44 [(0, .ref d0), (1, .ref a0), (2, .int (nI fr)), (3, .int (nI to)), (4, .long ofDay), (6, .long given), (8, .long rest), (10, .int (nI k))] [.long x22_0, .int (nI k), .ref d1] := by
          intro x22_0 hx22_0
          obtain ⟨F_44, hF_44⟩ : ∃ g, g = (vp_updL sh k x22_0) := ⟨_, rfl⟩
          refine zj_last C 1 (f := sh) (ws' := ([(WD cy d0 d1 (sDd_sh x F_44)), (WO cy a0 a1 a2 a3 o)] : List va_W).flatten) k (nI_clamp (by omega)) (vp_in_nI (by omega) (by omega)) rfl dX0_shareOutDay_44 (by rw [← hF_44]; rfl) ?_
          refine zj_lload C dX0_shareOutDay_45 6 rfl ?_
          refine zj_aload_n C dX0_shareOutDay_47 0 rfl ?_
          refine zj_get C 0 0 6 (v := .ref d1) inZ0 rfl rfl (by decide) tg_206 rfl dX0_shareOutDay_48 ?_
          refine zj_iload C dX0_shareOutDay_51 7 rfl ?_
          refine zj_lald C 1 (f := F_44) k (nI_clamp (by omega)) (vp_in_nI (by omega) (by omega)) rfl dX0_shareOutDay_53 ?_
          refine zj_lsub C dX0_shareOutDay_54 ?_
          refine zj_lstore C (L' := [(8, .long (rest - (F_44 k))), (0, .ref d0), (1, .ref a0), (2, .int (nI fr)), (3, .int (nI to)), (4, .long ofDay), (6, .long given), (10, .int (nI k))]) dX0_shareOutDay_55 (by decide) rfl ?_
          refine zj_iinc C (j := 7) (v := (nI (k + 1))) (L' := [(10, .int (nI (k + 1))), (8, .long (rest - (F_44 k))), (0, .ref d0), (1, .ref a0), (2, .int (nI fr)), (3, .int (nI to)), (4, .long ofDay), (6, .long given)]) dX0_shareOutDay_57 rfl (nI_1 _) (by decide) rfl ?_
          refine zj_goto C 7 dX0_shareOutDay_60 (by decide) ?_
          refine zj_sub (L' := [(0, .ref d0), (1, .ref a0), (2, .int (nI fr)), (3, .int (nI to)), (4, .long ofDay), (6, .long given), (8, .long (rest - (F_44 k))), (10, .int (nI (k + 1)))]) [2, 3, 4, 5, 6, 7, 1, 0] rfl ?_
          have hn_hk : (k + 1) ≤ 20 := (by omega)
          have hn_mu : to - (k + 1) < fuel := (by omega)
          subst hF_44
          subst hx22_0
          have e_7 : (L_X0_sd1 o to ofDay given (fuel + 1) sh rest k) = (L_X0_sd1 o to ofDay given fuel (vp_updL sh k (if ofDay ≤ 0 then 0 else ((((((gOd_sz o) k)).toInt64) * given) / ofDay))) (rest - ((vp_updL sh k (if ofDay ≤ 0 then 0 else ((((((gOd_sz o) k)).toInt64) * given) / ofDay))) k)) (k + 1)) := by refine (L_X0_sd1_s o to ofDay given fuel sh rest k).trans ?_; refine (if_neg c_10).trans ?_; rfl
          rw [e_7] at K_7
          exact ih_7 (vp_updL sh k (if ofDay ≤ 0 then 0 else ((((((gOd_sz o) k)).toInt64) * given) / ofDay))) (rest - ((vp_updL sh k (if ofDay ≤ 0 then 0 else ((((((gOd_sz o) k)).toInt64) * given) / ofDay))) k)) (k + 1) hn_hk hn_mu K_7
        refine zj_lcmp_le C 43 dX0_shareOutDay_22 dX0_shareOutDay_23 (by decide) (fun c => ?_) (fun c => ?_)
        · have c_22 : ofDay ≤ 0 := c
          refine zj_lconst C (v := 0) dX0_shareOutDay_43 (by decide) ?_
          exact J_22 0 (by simp only [if_neg c_10, if_pos c_22]; first | done | assumption)
        · have c_22 : ¬ (ofDay ≤ 0) := c
          refine zj_aload_n C dX0_shareOutDay_26 1 rfl ?_
          refine zj_get C 2 4 2 (v := .ref a2) inZ4 rfl rfl (by decide) tg_81 rfl dX0_shareOutDay_27 ?_
          refine zj_iload C dX0_shareOutDay_30 7 rfl ?_
          refine zj_iald C 4 (f := (gOd_sz o)) k (nI_clamp (by omega)) (vp_in_nI (by omega) (by omega)) rfl dX0_shareOutDay_32 ?_
          refine zj_i2l C dX0_shareOutDay_33 ?_
          refine zj_lload C dX0_shareOutDay_34 5 rfl ?_
          refine zj_lmul C dX0_shareOutDay_36 ?_
          refine zj_lload C dX0_shareOutDay_37 4 rfl ?_
          refine zj_ldiv C dX0_shareOutDay_39 (zne_le c_22) ?_
          refine zj_goto C 44 dX0_shareOutDay_40 (by decide) ?_
          exact J_22 ((((((gOd_sz o) k)).toInt64) * given) / ofDay) (by simp only [if_neg c_10, if_neg c_22]; first | done | assumption)
  have K_7 : ∀ (sh1 : Nat → Int64) (rest1 : Int64) (k1 : Nat), sh1 = ((L_X0_sd1 o to ofDay given (to - fr + 1) (gDd_sh x) given fr).1) → rest1 = ((L_X0_sd1 o to ofDay given (to - fr + 1) (gDd_sh x) given fr).2.1) → k1 = ((L_X0_sd1 o to ofDay given (to - fr + 1) (gDd_sh x) given fr).2.2) → zJ E 11 0 0 ([(WD cy d0 d1 (sDd_sh x sh1)), (WO cy a0 a1 a2 a3 o)] : List va_W).flatten 63 [(0, .ref d0), (1, .ref a0), (2, .int (nI fr)), (3, .int (nI to)), (8, .long rest1)] [] := by
    intro sh1 rest1 k1 hsh1 hrest1 hk1 
    refine zj_iload_n C dX0_shareOutDay_63 2 rfl ?_
    refine zj_istore C (L' := [(10, .int (nI fr)), (0, .ref d0), (1, .ref a0), (2, .int (nI fr)), (3, .int (nI to)), (8, .long rest1)]) dX0_shareOutDay_64 (by decide) rfl ?_
    have loop_66 : ∀ (fuel : Nat) (sh : Nat → Int64) (rest : Int64) (k : Nat), (hk : k ≤ 20) → to - k < fuel → (zJ E 11 0 0 ([(WD cy d0 d1 (sDd_sh x ((L_X0_sd2 o to sh1 rest1 k1 fuel sh rest k).1))), (WO cy a0 a1 a2 a3 o)] : List va_W).flatten 121 [] []) → zJ E 11 0 0 ([(WD cy d0 d1 (sDd_sh x sh)), (WO cy a0 a1 a2 a3 o)] : List va_W).flatten 66 [(0, .ref d0), (1, .ref a0), (3, .int (nI to)), (8, .long rest), (10, .int (nI k))] [] := by
      intro fuel
      induction fuel with
      | zero => intro sh rest k hk hmu; exact absurd hmu (Nat.not_lt_zero _)
      | succ fuel ih_66 =>
        intro sh rest k hk hmu_66 K_66
        refine zj_iload C dX0_shareOutDay_66 4 rfl ?_
        refine zj_iload_n C dX0_shareOutDay_68 2 rfl ?_
        refine zj_icmp_ge C 121 dX0_shareOutDay_69 (by decide) (fun c => ?_) (fun c => ?_)
        · have c_69 : to ≤ k := ((nI_leI (by omega) (by omega)).mp c)
          refine zj_sub (L' := []) [] rfl ?_
          have e_66 : (L_X0_sd2 o to sh1 rest1 k1 (fuel + 1) sh rest k) = (sh, rest, k) := by refine (L_X0_sd2_s o to sh1 rest1 k1 fuel sh rest k).trans ?_; refine (if_pos c_69).trans ?_; rfl
          rw [e_66] at K_66
          exact K_66 
        · have c_69 : ¬ (to ≤ k) := (fun q => c ((nI_leI (by omega) (by omega)).mpr q))
          refine zj_lload C dX0_shareOutDay_72 3 rfl ?_
          refine zj_lconst C (v := 0) dX0_shareOutDay_74 (by decide) ?_
          refine zj_lcmp_le C 121 dX0_shareOutDay_75 dX0_shareOutDay_76 (by decide) (fun c => ?_) (fun c => ?_)
          · have c_75 : rest ≤ 0 := c
            refine zj_sub (L' := []) [] rfl ?_
            have e_66 : (L_X0_sd2 o to sh1 rest1 k1 (fuel + 1) sh rest k) = (sh, rest, k) := by refine (L_X0_sd2_s o to sh1 rest1 k1 fuel sh rest k).trans ?_; refine (if_neg c_69).trans ?_; refine (if_pos c_75).trans ?_; rfl
            rw [e_66] at K_66
            exact K_66 
          · have c_75 : ¬ (rest ≤ 0) := c
            refine zj_aload_n C dX0_shareOutDay_79 0 rfl ?_
            refine zj_get C 0 0 6 (v := .ref d1) inZ0 rfl rfl (by decide) tg_206 rfl dX0_shareOutDay_80 ?_
            refine zj_iload C dX0_shareOutDay_83 4 rfl ?_
            refine zj_lald C 1 (f := sh) k (nI_clamp (by omega)) (vp_in_nI (by omega) (by omega)) rfl dX0_shareOutDay_85 ?_
            refine zj_aload_n C dX0_shareOutDay_86 1 rfl ?_
            refine zj_get C 2 4 2 (v := .ref a2) inZ4 rfl rfl (by decide) tg_81 rfl dX0_shareOutDay_87 ?_
            refine zj_iload C dX0_shareOutDay_90 4 rfl ?_
            refine zj_iald C 4 (f := (gOd_sz o)) k (nI_clamp (by omega)) (vp_in_nI (by omega) (by omega)) rfl dX0_shareOutDay_92 ?_
            refine zj_i2l C dX0_shareOutDay_93 ?_
            have J_94 : ∀ (x94_0 : Int64) (x94_1 : Nat → Int64), x94_0 = (if ((((gOd_sz o) k)).toInt64) ≤ (sh k) then rest else (rest - 1)) → x94_1 = (if ((((gOd_sz o) k)).toInt64) ≤ (sh k) then sh else (vp_updL sh k ((sh k) + 1))) → zJ E 11 0 0 ([(WD cy d0 d1 (sDd_sh x x94_1)), (WO cy a0 a1 a2 a3 o)] : List va_W).flatten 115 [(0, .ref d0), (1, .ref a0), (3, .int (nI to)), (8, .long x94_0), (10, .int (nI k))] [] := by
              intro x94_0 x94_1 hx94_0 hx94_1
              refine zj_iinc C (j := 4) (v := (nI (k + 1))) (L' := [(10, .int (nI (k + 1))), (0, .ref d0), (1, .ref a0), (3, .int (nI to)), (8, .long x94_0)]) dX0_shareOutDay_115 rfl (nI_1 _) (by decide) rfl ?_
              refine zj_goto C 66 dX0_shareOutDay_118 (by decide) ?_
              refine zj_sub (L' := [(0, .ref d0), (1, .ref a0), (3, .int (nI to)), (8, .long x94_0), (10, .int (nI (k + 1)))]) [1, 2, 3, 4, 0] rfl ?_
              have hn_hk : (k + 1) ≤ 20 := (by omega)
              have hn_mu : to - (k + 1) < fuel := (by omega)
              subst hx94_1
              subst hx94_0
              have e_66 : (L_X0_sd2 o to sh1 rest1 k1 (fuel + 1) sh rest k) = (L_X0_sd2 o to sh1 rest1 k1 fuel (if ((((gOd_sz o) k)).toInt64) ≤ (sh k) then sh else (vp_updL sh k ((sh k) + 1))) (if ((((gOd_sz o) k)).toInt64) ≤ (sh k) then rest else (rest - 1)) (k + 1)) := by refine (L_X0_sd2_s o to sh1 rest1 k1 fuel sh rest k).trans ?_; refine (if_neg c_69).trans ?_; refine (if_neg c_75).trans ?_; rfl
              rw [e_66] at K_66
              exact ih_66 (if ((((gOd_sz o) k)).toInt64) ≤ (sh k) then sh else (vp_updL sh k ((sh k) + 1))) (if ((((gOd_sz o) k)).toInt64) ≤ (sh k) then rest else (rest - 1)) (k + 1) hn_hk hn_mu K_66
            refine zj_lcmp_ge C 115 dX0_shareOutDay_94 dX0_shareOutDay_95 (by decide) (fun c => ?_) (fun c => ?_)
            · have c_94 : ((((gOd_sz o) k)).toInt64) ≤ (sh k) := c
              exact J_94 rest sh (by simp only [if_neg c_69, if_neg c_75, if_pos c_94]; first | done | assumption) (by simp only [if_neg c_69, if_neg c_75, if_pos c_94]; first | done | assumption)
            · have c_94 : ¬ (((((gOd_sz o) k)).toInt64) ≤ (sh k)) := c
              refine zj_aload_n C dX0_shareOutDay_98 0 rfl ?_
              refine zj_get C 0 0 6 (v := .ref d1) inZ0 rfl rfl (by decide) tg_206 rfl dX0_shareOutDay_99 ?_
              refine zj_iload C dX0_shareOutDay_102 4 rfl ?_
              refine zj_dup2 C dX0_shareOutDay_104 rfl rfl ?_
              refine zj_lald C 1 (f := sh) k (nI_clamp (by omega)) (vp_in_nI (by omega) (by omega)) rfl dX0_shareOutDay_105 ?_
              refine zj_lconst C (v := 1) dX0_shareOutDay_106 (by decide) ?_
              refine zj_ladd C dX0_shareOutDay_107 ?_
              refine zj_toplg (fun V_108 hV_108 => ?_)
              obtain ⟨F_108, hF_108⟩ : ∃ g, g = (vp_updL sh k V_108) := ⟨_, rfl⟩
              refine zj_last C 1 (f := sh) (ws' := ([(WD cy d0 d1 (sDd_sh x F_108)), (WO cy a0 a1 a2 a3 o)] : List va_W).flatten) k (nI_clamp (by omega)) (vp_in_nI (by omega) (by omega)) rfl dX0_shareOutDay_108 (by rw [← hF_108]; rfl) ?_
              refine zj_lload C dX0_shareOutDay_109 3 rfl ?_
              refine zj_lconst C (v := 1) dX0_shareOutDay_111 (by decide) ?_
              refine zj_lsub C dX0_shareOutDay_112 ?_
              refine zj_lstore C (L' := [(8, .long (rest - 1)), (0, .ref d0), (1, .ref a0), (3, .int (nI to)), (10, .int (nI k))]) dX0_shareOutDay_113 (by decide) rfl ?_
              refine zj_sub (L' := [(0, .ref d0), (1, .ref a0), (3, .int (nI to)), (8, .long (rest - 1)), (10, .int (nI k))]) [1, 2, 3, 0, 4] rfl ?_
              subst hF_108
              subst hV_108
              exact J_94 (rest - 1) (vp_updL sh k ((sh k) + 1)) (by simp only [if_neg c_69, if_neg c_75, if_neg c_94]; first | done | assumption) (by simp only [if_neg c_69, if_neg c_75, if_neg c_94]; first | done | assumption)
    have K_66 : ∀ (sh2 : Nat → Int64) (rest2 : Int64) (k2 : Nat), sh2 = ((L_X0_sd2 o to sh1 rest1 k1 (to - fr + 1) sh1 rest1 fr).1) → rest2 = ((L_X0_sd2 o to sh1 rest1 k1 (to - fr + 1) sh1 rest1 fr).2.1) → k2 = ((L_X0_sd2 o to sh1 rest1 k1 (to - fr + 1) sh1 rest1 fr).2.2) → zJ E 11 0 0 ([(WD cy d0 d1 (sDd_sh x sh2)), (WO cy a0 a1 a2 a3 o)] : List va_W).flatten 121 [] [] := by
      intro sh2 rest2 k2 hsh2 hrest2 hk2 
      subst hk2
      subst hrest2
      subst hsh2
      subst hk1
      subst hrest1
      subst hsh1
      have e : f_X0_shareOutDay x o fr to ofDay given = (sDd_sh x ((L_X0_sd2 o to ((L_X0_sd1 o to ofDay given (to - fr + 1) (gDd_sh x) given fr).1) ((L_X0_sd1 o to ofDay given (to - fr + 1) (gDd_sh x) given fr).2.1) ((L_X0_sd1 o to ofDay given (to - fr + 1) (gDd_sh x) given fr).2.2) (to - fr + 1) ((L_X0_sd1 o to ofDay given (to - fr + 1) (gDd_sh x) given fr).1) ((L_X0_sd1 o to ofDay given (to - fr + 1) (gDd_sh x) given fr).2.1) fr).1)) := by rfl
      rw [e] at hret
      exact hret _ _ dX0_shareOutDay_121
    refine zj_sub (L' := [(0, .ref d0), (1, .ref a0), (3, .int (nI to)), (8, .long rest1), (10, .int (nI fr))]) [1, 2, 4, 5, 0] rfl ?_
    exact loop_66 (to - fr + 1) sh1 rest1 fr (by omega) (Nat.lt_succ_self _) (K_66 _ _ _ rfl rfl rfl)
  refine zj_sub (L' := [(0, .ref d0), (1, .ref a0), (2, .int (nI fr)), (3, .int (nI to)), (4, .long ofDay), (6, .long given), (8, .long given), (10, .int (nI fr))]) [2, 3, 4, 5, 6, 7, 1, 0] rfl ?_
  refine zj_eq (ws' := ([(WD cy d0 d1 (sDd_sh x (gDd_sh x))), (WO cy a0 a1 a2 a3 o)] : List va_W).flatten) rfl rfl rfl rfl ?_
  exact loop_7 (to - fr + 1) (gDd_sh x) given fr (by omega) (Nat.lt_succ_self _) (K_7 _ _ _ rfl rfl rfl)

noncomputable def L_X0_so2 (o : zOd) (due : Nat) (fr : Nat) : Nat → (Nat) → (Nat)
  | 0, u => u
  | fuel + 1, u =>
    if due ≤ u then
      u
    else
      if ((gOd_dy o) u) = ((gOd_dy o) fr) then
        L_X0_so2 o due fr fuel (u + 1)
      else
        u
theorem L_X0_so2_s (o : zOd) (due : Nat) (fr : Nat) (fuel : Nat) (u : Nat) : L_X0_so2 o due fr (fuel + 1) u = (
    if due ≤ u then
      u
    else
      if ((gOd_dy o) u) = ((gOd_dy o) fr) then
        L_X0_so2 o due fr fuel (u + 1)
      else
        u
  ) := rfl
noncomputable def L_X0_so (x : zDd) (o : zOd) (due : Nat) : Nat → (Nat → Int64) → (Int64) → (Nat) → (Nat → Int64) × (Int64) × (Nat)
  | 0, sh, left, fr => (sh, left, fr)
  | fuel + 1, sh, left, fr =>
    if due ≤ fr then
      (sh, left, fr)
    else
      let u1 : Nat := (L_X0_so2 o due fr (due - (fr + 1) + 1) (fr + 1))
      let R_54 : Int64 := (f_X4_sum o fr u1)
      let T_77 : zDd := (f_X0_shareOutDay (sDd_sh x sh) o fr u1 R_54 (if left < R_54 then left else R_54))
      L_X0_so x o due fuel (gDd_sh T_77) (left - (if left < R_54 then left else R_54)) u1
theorem L_X0_so_s (x : zDd) (o : zOd) (due : Nat) (fuel : Nat) (sh : Nat → Int64) (left : Int64) (fr : Nat) : L_X0_so x o due (fuel + 1) sh left fr = (
    if due ≤ fr then
      (sh, left, fr)
    else
      let u1 : Nat := (L_X0_so2 o due fr (due - (fr + 1) + 1) (fr + 1))
      let R_54 : Int64 := (f_X4_sum o fr u1)
      let T_77 : zDd := (f_X0_shareOutDay (sDd_sh x sh) o fr u1 R_54 (if left < R_54 then left else R_54))
      L_X0_so x o due fuel (gDd_sh T_77) (left - (if left < R_54 then left else R_54)) u1
  ) := rfl
noncomputable def f_X0_shareOut (x : zDd) (o : zOd) (due : Nat) : zDd :=
  let sh1 : Nat → Int64 := ((L_X0_so x o due (due - 0 + 1) (gDd_sh x) (gDd_allowed x) 0).1)
  let left1 : Int64 := ((L_X0_so x o due (due - 0 + 1) (gDd_sh x) (gDd_allowed x) 0).2.1)
  let fr1 : Nat := ((L_X0_so x o due (due - 0 + 1) (gDd_sh x) (gDd_allowed x) 0).2.2)
  (sDd_sh x sh1)
set_option maxHeartbeats 4000000 in
set_option maxRecDepth 100000 in
theorem c_X0_shareOut (l : Launch) (D : va_G) (cy : Nat → ClassId) (d0 d1 : Nat) (a0 a1 a2 a3 : Nat) (due : Nat) (x : zDd) (o : zOd) (hd : due ≤ 20) : zC l yX0_shareOut (zW yX0_shareOut cX0_shareOut 11 (Option.none : Option Jvm.ClassFile.FieldType)) { frames := 1, cells := 0, slots := 0, locals := 30 } D cy [.ref d0, .ref a0, .int (nI due)] ([(WD cy d0 d1 x), (WO cy a0 a1 a2 a3 o)] : List va_W).flatten none ([(WD cy d0 d1 (f_X0_shareOut x o due)), (WO cy a0 a1 a2 a3 o)] : List va_W).flatten := by
  refine zC_of rfl (Nat.le_of_ble_eq_true rfl) zOk_v (fun E C hret => ?_)
  show zJ E 11 0 0 ([(WD cy d0 d1 x), (WO cy a0 a1 a2 a3 o)] : List va_W).flatten 0 [(0, .ref d0), (1, .ref a0), (2, .int (nI due))] []
  refine zj_aload_n C dX0_shareOut_0 0 rfl ?_
  refine zj_get C 0 0 4 (v := .long (gDd_allowed x)) inZ0 rfl rfl (by decide) tg_203 rfl dX0_shareOut_1 ?_
  refine zj_lstore_n C (L' := [(3, .long (gDd_allowed x)), (0, .ref d0), (1, .ref a0), (2, .int (nI due))]) dX0_shareOut_4 rfl (by decide) rfl ?_
  refine zj_iconst C (v := (nI 0)) dX0_shareOut_5 (by decide) ?_
  refine zj_istore C (L' := [(5, .int (nI 0)), (3, .long (gDd_allowed x)), (0, .ref d0), (1, .ref a0), (2, .int (nI due))]) dX0_shareOut_6 (by decide) rfl ?_
  have loop_8 : ∀ (fuel : Nat) (sh : Nat → Int64) (left : Int64) (fr : Nat), (hfr : fr ≤ 20) → due - fr < fuel → (zJ E 11 0 0 ([(WD cy d0 d1 (sDd_sh x ((L_X0_so x o due fuel sh left fr).1))), (WO cy a0 a1 a2 a3 o)] : List va_W).flatten 92 [] []) → zJ E 11 0 0 ([(WD cy d0 d1 (sDd_sh x sh)), (WO cy a0 a1 a2 a3 o)] : List va_W).flatten 8 [(0, .ref d0), (1, .ref a0), (2, .int (nI due)), (3, .long left), (5, .int (nI fr))] [] := by
    intro fuel
    induction fuel with
    | zero => intro sh left fr hfr hmu; exact absurd hmu (Nat.not_lt_zero _)
    | succ fuel ih_8 =>
      intro sh left fr hfr hmu_8 K_8
      refine zj_iload C dX0_shareOut_8 4 rfl ?_
      refine zj_iload_n C dX0_shareOut_10 2 rfl ?_
      refine zj_icmp_ge C 92 dX0_shareOut_11 (by decide) (fun c => ?_) (fun c => ?_)
      · have c_11 : due ≤ fr := ((nI_leI (by omega) (by omega)).mp c)
        refine zj_sub (L' := []) [] rfl ?_
        have e_8 : (L_X0_so x o due (fuel + 1) sh left fr) = (sh, left, fr) := by refine (L_X0_so_s x o due fuel sh left fr).trans ?_; refine (if_pos c_11).trans ?_; rfl
        rw [e_8] at K_8
        exact K_8 
      · have c_11 : ¬ (due ≤ fr) := (fun q => c ((nI_leI (by omega) (by omega)).mpr q))
        refine zj_iload C dX0_shareOut_14 4 rfl ?_
        refine zj_iconst C (v := (nI 1)) dX0_shareOut_16 (by decide) ?_
        refine zj_iadd C dX0_shareOut_17 ?_
        refine zj_topi (nI (fr + 1)) (nI_add _ _) ?_
        refine zj_istore C (L' := [(6, .int (nI (fr + 1))), (0, .ref d0), (1, .ref a0), (2, .int (nI due)), (3, .long left), (5, .int (nI fr))]) dX0_shareOut_18 (by decide) rfl ?_
        have loop_20 : ∀ (fuel : Nat) (u : Nat), (hu : u ≤ due) → (hu2 : fr < u) → due - u < fuel → ((L_X0_so2 o due fr fuel u) ≤ due → fr < (L_X0_so2 o due fr fuel u) → zJ E 11 0 0 ([(WD cy d0 d1 (sDd_sh x sh)), (WO cy a0 a1 a2 a3 o)] : List va_W).flatten 49 [(0, .ref d0), (1, .ref a0), (2, .int (nI due)), (3, .long left), (5, .int (nI fr)), (6, .int (nI (L_X0_so2 o due fr fuel u)))] []) → zJ E 11 0 0 ([(WD cy d0 d1 (sDd_sh x sh)), (WO cy a0 a1 a2 a3 o)] : List va_W).flatten 20 [(0, .ref d0), (1, .ref a0), (2, .int (nI due)), (3, .long left), (5, .int (nI fr)), (6, .int (nI u))] [] := by
          intro fuel
          induction fuel with
          | zero => intro u hu hu2 hmu; exact absurd hmu (Nat.not_lt_zero _)
          | succ fuel ih_20 =>
            intro u hu hu2 hmu_20 K_20
            refine zj_iload C dX0_shareOut_20 5 rfl ?_
            refine zj_iload_n C dX0_shareOut_22 2 rfl ?_
            refine zj_icmp_ge C 49 dX0_shareOut_23 (by decide) (fun c => ?_) (fun c => ?_)
            · have c_23 : due ≤ u := ((nI_leI (by omega) (by omega)).mp c)
              have e_20 : (L_X0_so2 o due fr (fuel + 1) u) = u := by refine (L_X0_so2_s o due fr fuel u).trans ?_; refine (if_pos c_23).trans ?_; rfl
              rw [e_20] at K_20
              exact K_20 hu hu2
            · have c_23 : ¬ (due ≤ u) := (fun q => c ((nI_leI (by omega) (by omega)).mpr q))
              refine zj_aload_n C dX0_shareOut_26 1 rfl ?_
              refine zj_get C 2 4 3 (v := .ref a3) inZ4 rfl rfl (by decide) tg_84 rfl dX0_shareOut_27 ?_
              refine zj_iload C dX0_shareOut_30 5 rfl ?_
              refine zj_iald C 5 (f := (gOd_dy o)) u (nI_clamp (by omega)) (vp_in_nI (by omega) (by omega)) rfl dX0_shareOut_32 ?_
              refine zj_aload_n C dX0_shareOut_33 1 rfl ?_
              refine zj_get C 2 4 3 (v := .ref a3) inZ4 rfl rfl (by decide) tg_84 rfl dX0_shareOut_34 ?_
              refine zj_iload C dX0_shareOut_37 4 rfl ?_
              refine zj_iald C 5 (f := (gOd_dy o)) fr (nI_clamp (by omega)) (vp_in_nI (by omega) (by omega)) rfl dX0_shareOut_39 ?_
              refine zj_icmp_ne C 49 dX0_shareOut_40 (by decide) (fun c => ?_) (fun c => ?_)
              · have c_40 : ¬ (((gOd_dy o) u) = ((gOd_dy o) fr)) := c
                have e_20 : (L_X0_so2 o due fr (fuel + 1) u) = u := by refine (L_X0_so2_s o due fr fuel u).trans ?_; refine (if_neg c_23).trans ?_; refine (if_neg c_40).trans ?_; rfl
                rw [e_20] at K_20
                exact K_20 hu hu2
              · have c_40 : ((gOd_dy o) u) = ((gOd_dy o) fr) := (Classical.not_not.mp c)
                refine zj_iinc C (j := 5) (v := (nI (u + 1))) (L' := [(6, .int (nI (u + 1))), (0, .ref d0), (1, .ref a0), (2, .int (nI due)), (3, .long left), (5, .int (nI fr))]) dX0_shareOut_43 rfl (nI_1 _) (by decide) rfl ?_
                refine zj_goto C 20 dX0_shareOut_46 (by decide) ?_
                refine zj_sub (L' := [(0, .ref d0), (1, .ref a0), (2, .int (nI due)), (3, .long left), (5, .int (nI fr)), (6, .int (nI (u + 1)))]) [1, 2, 3, 4, 5, 0] rfl ?_
                have hn_hu : (u + 1) ≤ due := (by omega)
                have hn_hu2 : fr < (u + 1) := (by omega)
                have hn_mu : due - (u + 1) < fuel := (by omega)
                have e_20 : (L_X0_so2 o due fr (fuel + 1) u) = (L_X0_so2 o due fr fuel (u + 1)) := by refine (L_X0_so2_s o due fr fuel u).trans ?_; refine (if_neg c_23).trans ?_; refine (if_pos c_40).trans ?_; rfl
                rw [e_20] at K_20
                exact ih_20 (u + 1) hn_hu hn_hu2 hn_mu K_20
        have K_20 : ∀ (u1 : Nat), u1 = (L_X0_so2 o due fr (due - (fr + 1) + 1) (fr + 1)) → (pu_e : u1 ≤ due) → (pu2_e : fr < u1) → zJ E 11 0 0 ([(WD cy d0 d1 (sDd_sh x sh)), (WO cy a0 a1 a2 a3 o)] : List va_W).flatten 49 [(0, .ref d0), (1, .ref a0), (2, .int (nI due)), (3, .long left), (5, .int (nI fr)), (6, .int (nI u1))] [] := by
          intro u1 hu1 pu_e pu2_e
          refine zj_aload_n C dX0_shareOut_49 1 rfl ?_
          refine zj_iload C dX0_shareOut_50 4 rfl ?_
          refine zj_iload C dX0_shareOut_52 5 rfl ?_
          have M_54 := c_X4_sum l D cy a0 a1 a2 a3 fr u1 o (by omega) (by omega)
          obtain ⟨R_54, hR_54⟩ : ∃ g : Int64, g = (f_X4_sum o fr u1) := ⟨_, rfl⟩
          rw [← hR_54] at M_54
          refine zj_callVF1 C (nn := 4) (Bs' := ([(WD cy d0 d1 (sDd_sh x sh)), (WO cy a0 a1 a2 a3 o)] : List va_W)) (st := []) (st1 := [.long R_54]) 1 0 4 (M_54) (zg_V tg_447 tg_444 tg_445 tg_446 tg_4) ⟨rfl, hdZ_X4_sum⟩ ⟨rfl, rfl⟩ ⟨by decide, by decide⟩ rfl rfl rfl ⟨rfl, rfl⟩ rfl rfl (Nat.le_of_ble_eq_true rfl) dX0_shareOut_54 rfl rfl ?_
          refine zj_lstore C (L' := [(7, .long R_54), (0, .ref d0), (1, .ref a0), (2, .int (nI due)), (3, .long left), (5, .int (nI fr)), (6, .int (nI u1))]) dX0_shareOut_57 (by decide) rfl ?_
          refine zj_lload C dX0_shareOut_59 0 rfl ?_
          refine zj_lload_n C dX0_shareOut_61 4 rfl ?_
          refine zj_mmin C (x := R_54) (y := left) tg_449 ⟨by decide, Nat.le_of_ble_eq_true rfl⟩ dX0_shareOut_62 ?_
          refine zj_lstore C (L' := [(9, .long (if left < R_54 then left else R_54)), (7, .long R_54), (0, .ref d0), (1, .ref a0), (2, .int (nI due)), (3, .long left), (5, .int (nI fr)), (6, .int (nI u1))]) dX0_shareOut_65 (by decide) rfl ?_
          refine zj_aload_n C dX0_shareOut_67 2 rfl ?_
          refine zj_aload_n C dX0_shareOut_68 3 rfl ?_
          refine zj_iload C dX0_shareOut_69 6 rfl ?_
          refine zj_iload C dX0_shareOut_71 7 rfl ?_
          refine zj_lload C dX0_shareOut_73 1 rfl ?_
          refine zj_lload C dX0_shareOut_75 0 rfl ?_
          have M_77 := c_X0_shareOutDay l D cy d0 d1 a0 a1 a2 a3 fr u1 R_54 (if left < R_54 then left else R_54) (sDd_sh x sh) o (by omega) (by omega)
          obtain ⟨T_77, hT_77⟩ : ∃ g : zDd, g = (f_X0_shareOutDay (sDd_sh x sh) o fr u1 R_54 (if left < R_54 then left else R_54)) := ⟨_, rfl⟩
          rw [← hT_77] at M_77
          refine zj_callVF C (nn := 6) (Bs' := ([(WD cy d0 d1 T_77), (WO cy a0 a1 a2 a3 o)] : List va_W)) (st := []) (st1 := []) [(WD cy d0 d1 (sDd_sh x sh)), (WO cy a0 a1 a2 a3 o)] [(WD cy d0 d1 T_77), (WO cy a0 a1 a2 a3 o)] [0, 1] 0 0 (M_77) rfl rfl (zg_V tg_465 tg_462 tg_464 tgp_5 tg_6) ⟨rfl, hdZ_X0_shareOutDay⟩ ⟨rfl, rfl⟩ ⟨by decide, by decide⟩ rfl rfl rfl (by decide) ⟨rfl, rfl⟩ rfl rfl rfl (Nat.le_of_ble_eq_true rfl) dX0_shareOut_77 rfl rfl ?_
          refine zj_lload_n C dX0_shareOut_80 5 rfl ?_
          refine zj_lload C dX0_shareOut_81 0 rfl ?_
          refine zj_lsub C dX0_shareOut_83 ?_
          refine zj_lstore_n C (L' := [(3, .long (left - (if left < R_54 then left else R_54))), (9, .long (if left < R_54 then left else R_54)), (7, .long R_54), (0, .ref d0), (1, .ref a0), (2, .int (nI due)), (5, .int (nI fr)), (6, .int (nI u1))]) dX0_shareOut_84 rfl (by decide) rfl ?_
          refine zj_iload C dX0_shareOut_85 7 rfl ?_
          refine zj_istore C (L' := [(5, .int (nI u1)), (3, .long (left - (if left < R_54 then left else R_54))), (9, .long (if left < R_54 then left else R_54)), (7, .long R_54), (0, .ref d0), (1, .ref a0), (2, .int (nI due)), (6, .int (nI u1))]) dX0_shareOut_87 (by decide) rfl ?_
          refine zj_goto C 8 dX0_shareOut_89 (by decide) ?_
          refine zj_sub (L' := [(0, .ref d0), (1, .ref a0), (2, .int (nI due)), (3, .long (left - (if left < R_54 then left else R_54))), (5, .int (nI u1))]) [4, 5, 6, 1, 0] rfl ?_
          refine zj_eq (ws' := ([(WD cy d0 d1 (sDd_sh x (gDd_sh T_77))), (WO cy a0 a1 a2 a3 o)] : List va_W).flatten) (by rw [hT_77]; rfl) rfl rfl rfl ?_
          have hn_hfr : u1 ≤ 20 := (by omega)
          have hn_mu : due - u1 < fuel := (by omega)
          subst hT_77
          subst hR_54
          subst hu1
          have e_8 : (L_X0_so x o due (fuel + 1) sh left fr) = (L_X0_so x o due fuel (gDd_sh (f_X0_shareOutDay (sDd_sh x sh) o fr (L_X0_so2 o due fr (due - (fr + 1) + 1) (fr + 1)) (f_X4_sum o fr (L_X0_so2 o due fr (due - (fr + 1) + 1) (fr + 1))) (if left < (f_X4_sum o fr (L_X0_so2 o due fr (due - (fr + 1) + 1) (fr + 1))) then left else (f_X4_sum o fr (L_X0_so2 o due fr (due - (fr + 1) + 1) (fr + 1)))))) (left - (if left < (f_X4_sum o fr (L_X0_so2 o due fr (due - (fr + 1) + 1) (fr + 1))) then left else (f_X4_sum o fr (L_X0_so2 o due fr (due - (fr + 1) + 1) (fr + 1))))) (L_X0_so2 o due fr (due - (fr + 1) + 1) (fr + 1))) := by refine (L_X0_so_s x o due fuel sh left fr).trans ?_; refine (if_neg c_11).trans ?_; rfl
          rw [e_8] at K_8
          exact ih_8 (gDd_sh (f_X0_shareOutDay (sDd_sh x sh) o fr (L_X0_so2 o due fr (due - (fr + 1) + 1) (fr + 1)) (f_X4_sum o fr (L_X0_so2 o due fr (due - (fr + 1) + 1) (fr + 1))) (if left < (f_X4_sum o fr (L_X0_so2 o due fr (due - (fr + 1) + 1) (fr + 1))) then left else (f_X4_sum o fr (L_X0_so2 o due fr (due - (fr + 1) + 1) (fr + 1)))))) (left - (if left < (f_X4_sum o fr (L_X0_so2 o due fr (due - (fr + 1) + 1) (fr + 1))) then left else (f_X4_sum o fr (L_X0_so2 o due fr (due - (fr + 1) + 1) (fr + 1))))) (L_X0_so2 o due fr (due - (fr + 1) + 1) (fr + 1)) hn_hfr hn_mu K_8
        refine zj_sub (L' := [(0, .ref d0), (1, .ref a0), (2, .int (nI due)), (3, .long left), (5, .int (nI fr)), (6, .int (nI (fr + 1)))]) [1, 2, 3, 4, 5, 0] rfl ?_
        exact loop_20 (due - (fr + 1) + 1) (fr + 1) (by omega) (by omega) (Nat.lt_succ_self _) (K_20 _ rfl)
  have K_8 : ∀ (sh1 : Nat → Int64) (left1 : Int64) (fr1 : Nat), sh1 = ((L_X0_so x o due (due - 0 + 1) (gDd_sh x) (gDd_allowed x) 0).1) → left1 = ((L_X0_so x o due (due - 0 + 1) (gDd_sh x) (gDd_allowed x) 0).2.1) → fr1 = ((L_X0_so x o due (due - 0 + 1) (gDd_sh x) (gDd_allowed x) 0).2.2) → zJ E 11 0 0 ([(WD cy d0 d1 (sDd_sh x sh1)), (WO cy a0 a1 a2 a3 o)] : List va_W).flatten 92 [] [] := by
    intro sh1 left1 fr1 hsh1 hleft1 hfr1 
    subst hfr1
    subst hleft1
    subst hsh1
    have e : f_X0_shareOut x o due = (sDd_sh x ((L_X0_so x o due (due - 0 + 1) (gDd_sh x) (gDd_allowed x) 0).1)) := by rfl
    rw [e] at hret
    exact hret _ _ dX0_shareOut_92
  refine zj_sub (L' := [(0, .ref d0), (1, .ref a0), (2, .int (nI due)), (3, .long (gDd_allowed x)), (5, .int (nI 0))]) [2, 3, 4, 1, 0] rfl ?_
  refine zj_eq (ws' := ([(WD cy d0 d1 (sDd_sh x (gDd_sh x))), (WO cy a0 a1 a2 a3 o)] : List va_W).flatten) rfl rfl rfl rfl ?_
  exact loop_8 (due - 0 + 1) (gDd_sh x) (gDd_allowed x) 0 (by omega) (Nat.lt_succ_self _) (K_8 _ _ _ rfl rfl rfl)
