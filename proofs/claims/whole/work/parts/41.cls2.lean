def zGi : Nat → Int32 := fun k => match k with
  | 0 => 23
  | 1 => 1000
  | 2 => 100
  | 3 => 1000
  | _ => 50
theorem zGf_i (k : Nat) : zGf k = .int (zGi k) := by
  match k with
  | 0 => rfl
  | 1 => rfl
  | 2 => rfl
  | 3 => rfl
  | _ + 4 => rfl
section ZGT
variable {E : zE} {cc : ByteArray} {nL : Nat} {own : String} {R : Room} {cy : Nat → ClassId} {l : Launch} {D : va_G} {k n : Nat} {ws : va_W} {pc : Nat} {L : List (Nat × Value)} {st : List Value}
theorem zj_gst (C : zO E cc nL own R cy l D) (ho : own = "SwingUnits$Trust") (d : decode cc pc = .ok (.getstatic 86, 3)) (kk : ∀ t : Nat, va_T .int t 5 zGf E.2.2.2.2.2.1 E.1.2.2.2.2.1 E.1.2.2.2.2.1.heap → zJ E nL k n ws (pc + 3) L (.ref t :: st)) : zJ E nL k n ws pc L st := fun H locs ls hP hD hS hl => by
  obtain ⟨h1, h2, h3, t, h4, h5⟩ := C.X
  subst ho
  exact va_getsN C.xx C.bb h4 hS C.wn (va_Nw.use rfl h1) (fun _ h => h) d (kk t h5 H locs ls hP hD hS hl)
theorem zj_gald (C : zO E cc nL own R cy l D) {t : Nat} (hT : va_T .int t 5 zGf E.2.2.2.2.2.1 E.1.2.2.2.2.1 E.1.2.2.2.2.1.heap) {i : Int32} (j : Nat) (hj : i.toNatClampNeg = j) (hin : vp_in i 5) (d : decode cc pc = .ok (.iaload, 1)) (kk : zJ E nL k n ws (pc + 1) L (.int (zGi j) :: st)) : zJ E nL k n ws pc L (.int i :: .ref t :: st) := fun H locs ls hP hD hS hl => va_ti C.xx C.bb hT hS hin (by rw [hj]; exact zGf_i j) d (kk H locs ls hP hD hS hl)
end ZGT
theorem WT_same {cy : Nat → ClassId} {a : Nat → Nat} {t : zTr} {h : Nat} (hh : h < 6) : (WT cy a t).set (12 + h) (a (12 + h), .inr (2, vHd (gTr_hd t h))) = WT cy a t := by
  rcases (show h = 0 ∨ h = 1 ∨ h = 2 ∨ h = 3 ∨ h = 4 ∨ h = 5 by omega) with rfl | rfl | rfl | rfl | rfl | rfl <;> rfl
theorem WT_hC {cy : Nat → ClassId} {a : Nat → Nat} {t : zTr} {h : Nat} (hh : h < 6) : ([12 + h] : List Nat).map (fun i => (WT cy a t)[i]?) = (WH (a (12 + h)) (gTr_hd t h)).map some := by
  show [(WT cy a t)[12 + h]?] = _
  rw [WT_h hh]
  rfl
theorem zne_le {x : Int64} (c : ¬ x ≤ 0) : ¬ x = 0 := fun e => c (by rw [e]; decide)

noncomputable def f_X7_isHolder (h : Int32) : Bool :=
  let x1_0 : Bool := (if h < 0 then false else (if (nI 6) ≤ h then false else true))
  x1_0
set_option maxHeartbeats 4000000 in
set_option maxRecDepth 100000 in
theorem c_X7_isHolder (l : Launch) (D : va_G) (cy : Nat → ClassId)  (h : Int32)   : zC l yX7_isHolder (zW yX7_isHolder cX7_isHolder 1 (Option.some Jvm.ClassFile.FieldType.boolean)) { frames := 0, cells := 0, slots := 0, locals := 0 } D cy [.int h] ([] : va_W) (some (.int (zB (f_X7_isHolder h)))) ([] : va_W) := by
  refine zC_of rfl (Nat.le_of_ble_eq_true rfl) (zOk_z (zB_01 _)) (fun E C hret => ?_)
  show zJ E 1 0 0 ([] : va_W) 0 [(0, .int h)] []
  refine zj_iload_n C dX7_isHolder_0 0 rfl ?_
  have J_1 : ∀ (x1_0 : Bool), x1_0 = (if h < 0 then false else (if (nI 6) ≤ h then false else true)) → zJ E 1 0 0 ([] : va_W) 15 [(0, .int h)] [.int (zB x1_0)] := by
    intro x1_0 hx1_0
    subst hx1_0
    have e : f_X7_isHolder h = (if h < 0 then false else (if (nI 6) ≤ h then false else true)) := by rfl
    rw [e] at hret
    exact hret _ _ dX7_isHolder_15
  refine zj_if_lt C 14 dX7_isHolder_1 (by decide) (fun c => ?_) (fun c => ?_)
  · have c_1 : h < 0 := c
    refine zj_iconst C (v := (nI 0)) dX7_isHolder_14 (by decide) ?_
    exact J_1 false (by simp only [if_pos c_1]; first | done | assumption)
  · have c_1 : ¬ (h < 0) := c
    refine zj_iload_n C dX7_isHolder_4 0 rfl ?_
    refine zj_bipush C (v := (nI 6)) dX7_isHolder_5 (by decide) ?_
    have J_7 : ∀ (x7_0 : Bool), x7_0 = (if (nI 6) ≤ h then false else true) → zJ E 1 0 0 ([] : va_W) 15 [(0, .int h)] [.int (zB x7_0)] := by
      intro x7_0 hx7_0
      exact J_1 x7_0 (by simp only [if_neg c_1]; first | done | assumption)
    refine zj_icmp_ge C 14 dX7_isHolder_7 (by decide) (fun c => ?_) (fun c => ?_)
    · have c_7 : (nI 6) ≤ h := c
      refine zj_iconst C (v := (nI 0)) dX7_isHolder_14 (by decide) ?_
      exact J_7 false (by simp only [if_neg c_1, if_pos c_7]; first | done | assumption)
    · have c_7 : ¬ ((nI 6) ≤ h) := c
      refine zj_iconst C (v := (nI 1)) dX7_isHolder_10 (by decide) ?_
      refine zj_goto C 15 dX7_isHolder_11 (by decide) ?_
      exact J_7 true (by simp only [if_neg c_1, if_neg c_7]; first | done | assumption)

theorem xh_t {h : Int32} (c : ¬ f_X7_isHolder h = false) : ¬ h < 0 ∧ ¬ nI 6 ≤ h := by
  by_cases q1 : h < 0
  · exact absurd (show f_X7_isHolder h = false from if_pos q1) c
  · by_cases q2 : nI 6 ≤ h
    · exact absurd (show f_X7_isHolder h = false from (if_neg q1).trans (if_pos q2)) c
    · exact ⟨q1, q2⟩
theorem xh_eq {h : Int32} (c : ¬ f_X7_isHolder h = false) : h = nI h.toNatClampNeg := by
  obtain ⟨j, hj, rfl⟩ := nI_of (xh_t c).1
  rw [nI_clamp hj]
theorem xh_lt {h : Int32} (c : ¬ f_X7_isHolder h = false) : h.toNatClampNeg < 6 := by
  obtain ⟨j, hj, e⟩ := nI_of (xh_t c).1
  have := (xh_t c).2
  subst e
  rw [nI_leI (by decide) hj] at this
  rw [nI_clamp hj]; omega

noncomputable def f_X6_value (t : zTr) : Int64 :=
  ((gTr_cash t) + ((((gTr_lots t)).toInt64) * (((gTr_quote t)).toInt64)))
set_option maxHeartbeats 4000000 in
set_option maxRecDepth 100000 in
theorem c_X6_value (l : Launch) (D : va_G) (cy : Nat → ClassId) (a : Nat → Nat)  (t : zTr)  : zC l yX6_value (zW yX6_value cX6_value 1 (Option.some Jvm.ClassFile.FieldType.long)) { frames := 0, cells := 0, slots := 0, locals := 0 } D cy [.ref (a 0)] (WT cy a t) (some (.long (f_X6_value t))) (WT cy a t) := by
  refine zC_of rfl (Nat.le_of_ble_eq_true rfl) (zOk_l _) (fun E C hret => ?_)
  show zJ E 1 0 0 (WT cy a t) 0 [(0, .ref (a 0))] []
  refine zj_aload_n C dX6_value_0 0 rfl ?_
  refine zj_get C 0 6 0 (v := .long (gTr_cash t)) inZ6 rfl rfl (by decide) tg_139 rfl dX6_value_1 ?_
  refine zj_aload_n C dX6_value_4 0 rfl ?_
  refine zj_get C 0 6 3 (v := .int (gTr_lots t)) inZ6 rfl rfl (by decide) tg_146 rfl dX6_value_5 ?_
  refine zj_i2l C dX6_value_8 ?_
  refine zj_aload_n C dX6_value_9 0 rfl ?_
  refine zj_get C 0 6 4 (v := .int (gTr_quote t)) inZ6 rfl rfl (by decide) tg_148 rfl dX6_value_10 ?_
  refine zj_i2l C dX6_value_13 ?_
  refine zj_lmul C dX6_value_14 ?_
  refine zj_ladd C dX6_value_15 ?_
  have e : f_X6_value t = ((gTr_cash t) + ((((gTr_lots t)).toInt64) * (((gTr_quote t)).toInt64))) := by rfl
  rw [e] at hret
  exact hret _ _ dX6_value_16

noncomputable def L_X6_units (t : zTr) : Nat → (Int64) → (Nat) → (Int64) × (Nat)
  | 0, sm, j => (sm, j)
  | fuel + 1, sm, j =>
    if 6 ≤ j then
      (sm, j)
    else
      L_X6_units t fuel (sm + (f_X2_units (gTr_hd t j))) (j + 1)
theorem L_X6_units_s (t : zTr) (fuel : Nat) (sm : Int64) (j : Nat) : L_X6_units t (fuel + 1) sm j = (
    if 6 ≤ j then
      (sm, j)
    else
      L_X6_units t fuel (sm + (f_X2_units (gTr_hd t j))) (j + 1)
  ) := rfl
noncomputable def f_X6_units (t : zTr) : Int64 :=
  let sm1 : Int64 := ((L_X6_units t (6 - 0 + 1) 0 0).1)
  let j1 : Nat := ((L_X6_units t (6 - 0 + 1) 0 0).2)
  sm1
set_option maxHeartbeats 4000000 in
set_option maxRecDepth 100000 in
theorem c_X6_units (l : Launch) (D : va_G) (cy : Nat → ClassId) (a : Nat → Nat)  (t : zTr)  : zC l yX6_units (zW yX6_units cX6_units 4 (Option.some Jvm.ClassFile.FieldType.long)) { frames := 1, cells := 0, slots := 0, locals := 20 } D cy [.ref (a 0)] (WT cy a t) (some (.long (f_X6_units t))) (WT cy a t) := by
  refine zC_of rfl (Nat.le_of_ble_eq_true rfl) (zOk_l _) (fun E C hret => ?_)
  show zJ E 4 0 0 (WT cy a t) 0 [(0, .ref (a 0))] []
  refine zj_lconst C (v := 0) dX6_units_0 (by decide) ?_
  refine zj_lstore_n C (L' := [(1, .long 0), (0, .ref (a 0))]) dX6_units_1 rfl (by decide) rfl ?_
  refine zj_iconst C (v := (nI 0)) dX6_units_2 (by decide) ?_
  refine zj_istore_n C (L' := [(3, .int (nI 0)), (1, .long 0), (0, .ref (a 0))]) dX6_units_3 rfl (by decide) rfl ?_
  have loop_4 : ∀ (fuel : Nat) (sm : Int64) (j : Nat), (hj : j ≤ 6) → 6 - j < fuel → (zJ E 4 0 0 (WT cy a t) 28 [(0, .ref (a 0)), (1, .long ((L_X6_units t fuel sm j).1))] []) → zJ E 4 0 0 (WT cy a t) 4 [(0, .ref (a 0)), (1, .long sm), (3, .int (nI j))] [] := by
    intro fuel
    induction fuel with
    | zero => intro sm j hj hmu; exact absurd hmu (Nat.not_lt_zero _)
    | succ fuel ih_4 =>
      intro sm j hj hmu_4 K_4
      refine zj_iload_n C dX6_units_4 2 rfl ?_
      refine zj_bipush C (v := (nI 6)) dX6_units_5 (by decide) ?_
      refine zj_icmp_ge C 28 dX6_units_7 (by decide) (fun c => ?_) (fun c => ?_)
      · have c_7 : 6 ≤ j := ((nI_leI (by omega) (by omega)).mp c)
        refine zj_sub (L' := [(0, .ref (a 0)), (1, .long sm)]) [0, 1] rfl ?_
        have e_4 : (L_X6_units t (fuel + 1) sm j) = (sm, j) := by refine (L_X6_units_s t fuel sm j).trans ?_; refine (if_pos c_7).trans ?_; rfl
        rw [e_4] at K_4
        exact K_4 
      · have c_7 : ¬ (6 ≤ j) := (fun q => c ((nI_leI (by omega) (by omega)).mpr q))
        refine zj_lload_n C dX6_units_10 1 rfl ?_
        refine zj_aload_n C dX6_units_11 0 rfl ?_
        refine zj_get C 0 6 7 (v := .ref (a 2)) inZ6 rfl rfl (by decide) tg_156 rfl dX6_units_12 ?_
        refine zj_iload_n C dX6_units_15 2 rfl ?_
        refine zj_aald C 2 4 (f := (fun k => some (a (12 + k)))) (b := (a (12 + j))) j (nI_clamp (by omega)) (vp_in_nI (by omega) (by omega)) rfl rfl rfl dX6_units_16 ?_
        refine zj_callV C (nn := 1) (ws' := (WT cy a t)) (st := [.long sm]) (st1 := [.long (f_X2_units (gTr_hd t j)), .long sm]) (12 + j) 2 [(12 + j)] (c_X2_units l D cy (a (12 + j))  (gTr_hd t j) ) (zg_V tg_381 tg_378 tg_379 tg_380 tg_3) ⟨rfl, hdZ_X2_units⟩ ⟨rfl, rfl⟩ ⟨by decide, by decide⟩ (WT_h (by omega)) rfl (WT_hC (by omega)) rfl ⟨rfl, rfl⟩ rfl rfl (Nat.le_of_ble_eq_true rfl) dX6_units_17 (WT_same (by omega)) rfl ?_
        refine zj_ladd C dX6_units_20 ?_
        refine zj_lstore_n C (L' := [(1, .long (sm + (f_X2_units (gTr_hd t j)))), (0, .ref (a 0)), (3, .int (nI j))]) dX6_units_21 rfl (by decide) rfl ?_
        refine zj_iinc C (j := 2) (v := (nI (j + 1))) (L' := [(3, .int (nI (j + 1))), (1, .long (sm + (f_X2_units (gTr_hd t j)))), (0, .ref (a 0))]) dX6_units_22 rfl (nI_1 _) (by decide) rfl ?_
        refine zj_goto C 4 dX6_units_25 (by decide) ?_
        refine zj_sub (L' := [(0, .ref (a 0)), (1, .long (sm + (f_X2_units (gTr_hd t j)))), (3, .int (nI (j + 1)))]) [2, 1, 0] rfl ?_
        have hn_hj : (j + 1) ≤ 6 := (by omega)
        have hn_mu : 6 - (j + 1) < fuel := (by omega)
        have e_4 : (L_X6_units t (fuel + 1) sm j) = (L_X6_units t fuel (sm + (f_X2_units (gTr_hd t j))) (j + 1)) := by refine (L_X6_units_s t fuel sm j).trans ?_; refine (if_neg c_7).trans ?_; rfl
        rw [e_4] at K_4
        exact ih_4 (sm + (f_X2_units (gTr_hd t j))) (j + 1) hn_hj hn_mu K_4
  have K_4 : ∀ (sm1 : Int64) (j1 : Nat), sm1 = ((L_X6_units t (6 - 0 + 1) 0 0).1) → j1 = ((L_X6_units t (6 - 0 + 1) 0 0).2) → zJ E 4 0 0 (WT cy a t) 28 [(0, .ref (a 0)), (1, .long sm1)] [] := by
    intro sm1 j1 hsm1 hj1 
    refine zj_lload_n C dX6_units_28 1 rfl ?_
    subst hj1
    subst hsm1
    have e : f_X6_units t = ((L_X6_units t (6 - 0 + 1) 0 0).1) := by rfl
    rw [e] at hret
    exact hret _ _ dX6_units_29
  refine zj_sub (L' := [(0, .ref (a 0)), (1, .long 0), (3, .int (nI 0))]) [2, 1, 0] rfl ?_
  exact loop_4 (6 - 0 + 1) 0 0 (by omega) (Nat.lt_succ_self _) (K_4 _ _ rfl rfl)

noncomputable def L_X6_newUnits (t : zTr) : Nat → (Int64) → (Nat) → (Int64) × (Nat)
  | 0, sm, j => (sm, j)
  | fuel + 1, sm, j =>
    if 6 ≤ j then
      (sm, j)
    else
      L_X6_newUnits t fuel (sm + (gHd_new (gTr_hd t j))) (j + 1)
theorem L_X6_newUnits_s (t : zTr) (fuel : Nat) (sm : Int64) (j : Nat) : L_X6_newUnits t (fuel + 1) sm j = (
    if 6 ≤ j then
      (sm, j)
    else
      L_X6_newUnits t fuel (sm + (gHd_new (gTr_hd t j))) (j + 1)
  ) := rfl
noncomputable def f_X6_newUnits (t : zTr) : Int64 :=
  let sm1 : Int64 := ((L_X6_newUnits t (6 - 0 + 1) 0 0).1)
  let j1 : Nat := ((L_X6_newUnits t (6 - 0 + 1) 0 0).2)
  sm1
set_option maxHeartbeats 4000000 in
set_option maxRecDepth 100000 in
theorem c_X6_newUnits (l : Launch) (D : va_G) (cy : Nat → ClassId) (a : Nat → Nat)  (t : zTr)  : zC l yX6_newUnits (zW yX6_newUnits cX6_newUnits 4 (Option.some Jvm.ClassFile.FieldType.long)) { frames := 0, cells := 0, slots := 0, locals := 0 } D cy [.ref (a 0)] (WT cy a t) (some (.long (f_X6_newUnits t))) (WT cy a t) := by
  refine zC_of rfl (Nat.le_of_ble_eq_true rfl) (zOk_l _) (fun E C hret => ?_)
  show zJ E 4 0 0 (WT cy a t) 0 [(0, .ref (a 0))] []
  refine zj_lconst C (v := 0) dX6_newUnits_0 (by decide) ?_
  refine zj_lstore_n C (L' := [(1, .long 0), (0, .ref (a 0))]) dX6_newUnits_1 rfl (by decide) rfl ?_
  refine zj_iconst C (v := (nI 0)) dX6_newUnits_2 (by decide) ?_
  refine zj_istore_n C (L' := [(3, .int (nI 0)), (1, .long 0), (0, .ref (a 0))]) dX6_newUnits_3 rfl (by decide) rfl ?_
  have loop_4 : ∀ (fuel : Nat) (sm : Int64) (j : Nat), (hj : j ≤ 6) → 6 - j < fuel → (zJ E 4 0 0 (WT cy a t) 28 [(0, .ref (a 0)), (1, .long ((L_X6_newUnits t fuel sm j).1))] []) → zJ E 4 0 0 (WT cy a t) 4 [(0, .ref (a 0)), (1, .long sm), (3, .int (nI j))] [] := by
    intro fuel
    induction fuel with
    | zero => intro sm j hj hmu; exact absurd hmu (Nat.not_lt_zero _)
    | succ fuel ih_4 =>
      intro sm j hj hmu_4 K_4
      refine zj_iload_n C dX6_newUnits_4 2 rfl ?_
      refine zj_bipush C (v := (nI 6)) dX6_newUnits_5 (by decide) ?_
      refine zj_icmp_ge C 28 dX6_newUnits_7 (by decide) (fun c => ?_) (fun c => ?_)
      · have c_7 : 6 ≤ j := ((nI_leI (by omega) (by omega)).mp c)
        refine zj_sub (L' := [(0, .ref (a 0)), (1, .long sm)]) [0, 1] rfl ?_
        have e_4 : (L_X6_newUnits t (fuel + 1) sm j) = (sm, j) := by refine (L_X6_newUnits_s t fuel sm j).trans ?_; refine (if_pos c_7).trans ?_; rfl
        rw [e_4] at K_4
        exact K_4 
      · have c_7 : ¬ (6 ≤ j) := (fun q => c ((nI_leI (by omega) (by omega)).mpr q))
        refine zj_lload_n C dX6_newUnits_10 1 rfl ?_
        refine zj_aload_n C dX6_newUnits_11 0 rfl ?_
        refine zj_get C 0 6 7 (v := .ref (a 2)) inZ6 rfl rfl (by decide) tg_156 rfl dX6_newUnits_12 ?_
        refine zj_iload_n C dX6_newUnits_15 2 rfl ?_
        refine zj_aald C 2 4 (f := (fun k => some (a (12 + k)))) (b := (a (12 + j))) j (nI_clamp (by omega)) (vp_in_nI (by omega) (by omega)) rfl rfl rfl dX6_newUnits_16 ?_
        refine zj_get C (12 + j) 2 1 (v := .long (gHd_new (gTr_hd t j))) inZ2 (WT_h (by omega)) rfl (by decide) tg_36 rfl dX6_newUnits_17 ?_
        refine zj_ladd C dX6_newUnits_20 ?_
        refine zj_lstore_n C (L' := [(1, .long (sm + (gHd_new (gTr_hd t j)))), (0, .ref (a 0)), (3, .int (nI j))]) dX6_newUnits_21 rfl (by decide) rfl ?_
        refine zj_iinc C (j := 2) (v := (nI (j + 1))) (L' := [(3, .int (nI (j + 1))), (1, .long (sm + (gHd_new (gTr_hd t j)))), (0, .ref (a 0))]) dX6_newUnits_22 rfl (nI_1 _) (by decide) rfl ?_
        refine zj_goto C 4 dX6_newUnits_25 (by decide) ?_
        refine zj_sub (L' := [(0, .ref (a 0)), (1, .long (sm + (gHd_new (gTr_hd t j)))), (3, .int (nI (j + 1)))]) [2, 1, 0] rfl ?_
        have hn_hj : (j + 1) ≤ 6 := (by omega)
        have hn_mu : 6 - (j + 1) < fuel := (by omega)
        have e_4 : (L_X6_newUnits t (fuel + 1) sm j) = (L_X6_newUnits t fuel (sm + (gHd_new (gTr_hd t j))) (j + 1)) := by refine (L_X6_newUnits_s t fuel sm j).trans ?_; refine (if_neg c_7).trans ?_; rfl
        rw [e_4] at K_4
        exact ih_4 (sm + (gHd_new (gTr_hd t j))) (j + 1) hn_hj hn_mu K_4
  have K_4 : ∀ (sm1 : Int64) (j1 : Nat), sm1 = ((L_X6_newUnits t (6 - 0 + 1) 0 0).1) → j1 = ((L_X6_newUnits t (6 - 0 + 1) 0 0).2) → zJ E 4 0 0 (WT cy a t) 28 [(0, .ref (a 0)), (1, .long sm1)] [] := by
    intro sm1 j1 hsm1 hj1 
    refine zj_lload_n C dX6_newUnits_28 1 rfl ?_
    subst hj1
    subst hsm1
    have e : f_X6_newUnits t = ((L_X6_newUnits t (6 - 0 + 1) 0 0).1) := by rfl
    rw [e] at hret
    exact hret _ _ dX6_newUnits_29
  refine zj_sub (L' := [(0, .ref (a 0)), (1, .long 0), (3, .int (nI 0))]) [2, 1, 0] rfl ?_
  exact loop_4 (6 - 0 + 1) 0 0 (by omega) (Nat.lt_succ_self _) (K_4 _ _ rfl rfl)

noncomputable def f_X6_middle (t : zTr) : Int64 :=
  let x7_0 : Int64 := (if (f_X6_units t) ≤ 0 then 100000 else ((1000 * (f_X6_value t)) / (f_X6_units t)))
  x7_0
set_option maxHeartbeats 4000000 in
set_option maxRecDepth 100000 in
theorem c_X6_middle (l : Launch) (D : va_G) (cy : Nat → ClassId) (a : Nat → Nat)  (t : zTr)  : zC l yX6_middle (zW yX6_middle cX6_middle 3 (Option.some Jvm.ClassFile.FieldType.long)) { frames := 2, cells := 0, slots := 0, locals := 43 } D cy [.ref (a 0)] (WT cy a t) (some (.long (f_X6_middle t))) (WT cy a t) := by
  refine zC_of rfl (Nat.le_of_ble_eq_true rfl) (zOk_l _) (fun E C hret => ?_)
  show zJ E 3 0 0 (WT cy a t) 0 [(0, .ref (a 0))] []
  refine zj_aload_n C dX6_middle_0 0 rfl ?_
  refine zj_callV C (nn := 18) (ws' := (WT cy a t)) (st := []) (st1 := [.long (f_X6_units t)]) 0 6 [0, 1, 2, 3, 4, 5, 6, 7, 8, 9, 10, 11, 12, 13, 14, 15, 16, 17] (c_X6_units l D cy a  t ) (zg_V tg_397 tg_394 tg_395 tg_396 tg_2) ⟨rfl, hdZ_X6_units⟩ ⟨rfl, rfl⟩ ⟨by decide, by decide⟩ rfl rfl rfl (by decide) ⟨rfl, rfl⟩ rfl rfl (Nat.le_of_ble_eq_true rfl) dX6_middle_1 rfl rfl ?_
  refine zj_lstore_n C (L' := [(1, .long (f_X6_units t)), (0, .ref (a 0))]) dX6_middle_4 rfl (by decide) rfl ?_
  refine zj_lload_n C dX6_middle_5 0 rfl ?_
  refine zj_lconst C (v := 0) dX6_middle_6 (by decide) ?_
  have J_7 : ∀ (x7_0 : Int64), x7_0 = (if (f_X6_units t) ≤ 0 then 100000 else ((1000 * (f_X6_value t)) / (f_X6_units t))) → zJ E 3 0 0 (WT cy a t) 27 [(1, .long (f_X6_units t)), (0, .ref (a 0))] [.long x7_0] := by
    intro x7_0 hx7_0
    subst hx7_0
    have e : f_X6_middle t = (if (f_X6_units t) ≤ 0 then 100000 else ((1000 * (f_X6_value t)) / (f_X6_units t))) := by rfl
    rw [e] at hret
    exact hret _ _ dX6_middle_27
  refine zj_lcmp_le C 24 dX6_middle_7 dX6_middle_8 (by decide) (fun c => ?_) (fun c => ?_)
  · have c_7 : (f_X6_units t) ≤ 0 := c
    refine zj_ldc2 C dX6_middle_24 tg_437 ?_
    exact J_7 100000 (by simp only [if_pos c_7]; first | done | assumption)
  · have c_7 : ¬ ((f_X6_units t) ≤ 0) := c
    refine zj_ldc2 C dX6_middle_11 tg_402 ?_
    refine zj_aload_n C dX6_middle_14 1 rfl ?_
    refine zj_callV C (nn := 18) (ws' := (WT cy a t)) (st := [.long 1000]) (st1 := [.long (f_X6_value t), .long 1000]) 0 6 [0, 1, 2, 3, 4, 5, 6, 7, 8, 9, 10, 11, 12, 13, 14, 15, 16, 17] (c_X6_value l D cy a  t ) (zg_V tg_436 tg_433 tg_434 tg_435 tg_2) ⟨rfl, hdZ_X6_value⟩ ⟨rfl, rfl⟩ ⟨by decide, by decide⟩ rfl rfl rfl (by decide) ⟨rfl, rfl⟩ rfl rfl (Nat.le_of_ble_eq_true rfl) dX6_middle_15 rfl rfl ?_
    refine zj_lmul C dX6_middle_18 ?_
    refine zj_lload_n C dX6_middle_19 0 rfl ?_
    refine zj_ldiv C dX6_middle_20 (zne_le c_7) ?_
    refine zj_goto C 27 dX6_middle_21 (by decide) ?_
    exact J_7 ((1000 * (f_X6_value t)) / (f_X6_units t)) (by simp only [if_neg c_7]; first | done | assumption)

noncomputable def f_X6_unitIncome (t : zTr) : Int64 :=
  let x7_0 : Int64 := (if (f_X6_units t) ≤ 0 then 0 else ((1000 * (gTr_pool t)) / (f_X6_units t)))
  x7_0
set_option maxHeartbeats 4000000 in
set_option maxRecDepth 100000 in
theorem c_X6_unitIncome (l : Launch) (D : va_G) (cy : Nat → ClassId) (a : Nat → Nat)  (t : zTr)  : zC l yX6_unitIncome (zW yX6_unitIncome cX6_unitIncome 3 (Option.some Jvm.ClassFile.FieldType.long)) { frames := 2, cells := 0, slots := 0, locals := 43 } D cy [.ref (a 0)] (WT cy a t) (some (.long (f_X6_unitIncome t))) (WT cy a t) := by
  refine zC_of rfl (Nat.le_of_ble_eq_true rfl) (zOk_l _) (fun E C hret => ?_)
  show zJ E 3 0 0 (WT cy a t) 0 [(0, .ref (a 0))] []
  refine zj_aload_n C dX6_unitIncome_0 0 rfl ?_
  refine zj_callV C (nn := 18) (ws' := (WT cy a t)) (st := []) (st1 := [.long (f_X6_units t)]) 0 6 [0, 1, 2, 3, 4, 5, 6, 7, 8, 9, 10, 11, 12, 13, 14, 15, 16, 17] (c_X6_units l D cy a  t ) (zg_V tg_397 tg_394 tg_395 tg_396 tg_2) ⟨rfl, hdZ_X6_units⟩ ⟨rfl, rfl⟩ ⟨by decide, by decide⟩ rfl rfl rfl (by decide) ⟨rfl, rfl⟩ rfl rfl (Nat.le_of_ble_eq_true rfl) dX6_unitIncome_1 rfl rfl ?_
  refine zj_lstore_n C (L' := [(1, .long (f_X6_units t)), (0, .ref (a 0))]) dX6_unitIncome_4 rfl (by decide) rfl ?_
  refine zj_lload_n C dX6_unitIncome_5 0 rfl ?_
  refine zj_lconst C (v := 0) dX6_unitIncome_6 (by decide) ?_
  have J_7 : ∀ (x7_0 : Int64), x7_0 = (if (f_X6_units t) ≤ 0 then 0 else ((1000 * (gTr_pool t)) / (f_X6_units t))) → zJ E 3 0 0 (WT cy a t) 25 [(1, .long (f_X6_units t)), (0, .ref (a 0))] [.long x7_0] := by
    intro x7_0 hx7_0
    subst hx7_0
    have e : f_X6_unitIncome t = (if (f_X6_units t) ≤ 0 then 0 else ((1000 * (gTr_pool t)) / (f_X6_units t))) := by rfl
    rw [e] at hret
    exact hret _ _ dX6_unitIncome_25
  refine zj_lcmp_le C 24 dX6_unitIncome_7 dX6_unitIncome_8 (by decide) (fun c => ?_) (fun c => ?_)
  · have c_7 : (f_X6_units t) ≤ 0 := c
    refine zj_lconst C (v := 0) dX6_unitIncome_24 (by decide) ?_
    exact J_7 0 (by simp only [if_pos c_7]; first | done | assumption)
  · have c_7 : ¬ ((f_X6_units t) ≤ 0) := c
    refine zj_ldc2 C dX6_unitIncome_11 tg_402 ?_
    refine zj_aload_n C dX6_unitIncome_14 1 rfl ?_
    refine zj_get C 0 6 1 (v := .long (gTr_pool t)) inZ6 rfl rfl (by decide) tg_142 rfl dX6_unitIncome_15 ?_
    refine zj_lmul C dX6_unitIncome_18 ?_
    refine zj_lload_n C dX6_unitIncome_19 0 rfl ?_
    refine zj_ldiv C dX6_unitIncome_20 (zne_le c_7) ?_
    refine zj_goto C 25 dX6_unitIncome_21 (by decide) ?_
    exact J_7 ((1000 * (gTr_pool t)) / (f_X6_units t)) (by simp only [if_neg c_7]; first | done | assumption)

noncomputable def f_X6_fee (t : zTr) : Int64 :=
  ((((((gTr_quote t)).toInt64) * ((((gTr_st t) 4)).toInt64)) + 999) / 1000)
set_option maxHeartbeats 4000000 in
set_option maxRecDepth 100000 in
theorem c_X6_fee (l : Launch) (D : va_G) (cy : Nat → ClassId) (a : Nat → Nat)  (t : zTr)  : zC l yX6_fee (zW yX6_fee cX6_fee 1 (Option.some Jvm.ClassFile.FieldType.long)) { frames := 0, cells := 0, slots := 0, locals := 0 } D cy [.ref (a 0)] (WT cy a t) (some (.long (f_X6_fee t))) (WT cy a t) := by
  refine zC_of rfl (Nat.le_of_ble_eq_true rfl) (zOk_l _) (fun E C hret => ?_)
  show zJ E 1 0 0 (WT cy a t) 0 [(0, .ref (a 0))] []
  refine zj_aload_n C dX6_fee_0 0 rfl ?_
  refine zj_get C 0 6 4 (v := .int (gTr_quote t)) inZ6 rfl rfl (by decide) tg_148 rfl dX6_fee_1 ?_
  refine zj_i2l C dX6_fee_4 ?_
  refine zj_aload_n C dX6_fee_5 0 rfl ?_
  refine zj_get C 0 6 6 (v := .ref (a 1)) inZ6 rfl rfl (by decide) tg_153 rfl dX6_fee_6 ?_
  refine zj_iconst C (v := (nI 4)) dX6_fee_9 (by decide) ?_
  refine zj_iald C 1 (f := (gTr_st t)) 4 (by decide) (vp_in_nI (by decide) (by decide)) rfl dX6_fee_10 ?_
  refine zj_i2l C dX6_fee_11 ?_
  refine zj_lmul C dX6_fee_12 ?_
  refine zj_ldc2 C dX6_fee_13 tg_482 ?_
  refine zj_ladd C dX6_fee_16 ?_
  refine zj_ldc2 C dX6_fee_17 tg_402 ?_
  refine zj_ldiv C dX6_fee_20 (by decide) ?_
  have e : f_X6_fee t = ((((((gTr_quote t)).toInt64) * ((((gTr_st t) 4)).toInt64)) + 999) / 1000) := by rfl
  rw [e] at hret
  exact hret _ _ dX6_fee_21

noncomputable def f_X6_isHour (h : Int32) : Bool :=
  let x1_0 : Bool := (if h < 0 then false else (if (nI 23) < h then false else true))
  x1_0
set_option maxHeartbeats 4000000 in
set_option maxRecDepth 100000 in
theorem c_X6_isHour (l : Launch) (D : va_G) (cy : Nat → ClassId)  (h : Int32)   : zC l yX6_isHour (zW yX6_isHour cX6_isHour 1 (Option.some Jvm.ClassFile.FieldType.boolean)) { frames := 0, cells := 0, slots := 0, locals := 0 } D cy [.int h] ([] : va_W) (some (.int (zB (f_X6_isHour h)))) ([] : va_W) := by
  refine zC_of rfl (Nat.le_of_ble_eq_true rfl) (zOk_z (zB_01 _)) (fun E C hret => ?_)
  show zJ E 1 0 0 ([] : va_W) 0 [(0, .int h)] []
  refine zj_iload_n C dX6_isHour_0 0 rfl ?_
  have J_1 : ∀ (x1_0 : Bool), x1_0 = (if h < 0 then false else (if (nI 23) < h then false else true)) → zJ E 1 0 0 ([] : va_W) 15 [(0, .int h)] [.int (zB x1_0)] := by
    intro x1_0 hx1_0
    subst hx1_0
    have e : f_X6_isHour h = (if h < 0 then false else (if (nI 23) < h then false else true)) := by rfl
    rw [e] at hret
    exact hret _ _ dX6_isHour_15
  refine zj_if_lt C 14 dX6_isHour_1 (by decide) (fun c => ?_) (fun c => ?_)
  · have c_1 : h < 0 := c
    refine zj_iconst C (v := (nI 0)) dX6_isHour_14 (by decide) ?_
    exact J_1 false (by simp only [if_pos c_1]; first | done | assumption)
  · have c_1 : ¬ (h < 0) := c
    refine zj_iload_n C dX6_isHour_4 0 rfl ?_
    refine zj_bipush C (v := (nI 23)) dX6_isHour_5 (by decide) ?_
    have J_7 : ∀ (x7_0 : Bool), x7_0 = (if (nI 23) < h then false else true) → zJ E 1 0 0 ([] : va_W) 15 [(0, .int h)] [.int (zB x7_0)] := by
      intro x7_0 hx7_0
      exact J_1 x7_0 (by simp only [if_neg c_1]; first | done | assumption)
    refine zj_icmp_gt C 14 dX6_isHour_7 (by decide) (fun c => ?_) (fun c => ?_)
    · have c_7 : (nI 23) < h := c
      refine zj_iconst C (v := (nI 0)) dX6_isHour_14 (by decide) ?_
      exact J_7 false (by simp only [if_neg c_1, if_pos c_7]; first | done | assumption)
    · have c_7 : ¬ ((nI 23) < h) := c
      refine zj_iconst C (v := (nI 1)) dX6_isHour_10 (by decide) ?_
      refine zj_goto C 15 dX6_isHour_11 (by decide) ?_
      exact J_7 true (by simp only [if_neg c_1, if_neg c_7]; first | done | assumption)

noncomputable def f_X6_dayOf (t : zTr) (hour : Int32) : Int32 :=
  let x7_0 : Int32 := (if ((gTr_st t) 0) ≤ hour then ((gTr_day t) + (nI 1)) else (gTr_day t))
  x7_0
set_option maxHeartbeats 4000000 in
set_option maxRecDepth 100000 in
theorem c_X6_dayOf (l : Launch) (D : va_G) (cy : Nat → ClassId) (a : Nat → Nat) (hour : Int32) (t : zTr)  : zC l yX6_dayOf (zW yX6_dayOf cX6_dayOf 2 (Option.some Jvm.ClassFile.FieldType.int)) { frames := 0, cells := 0, slots := 0, locals := 0 } D cy [.ref (a 0), .int hour] (WT cy a t) (some (.int (f_X6_dayOf t hour))) (WT cy a t) := by
  refine zC_of rfl (Nat.le_of_ble_eq_true rfl) (zOk_i _) (fun E C hret => ?_)
  show zJ E 2 0 0 (WT cy a t) 0 [(0, .ref (a 0)), (1, .int hour)] []
  refine zj_iload_n C dX6_dayOf_0 1 rfl ?_
  refine zj_aload_n C dX6_dayOf_1 0 rfl ?_
  refine zj_get C 0 6 6 (v := .ref (a 1)) inZ6 rfl rfl (by decide) tg_153 rfl dX6_dayOf_2 ?_
  refine zj_iconst C (v := (nI 0)) dX6_dayOf_5 (by decide) ?_
  refine zj_iald C 1 (f := (gTr_st t)) 0 (by decide) (vp_in_nI (by decide) (by decide)) rfl dX6_dayOf_6 ?_
  have J_7 : ∀ (x7_0 : Int32), x7_0 = (if ((gTr_st t) 0) ≤ hour then ((gTr_day t) + (nI 1)) else (gTr_day t)) → zJ E 2 0 0 (WT cy a t) 23 [(0, .ref (a 0)), (1, .int hour)] [.int x7_0] := by
    intro x7_0 hx7_0
    subst hx7_0
    have e : f_X6_dayOf t hour = (if ((gTr_st t) 0) ≤ hour then ((gTr_day t) + (nI 1)) else (gTr_day t)) := by rfl
    rw [e] at hret
    exact hret _ _ dX6_dayOf_23
  refine zj_icmp_ge C 17 dX6_dayOf_7 (by decide) (fun c => ?_) (fun c => ?_)
  · have c_7 : ((gTr_st t) 0) ≤ hour := c
    refine zj_aload_n C dX6_dayOf_17 0 rfl ?_
    refine zj_get C 0 6 5 (v := .int (gTr_day t)) inZ6 rfl rfl (by decide) tg_150 rfl dX6_dayOf_18 ?_
    refine zj_iconst C (v := (nI 1)) dX6_dayOf_21 (by decide) ?_
    refine zj_iadd C dX6_dayOf_22 ?_
    exact J_7 ((gTr_day t) + (nI 1)) (by simp only [if_pos c_7]; first | done | assumption)
  · have c_7 : ¬ (((gTr_st t) 0) ≤ hour) := c
    refine zj_aload_n C dX6_dayOf_10 0 rfl ?_
    refine zj_get C 0 6 5 (v := .int (gTr_day t)) inZ6 rfl rfl (by decide) tg_150 rfl dX6_dayOf_11 ?_
    refine zj_goto C 23 dX6_dayOf_14 (by decide) ?_
    exact J_7 (gTr_day t) (by simp only [if_neg c_7]; first | done | assumption)

noncomputable def f_X6_freeUnits (t : zTr) (h : Nat) : Int64 :=
  ((f_X2_units (gTr_hd t h)) - (f_X4_sumOf (gTr_le t) (nI h)))
set_option maxHeartbeats 4000000 in
set_option maxRecDepth 100000 in
theorem c_X6_freeUnits (l : Launch) (D : va_G) (cy : Nat → ClassId) (a : Nat → Nat) (h : Nat) (t : zTr) (hh : h < 6) (hl : gOd_n (gTr_le t) ≤ 20) : zC l yX6_freeUnits (zW yX6_freeUnits cX6_freeUnits 2 (Option.some Jvm.ClassFile.FieldType.long)) { frames := 1, cells := 0, slots := 0, locals := 24 } D cy [.ref (a 0), .int (nI h)] (WT cy a t) (some (.long (f_X6_freeUnits t h))) (WT cy a t) := by
  refine zC_of rfl (Nat.le_of_ble_eq_true rfl) (zOk_l _) (fun E C hret => ?_)
  show zJ E 2 0 0 (WT cy a t) 0 [(0, .ref (a 0)), (1, .int (nI h))] []
  refine zj_aload_n C dX6_freeUnits_0 0 rfl ?_
  refine zj_get C 0 6 7 (v := .ref (a 2)) inZ6 rfl rfl (by decide) tg_156 rfl dX6_freeUnits_1 ?_
  refine zj_iload_n C dX6_freeUnits_4 1 rfl ?_
  refine zj_aald C 2 4 (f := (fun k => some (a (12 + k)))) (b := (a (12 + h))) h (nI_clamp (by omega)) (vp_in_nI (by omega) (by omega)) rfl rfl rfl dX6_freeUnits_5 ?_
  refine zj_callV C (nn := 1) (ws' := (WT cy a t)) (st := []) (st1 := [.long (f_X2_units (gTr_hd t h))]) (12 + h) 2 [(12 + h)] (c_X2_units l D cy (a (12 + h))  (gTr_hd t h) ) (zg_V tg_381 tg_378 tg_379 tg_380 tg_3) ⟨rfl, hdZ_X2_units⟩ ⟨rfl, rfl⟩ ⟨by decide, by decide⟩ (WT_h (by omega)) rfl (WT_hC (by omega)) rfl ⟨rfl, rfl⟩ rfl rfl (Nat.le_of_ble_eq_true rfl) dX6_freeUnits_6 (WT_same (by omega)) rfl ?_
  refine zj_aload_n C dX6_freeUnits_9 0 rfl ?_
  refine zj_get C 0 6 9 (v := .ref (a 7)) inZ6 rfl rfl (by decide) tg_162 rfl dX6_freeUnits_10 ?_
  refine zj_iload_n C dX6_freeUnits_13 1 rfl ?_
  refine zj_callV C (nn := 4) (ws' := (WT cy a t)) (st := [.long (f_X2_units (gTr_hd t h))]) (st1 := [.long (f_X4_sumOf (gTr_le t) (nI h)), .long (f_X2_units (gTr_hd t h))]) 7 4 [7, 8, 9, 10] (c_X4_sumOf l D cy (a 7) (a 8) (a 9) (a 10) (nI h) (gTr_le t) hl) (zg_V tg_385 tg_382 tg_383 tg_384 tg_4) ⟨rfl, hdZ_X4_sumOf⟩ ⟨rfl, rfl⟩ ⟨by decide, by decide⟩ rfl rfl rfl (by decide) ⟨rfl, rfl⟩ rfl rfl (Nat.le_of_ble_eq_true rfl) dX6_freeUnits_14 rfl rfl ?_
  refine zj_lsub C dX6_freeUnits_17 ?_
  have e : f_X6_freeUnits t h = ((f_X2_units (gTr_hd t h)) - (f_X4_sumOf (gTr_le t) (nI h))) := by rfl
  rw [e] at hret
  exact hret _ _ dX6_freeUnits_18

noncomputable def f_X6_changeQuote (t : zTr) (q : Int32) : Int32 × zTr :=
  if q < (nI 1) then
    ((-2), t)
  else
    if q ≤ (nI 10000) then
      ((gTr_quote t), (sTr_quote t q))
    else
      ((-2), t)
set_option maxHeartbeats 4000000 in
set_option maxRecDepth 100000 in
theorem c_X6_changeQuote (l : Launch) (D : va_G) (cy : Nat → ClassId) (a : Nat → Nat) (q : Int32) (t : zTr)  : zC l yX6_changeQuote (zW yX6_changeQuote cX6_changeQuote 3 (Option.some Jvm.ClassFile.FieldType.int)) { frames := 0, cells := 0, slots := 0, locals := 0 } D cy [.ref (a 0), .int q] (WT cy a t) (some (.int ((f_X6_changeQuote t q).1))) (WT cy a ((f_X6_changeQuote t q).2)) := by
  refine zC_of rfl (Nat.le_of_ble_eq_true rfl) (zOk_i _) (fun E C hret => ?_)
  show zJ E 3 0 0 (WT cy a t) 0 [(0, .ref (a 0)), (1, .int q)] []
  refine zj_iload_n C dX6_changeQuote_0 1 rfl ?_
  refine zj_iconst C (v := (nI 1)) dX6_changeQuote_1 (by decide) ?_
  refine zj_icmp_lt C 12 dX6_changeQuote_2 (by decide) (fun c => ?_) (fun c => ?_)
  · have c_2 : q < (nI 1) := c
    refine zj_bipush C (v := (-2)) dX6_changeQuote_12 (by decide) ?_
    have e : f_X6_changeQuote t q = ((-2), t) := by refine (if_pos c_2).trans ?_; rfl
    rw [e] at hret
    exact hret _ _ dX6_changeQuote_14
  · have c_2 : ¬ (q < (nI 1)) := c
    refine zj_iload_n C dX6_changeQuote_5 1 rfl ?_
    refine zj_sipush C (v := (nI 10000)) dX6_changeQuote_6 (by decide) ?_
    refine zj_icmp_le C 15 dX6_changeQuote_9 (by decide) (fun c => ?_) (fun c => ?_)
    · have c_9 : q ≤ (nI 10000) := c
      refine zj_aload_n C dX6_changeQuote_15 0 rfl ?_
      refine zj_get C 0 6 4 (v := .int (gTr_quote t)) inZ6 rfl rfl (by decide) tg_148 rfl dX6_changeQuote_16 ?_
      refine zj_istore_n C (L' := [(2, .int (gTr_quote t)), (0, .ref (a 0)), (1, .int q)]) dX6_changeQuote_19 rfl (by decide) rfl ?_
      refine zj_aload_n C dX6_changeQuote_20 1 rfl ?_
      refine zj_iload_n C dX6_changeQuote_21 2 rfl ?_
      refine zj_put C 0 6 4 (v := .int q) (ws' := (WT cy a (sTr_quote t q))) tyX6 tyX6_ok nmX6 inZ6 rfl rfl (by decide) tg_148 rfl rfl rfl (Nat.le_of_ble_eq_true rfl) dX6_changeQuote_22 rfl ?_
      refine zj_iload_n C dX6_changeQuote_25 0 rfl ?_
      have e : f_X6_changeQuote t q = ((gTr_quote t), (sTr_quote t q)) := by refine (if_neg c_2).trans ?_; refine (if_pos c_9).trans ?_; rfl
      rw [e] at hret
      exact hret _ _ dX6_changeQuote_26
    · have c_9 : ¬ (q ≤ (nI 10000)) := c
      refine zj_bipush C (v := (-2)) dX6_changeQuote_12 (by decide) ?_
      have e : f_X6_changeQuote t q = ((-2), t) := by refine (if_neg c_2).trans ?_; refine (if_neg c_9).trans ?_; rfl
      rw [e] at hret
      exact hret _ _ dX6_changeQuote_14

noncomputable def f_X6_tradeLots (t : zTr) (bought : Int32) : Int32 × zTr :=
  if bought = 0 then
    ((-2), t)
  else
    if bought < (-1000) then
      ((-2), t)
    else
      if bought ≤ (nI 1000) then
        if ((gTr_lots t) + bought) ≤ (nI 1000) then
          let x37_0 : Int64 := (if bought ≤ 0 then ((bought.toInt64) * ((((gTr_quote t)).toInt64) - (f_X6_fee t))) else ((bought.toInt64) * ((((gTr_quote t)).toInt64) + (f_X6_fee t))))
          if ((gTr_lots t) + bought) < 0 then
            ((-5), t)
          else
            if bought ≤ 0 then
              (((gTr_lots t) + bought), (sTr_lots (sTr_cash t ((gTr_cash t) - x37_0)) ((gTr_lots t) + bought)))
            else
              if x37_0 ≤ ((gTr_cash t) - (gTr_pool t)) then
                (((gTr_lots t) + bought), (sTr_lots (sTr_cash t ((gTr_cash t) - x37_0)) ((gTr_lots t) + bought)))
              else
                ((-5), t)
        else
          ((-4), t)
      else
        ((-2), t)
set_option maxHeartbeats 4000000 in
set_option maxRecDepth 100000 in
theorem c_X6_tradeLots (l : Launch) (D : va_G) (cy : Nat → ClassId) (a : Nat → Nat) (bought : Int32) (t : zTr)  : zC l yX6_tradeLots (zW yX6_tradeLots cX6_tradeLots 4 (Option.some Jvm.ClassFile.FieldType.int)) { frames := 1, cells := 0, slots := 0, locals := 20 } D cy [.ref (a 0), .int bought] (WT cy a t) (some (.int ((f_X6_tradeLots t bought).1))) (WT cy a ((f_X6_tradeLots t bought).2)) := by
  refine zC_of rfl (Nat.le_of_ble_eq_true rfl) (zOk_i _) (fun E C hret => ?_)
  show zJ E 4 0 0 (WT cy a t) 0 [(0, .ref (a 0)), (1, .int bought)] []
  refine zj_iload_n C dX6_tradeLots_0 1 rfl ?_
  refine zj_if_eq C 18 dX6_tradeLots_1 (by decide) (fun c => ?_) (fun c => ?_)
  · have c_1 : bought = 0 := c
    refine zj_bipush C (v := (-2)) dX6_tradeLots_18 (by decide) ?_
    have e : f_X6_tradeLots t bought = ((-2), t) := by refine (if_pos c_1).trans ?_; rfl
    rw [e] at hret
    exact hret _ _ dX6_tradeLots_20
  · have c_1 : ¬ (bought = 0) := c
    refine zj_iload_n C dX6_tradeLots_4 1 rfl ?_
    refine zj_sipush C (v := (-1000)) dX6_tradeLots_5 (by decide) ?_
    refine zj_icmp_lt C 18 dX6_tradeLots_8 (by decide) (fun c => ?_) (fun c => ?_)
    · have c_8 : bought < (-1000) := c
      refine zj_bipush C (v := (-2)) dX6_tradeLots_18 (by decide) ?_
      have e : f_X6_tradeLots t bought = ((-2), t) := by refine (if_neg c_1).trans ?_; refine (if_pos c_8).trans ?_; rfl
      rw [e] at hret
      exact hret _ _ dX6_tradeLots_20
    · have c_8 : ¬ (bought < (-1000)) := c
      refine zj_iload_n C dX6_tradeLots_11 1 rfl ?_
      refine zj_sipush C (v := (nI 1000)) dX6_tradeLots_12 (by decide) ?_
      refine zj_icmp_le C 21 dX6_tradeLots_15 (by decide) (fun c => ?_) (fun c => ?_)
      · have c_15 : bought ≤ (nI 1000) := c
        refine zj_aload_n C dX6_tradeLots_21 0 rfl ?_
        refine zj_get C 0 6 3 (v := .int (gTr_lots t)) inZ6 rfl rfl (by decide) tg_146 rfl dX6_tradeLots_22 ?_
        refine zj_iload_n C dX6_tradeLots_25 1 rfl ?_
        refine zj_iadd C dX6_tradeLots_26 ?_
        refine zj_sipush C (v := (nI 1000)) dX6_tradeLots_27 (by decide) ?_
        refine zj_icmp_le C 36 dX6_tradeLots_30 (by decide) (fun c => ?_) (fun c => ?_)
        · have c_30 : ((gTr_lots t) + bought) ≤ (nI 1000) := c
          refine zj_iload_n C dX6_tradeLots_36 1 rfl ?_
          have J_37 : ∀ (x37_0 : Int64), x37_0 = (if bought ≤ 0 then ((bought.toInt64) * ((((gTr_quote t)).toInt64) - (f_X6_fee t))) else ((bought.toInt64) * ((((gTr_quote t)).toInt64) + (f_X6_fee t)))) → zJ E 4 0 0 (WT cy a t) 69 [(0, .ref (a 0)), (1, .int bought)] [.long x37_0] := by
            intro x37_0 hx37_0
            refine zj_lstore_n C (L' := [(2, .long x37_0), (0, .ref (a 0)), (1, .int bought)]) dX6_tradeLots_69 rfl (by decide) rfl ?_
            refine zj_aload_n C dX6_tradeLots_70 1 rfl ?_
            refine zj_get C 0 6 3 (v := .int (gTr_lots t)) inZ6 rfl rfl (by decide) tg_146 rfl dX6_tradeLots_71 ?_
            refine zj_iload_n C dX6_tradeLots_74 2 rfl ?_
            refine zj_iadd C dX6_tradeLots_75 ?_
            refine zj_if_lt C 97 dX6_tradeLots_76 (by decide) (fun c => ?_) (fun c => ?_)
            · have c_76 : ((gTr_lots t) + bought) < 0 := c
              refine zj_bipush C (v := (-5)) dX6_tradeLots_97 (by decide) ?_
              subst hx37_0
              have e : f_X6_tradeLots t bought = ((-5), t) := by refine (if_neg c_1).trans ?_; refine (if_neg c_8).trans ?_; refine (if_pos c_15).trans ?_; refine (if_pos c_30).trans ?_; refine (if_pos c_76).trans ?_; rfl
              rw [e] at hret
              exact hret _ _ dX6_tradeLots_99
            · have c_76 : ¬ (((gTr_lots t) + bought) < 0) := c
              refine zj_iload_n C dX6_tradeLots_79 2 rfl ?_
              refine zj_if_le C 100 dX6_tradeLots_80 (by decide) (fun c => ?_) (fun c => ?_)
              · have c_80 : bought ≤ 0 := c
                refine zj_aload_n C dX6_tradeLots_100 1 rfl ?_
                refine zj_dup C dX6_tradeLots_101 rfl ?_
                refine zj_get C 0 6 3 (v := .int (gTr_lots t)) inZ6 rfl rfl (by decide) tg_146 rfl dX6_tradeLots_102 ?_
                refine zj_iload_n C dX6_tradeLots_105 2 rfl ?_
                refine zj_iadd C dX6_tradeLots_106 ?_
                refine zj_put C 0 6 3 (v := .int ((gTr_lots t) + bought)) (ws' := (WT cy a (sTr_lots t ((gTr_lots t) + bought)))) tyX6 tyX6_ok nmX6 inZ6 rfl rfl (by decide) tg_146 rfl rfl rfl (Nat.le_of_ble_eq_true rfl) dX6_tradeLots_107 rfl ?_
                refine zj_aload_n C dX6_tradeLots_110 1 rfl ?_
                refine zj_dup C dX6_tradeLots_111 rfl ?_
                refine zj_get C 0 6 0 (v := .long (gTr_cash t)) inZ6 rfl rfl (by decide) tg_139 rfl dX6_tradeLots_112 ?_
                refine zj_lload_n C dX6_tradeLots_115 0 rfl ?_
                refine zj_lsub C dX6_tradeLots_116 ?_
                refine zj_put C 0 6 0 (v := .long ((gTr_cash t) - x37_0)) (ws' := (WT cy a (sTr_lots (sTr_cash t ((gTr_cash t) - x37_0)) ((gTr_lots t) + bought)))) tyX6 tyX6_ok nmX6 inZ6 rfl rfl (by decide) tg_139 rfl rfl rfl (Nat.le_of_ble_eq_true rfl) dX6_tradeLots_117 rfl ?_
                refine zj_aload_n C dX6_tradeLots_120 1 rfl ?_
                refine zj_get C 0 6 3 (v := .int ((gTr_lots t) + bought)) inZ6 rfl rfl (by decide) tg_146 rfl dX6_tradeLots_121 ?_
                subst hx37_0
                have e : f_X6_tradeLots t bought = (((gTr_lots t) + bought), (sTr_lots (sTr_cash t ((gTr_cash t) - (if bought ≤ 0 then ((bought.toInt64) * ((((gTr_quote t)).toInt64) - (f_X6_fee t))) else ((bought.toInt64) * ((((gTr_quote t)).toInt64) + (f_X6_fee t)))))) ((gTr_lots t) + bought))) := by refine (if_neg c_1).trans ?_; refine (if_neg c_8).trans ?_; refine (if_pos c_15).trans ?_; refine (if_pos c_30).trans ?_; refine (if_neg c_76).trans ?_; refine (if_pos c_80).trans ?_; rfl
                rw [e] at hret
                exact hret _ _ dX6_tradeLots_124
              · have c_80 : ¬ (bought ≤ 0) := c
                refine zj_lload_n C dX6_tradeLots_83 0 rfl ?_
                refine zj_aload_n C dX6_tradeLots_84 1 rfl ?_
                refine zj_get C 0 6 0 (v := .long (gTr_cash t)) inZ6 rfl rfl (by decide) tg_139 rfl dX6_tradeLots_85 ?_
                refine zj_aload_n C dX6_tradeLots_88 1 rfl ?_
                refine zj_get C 0 6 1 (v := .long (gTr_pool t)) inZ6 rfl rfl (by decide) tg_142 rfl dX6_tradeLots_89 ?_
                refine zj_lsub C dX6_tradeLots_92 ?_
                refine zj_lcmp_le C 100 dX6_tradeLots_93 dX6_tradeLots_94 (by decide) (fun c => ?_) (fun c => ?_)
                · have c_93 : x37_0 ≤ ((gTr_cash t) - (gTr_pool t)) := c
                  refine zj_aload_n C dX6_tradeLots_100 1 rfl ?_
                  refine zj_dup C dX6_tradeLots_101 rfl ?_
                  refine zj_get C 0 6 3 (v := .int (gTr_lots t)) inZ6 rfl rfl (by decide) tg_146 rfl dX6_tradeLots_102 ?_
                  refine zj_iload_n C dX6_tradeLots_105 2 rfl ?_
                  refine zj_iadd C dX6_tradeLots_106 ?_
                  refine zj_put C 0 6 3 (v := .int ((gTr_lots t) + bought)) (ws' := (WT cy a (sTr_lots t ((gTr_lots t) + bought)))) tyX6 tyX6_ok nmX6 inZ6 rfl rfl (by decide) tg_146 rfl rfl rfl (Nat.le_of_ble_eq_true rfl) dX6_tradeLots_107 rfl ?_
                  refine zj_aload_n C dX6_tradeLots_110 1 rfl ?_
                  refine zj_dup C dX6_tradeLots_111 rfl ?_
                  refine zj_get C 0 6 0 (v := .long (gTr_cash t)) inZ6 rfl rfl (by decide) tg_139 rfl dX6_tradeLots_112 ?_
                  refine zj_lload_n C dX6_tradeLots_115 0 rfl ?_
                  refine zj_lsub C dX6_tradeLots_116 ?_
                  refine zj_put C 0 6 0 (v := .long ((gTr_cash t) - x37_0)) (ws' := (WT cy a (sTr_lots (sTr_cash t ((gTr_cash t) - x37_0)) ((gTr_lots t) + bought)))) tyX6 tyX6_ok nmX6 inZ6 rfl rfl (by decide) tg_139 rfl rfl rfl (Nat.le_of_ble_eq_true rfl) dX6_tradeLots_117 rfl ?_
                  refine zj_aload_n C dX6_tradeLots_120 1 rfl ?_
                  refine zj_get C 0 6 3 (v := .int ((gTr_lots t) + bought)) inZ6 rfl rfl (by decide) tg_146 rfl dX6_tradeLots_121 ?_
                  subst hx37_0
                  have e : f_X6_tradeLots t bought = (((gTr_lots t) + bought), (sTr_lots (sTr_cash t ((gTr_cash t) - (if bought ≤ 0 then ((bought.toInt64) * ((((gTr_quote t)).toInt64) - (f_X6_fee t))) else ((bought.toInt64) * ((((gTr_quote t)).toInt64) + (f_X6_fee t)))))) ((gTr_lots t) + bought))) := by refine (if_neg c_1).trans ?_; refine (if_neg c_8).trans ?_; refine (if_pos c_15).trans ?_; refine (if_pos c_30).trans ?_; refine (if_neg c_76).trans ?_; refine (if_neg c_80).trans ?_; refine (if_pos c_93).trans ?_; rfl
                  rw [e] at hret
                  exact hret _ _ dX6_tradeLots_124
                · have c_93 : ¬ (x37_0 ≤ ((gTr_cash t) - (gTr_pool t))) := c
                  refine zj_bipush C (v := (-5)) dX6_tradeLots_97 (by decide) ?_
                  subst hx37_0
                  have e : f_X6_tradeLots t bought = ((-5), t) := by refine (if_neg c_1).trans ?_; refine (if_neg c_8).trans ?_; refine (if_pos c_15).trans ?_; refine (if_pos c_30).trans ?_; refine (if_neg c_76).trans ?_; refine (if_neg c_80).trans ?_; refine (if_neg c_93).trans ?_; rfl
                  rw [e] at hret
                  exact hret _ _ dX6_tradeLots_99
          refine zj_if_le C 56 dX6_tradeLots_37 (by decide) (fun c => ?_) (fun c => ?_)
          · have c_37 : bought ≤ 0 := c
            refine zj_iload_n C dX6_tradeLots_56 1 rfl ?_
            refine zj_i2l C dX6_tradeLots_57 ?_
            refine zj_aload_n C dX6_tradeLots_58 0 rfl ?_
            refine zj_get C 0 6 4 (v := .int (gTr_quote t)) inZ6 rfl rfl (by decide) tg_148 rfl dX6_tradeLots_59 ?_
            refine zj_i2l C dX6_tradeLots_62 ?_
            refine zj_aload_n C dX6_tradeLots_63 0 rfl ?_
            refine zj_callV C (nn := 18) (ws' := (WT cy a t)) (st := [.long (((gTr_quote t)).toInt64), .long (bought.toInt64)]) (st1 := [.long (f_X6_fee t), .long (((gTr_quote t)).toInt64), .long (bought.toInt64)]) 0 6 [0, 1, 2, 3, 4, 5, 6, 7, 8, 9, 10, 11, 12, 13, 14, 15, 16, 17] (c_X6_fee l D cy a  t ) (zg_V tg_481 tg_478 tg_479 tg_480 tg_2) ⟨rfl, hdZ_X6_fee⟩ ⟨rfl, rfl⟩ ⟨by decide, by decide⟩ rfl rfl rfl (by decide) ⟨rfl, rfl⟩ rfl rfl (Nat.le_of_ble_eq_true rfl) dX6_tradeLots_64 rfl rfl ?_
            refine zj_lsub C dX6_tradeLots_67 ?_
            refine zj_lmul C dX6_tradeLots_68 ?_
            exact J_37 ((bought.toInt64) * ((((gTr_quote t)).toInt64) - (f_X6_fee t))) (by simp only [if_neg c_1, if_neg c_8, if_pos c_15, if_pos c_30, if_pos c_37]; first | done | assumption)
          · have c_37 : ¬ (bought ≤ 0) := c
            refine zj_iload_n C dX6_tradeLots_40 1 rfl ?_
            refine zj_i2l C dX6_tradeLots_41 ?_
            refine zj_aload_n C dX6_tradeLots_42 0 rfl ?_
            refine zj_get C 0 6 4 (v := .int (gTr_quote t)) inZ6 rfl rfl (by decide) tg_148 rfl dX6_tradeLots_43 ?_
            refine zj_i2l C dX6_tradeLots_46 ?_
            refine zj_aload_n C dX6_tradeLots_47 0 rfl ?_
            refine zj_callV C (nn := 18) (ws' := (WT cy a t)) (st := [.long (((gTr_quote t)).toInt64), .long (bought.toInt64)]) (st1 := [.long (f_X6_fee t), .long (((gTr_quote t)).toInt64), .long (bought.toInt64)]) 0 6 [0, 1, 2, 3, 4, 5, 6, 7, 8, 9, 10, 11, 12, 13, 14, 15, 16, 17] (c_X6_fee l D cy a  t ) (zg_V tg_481 tg_478 tg_479 tg_480 tg_2) ⟨rfl, hdZ_X6_fee⟩ ⟨rfl, rfl⟩ ⟨by decide, by decide⟩ rfl rfl rfl (by decide) ⟨rfl, rfl⟩ rfl rfl (Nat.le_of_ble_eq_true rfl) dX6_tradeLots_48 rfl rfl ?_
            refine zj_ladd C dX6_tradeLots_51 ?_
            refine zj_lmul C dX6_tradeLots_52 ?_
            refine zj_goto C 69 dX6_tradeLots_53 (by decide) ?_
            exact J_37 ((bought.toInt64) * ((((gTr_quote t)).toInt64) + (f_X6_fee t))) (by simp only [if_neg c_1, if_neg c_8, if_pos c_15, if_pos c_30, if_neg c_37]; first | done | assumption)
        · have c_30 : ¬ (((gTr_lots t) + bought) ≤ (nI 1000)) := c
          refine zj_bipush C (v := (-4)) dX6_tradeLots_33 (by decide) ?_
          have e : f_X6_tradeLots t bought = ((-4), t) := by refine (if_neg c_1).trans ?_; refine (if_neg c_8).trans ?_; refine (if_pos c_15).trans ?_; refine (if_neg c_30).trans ?_; rfl
          rw [e] at hret
          exact hret _ _ dX6_tradeLots_35
      · have c_15 : ¬ (bought ≤ (nI 1000)) := c
        refine zj_bipush C (v := (-2)) dX6_tradeLots_18 (by decide) ?_
        have e : f_X6_tradeLots t bought = ((-2), t) := by refine (if_neg c_1).trans ?_; refine (if_neg c_8).trans ?_; refine (if_neg c_15).trans ?_; rfl
        rw [e] at hret
        exact hret _ _ dX6_tradeLots_20

noncomputable def f_X6_takeIncome (t : zTr) (am : Int32) : Int32 × zTr :=
  if am < (nI 1) then
    ((-2), t)
  else
    if am ≤ (nI 1000000) then
      if (f_X6_units t) = 0 then
        ((-5), t)
      else
        (((((gTr_pool t) + (am.toInt64))).toInt32), (sTr_pool (sTr_cash t ((gTr_cash t) + (am.toInt64))) ((gTr_pool t) + (am.toInt64))))
    else
      ((-2), t)
set_option maxHeartbeats 4000000 in
set_option maxRecDepth 100000 in
theorem c_X6_takeIncome (l : Launch) (D : va_G) (cy : Nat → ClassId) (a : Nat → Nat) (am : Int32) (t : zTr)  : zC l yX6_takeIncome (zW yX6_takeIncome cX6_takeIncome 2 (Option.some Jvm.ClassFile.FieldType.int)) { frames := 2, cells := 0, slots := 0, locals := 43 } D cy [.ref (a 0), .int am] (WT cy a t) (some (.int ((f_X6_takeIncome t am).1))) (WT cy a ((f_X6_takeIncome t am).2)) := by
  refine zC_of rfl (Nat.le_of_ble_eq_true rfl) (zOk_i _) (fun E C hret => ?_)
  show zJ E 2 0 0 (WT cy a t) 0 [(0, .ref (a 0)), (1, .int am)] []
  refine zj_iload_n C dX6_takeIncome_0 1 rfl ?_
  refine zj_iconst C (v := (nI 1)) dX6_takeIncome_1 (by decide) ?_
  refine zj_icmp_lt C 11 dX6_takeIncome_2 (by decide) (fun c => ?_) (fun c => ?_)
  · have c_2 : am < (nI 1) := c
    refine zj_bipush C (v := (-2)) dX6_takeIncome_11 (by decide) ?_
    have e : f_X6_takeIncome t am = ((-2), t) := by refine (if_pos c_2).trans ?_; rfl
    rw [e] at hret
    exact hret _ _ dX6_takeIncome_13
  · have c_2 : ¬ (am < (nI 1)) := c
    refine zj_iload_n C dX6_takeIncome_5 1 rfl ?_
    refine zj_ldc C dX6_takeIncome_6 tg_349 ?_
    refine zj_topi (nI 1000000) (by decide) ?_
    refine zj_icmp_le C 14 dX6_takeIncome_8 (by decide) (fun c => ?_) (fun c => ?_)
    · have c_8 : am ≤ (nI 1000000) := c
      refine zj_aload_n C dX6_takeIncome_14 0 rfl ?_
      refine zj_callV C (nn := 18) (ws' := (WT cy a t)) (st := []) (st1 := [.long (f_X6_units t)]) 0 6 [0, 1, 2, 3, 4, 5, 6, 7, 8, 9, 10, 11, 12, 13, 14, 15, 16, 17] (c_X6_units l D cy a  t ) (zg_V tg_397 tg_394 tg_395 tg_396 tg_2) ⟨rfl, hdZ_X6_units⟩ ⟨rfl, rfl⟩ ⟨by decide, by decide⟩ rfl rfl rfl (by decide) ⟨rfl, rfl⟩ rfl rfl (Nat.le_of_ble_eq_true rfl) dX6_takeIncome_15 rfl rfl ?_
      refine zj_lconst C (v := 0) dX6_takeIncome_18 (by decide) ?_
      refine zj_lcmp_ne C 26 dX6_takeIncome_19 dX6_takeIncome_20 (by decide) (fun c => ?_) (fun c => ?_)
      · have c_19 : ¬ ((f_X6_units t) = 0) := c
        refine zj_aload_n C dX6_takeIncome_26 0 rfl ?_
        refine zj_dup C dX6_takeIncome_27 rfl ?_
        refine zj_get C 0 6 0 (v := .long (gTr_cash t)) inZ6 rfl rfl (by decide) tg_139 rfl dX6_takeIncome_28 ?_
        refine zj_iload_n C dX6_takeIncome_31 1 rfl ?_
        refine zj_i2l C dX6_takeIncome_32 ?_
        refine zj_ladd C dX6_takeIncome_33 ?_
        refine zj_put C 0 6 0 (v := .long ((gTr_cash t) + (am.toInt64))) (ws' := (WT cy a (sTr_cash t ((gTr_cash t) + (am.toInt64))))) tyX6 tyX6_ok nmX6 inZ6 rfl rfl (by decide) tg_139 rfl rfl rfl (Nat.le_of_ble_eq_true rfl) dX6_takeIncome_34 rfl ?_
        refine zj_aload_n C dX6_takeIncome_37 0 rfl ?_
        refine zj_dup C dX6_takeIncome_38 rfl ?_
        refine zj_get C 0 6 1 (v := .long (gTr_pool t)) inZ6 rfl rfl (by decide) tg_142 rfl dX6_takeIncome_39 ?_
        refine zj_iload_n C dX6_takeIncome_42 1 rfl ?_
        refine zj_i2l C dX6_takeIncome_43 ?_
        refine zj_ladd C dX6_takeIncome_44 ?_
        refine zj_put C 0 6 1 (v := .long ((gTr_pool t) + (am.toInt64))) (ws' := (WT cy a (sTr_pool (sTr_cash t ((gTr_cash t) + (am.toInt64))) ((gTr_pool t) + (am.toInt64))))) tyX6 tyX6_ok nmX6 inZ6 rfl rfl (by decide) tg_142 rfl rfl rfl (Nat.le_of_ble_eq_true rfl) dX6_takeIncome_45 rfl ?_
        refine zj_aload_n C dX6_takeIncome_48 0 rfl ?_
        refine zj_get C 0 6 1 (v := .long ((gTr_pool t) + (am.toInt64))) inZ6 rfl rfl (by decide) tg_142 rfl dX6_takeIncome_49 ?_
        refine zj_l2i C dX6_takeIncome_52 ?_
        have e : f_X6_takeIncome t am = (((((gTr_pool t) + (am.toInt64))).toInt32), (sTr_pool (sTr_cash t ((gTr_cash t) + (am.toInt64))) ((gTr_pool t) + (am.toInt64)))) := by refine (if_neg c_2).trans ?_; refine (if_pos c_8).trans ?_; refine (if_neg c_19).trans ?_; rfl
        rw [e] at hret
        exact hret _ _ dX6_takeIncome_53
      · have c_19 : (f_X6_units t) = 0 := (Classical.not_not.mp c)
        refine zj_bipush C (v := (-5)) dX6_takeIncome_23 (by decide) ?_
        have e : f_X6_takeIncome t am = ((-5), t) := by refine (if_neg c_2).trans ?_; refine (if_pos c_8).trans ?_; refine (if_pos c_19).trans ?_; rfl
        rw [e] at hret
        exact hret _ _ dX6_takeIncome_25
    · have c_8 : ¬ (am ≤ (nI 1000000)) := c
      refine zj_bipush C (v := (-2)) dX6_takeIncome_11 (by decide) ?_
      have e : f_X6_takeIncome t am = ((-2), t) := by refine (if_neg c_2).trans ?_; refine (if_neg c_8).trans ?_; rfl
      rw [e] at hret
      exact hret _ _ dX6_takeIncome_13

noncomputable def L_X6_pay (t : zTr) (x12_0 : Int64) : Nat → (Nat → zHd) → (Int64) → (Nat) → (Nat → zHd) × (Int64) × (Nat)
  | 0, hd0, al, j => (hd0, al, j)
  | fuel + 1, hd0, al, j =>
    if 6 ≤ j then
      (hd0, al, j)
    else
      L_X6_pay t x12_0 fuel (zup hd0 j (sHd_eve (sHd_inc (sHd_new (sHd_old (hd0 j) ((gHd_old (hd0 j)) + (gHd_new (hd0 j)))) 0) ((gHd_inc (hd0 j)) + (((f_X2_units (hd0 j)) * (f_X6_unitIncome t)) / 1000))) ((gHd_eve (hd0 j)) + (if (((f_X2_units (hd0 j)) * (f_X6_unitIncome t)) / 1000) < (((gHd_new (hd0 j)) * x12_0) / 1000) then (((f_X2_units (hd0 j)) * (f_X6_unitIncome t)) / 1000) else (((gHd_new (hd0 j)) * x12_0) / 1000))))) (al + (((f_X2_units (hd0 j)) * (f_X6_unitIncome t)) / 1000)) (j + 1)
theorem L_X6_pay_s (t : zTr) (x12_0 : Int64) (fuel : Nat) (hd0 : Nat → zHd) (al : Int64) (j : Nat) : L_X6_pay t x12_0 (fuel + 1) hd0 al j = (
    if 6 ≤ j then
      (hd0, al, j)
    else
      L_X6_pay t x12_0 fuel (zup hd0 j (sHd_eve (sHd_inc (sHd_new (sHd_old (hd0 j) ((gHd_old (hd0 j)) + (gHd_new (hd0 j)))) 0) ((gHd_inc (hd0 j)) + (((f_X2_units (hd0 j)) * (f_X6_unitIncome t)) / 1000))) ((gHd_eve (hd0 j)) + (if (((f_X2_units (hd0 j)) * (f_X6_unitIncome t)) / 1000) < (((gHd_new (hd0 j)) * x12_0) / 1000) then (((f_X2_units (hd0 j)) * (f_X6_unitIncome t)) / 1000) else (((gHd_new (hd0 j)) * x12_0) / 1000))))) (al + (((f_X2_units (hd0 j)) * (f_X6_unitIncome t)) / 1000)) (j + 1)
  ) := rfl
noncomputable def f_X6_payIncome (t : zTr) : Int32 × zTr :=
  let x12_0 : Int64 := (if (f_X6_newUnits t) ≤ 0 then 0 else ((1000 * (gTr_even t)) / (f_X6_newUnits t)))
  let hd1 : Nat → zHd := ((L_X6_pay t x12_0 (6 - 0 + 1) (gTr_hd t) 0 0).1)
  let al1 : Int64 := ((L_X6_pay t x12_0 (6 - 0 + 1) (gTr_hd t) 0 0).2.1)
  let j1 : Nat := ((L_X6_pay t x12_0 (6 - 0 + 1) (gTr_hd t) 0 0).2.2)
  (((al1).toInt32), (sTr_hd (sTr_even (sTr_pool (sTr_cash t ((gTr_cash t) - al1)) ((gTr_pool t) - al1)) 0) hd1))
set_option maxHeartbeats 4000000 in
set_option maxRecDepth 100000 in
theorem c_X6_payIncome (l : Launch) (D : va_G) (cy : Nat → ClassId) (a : Nat → Nat)  (t : zTr)  : zC l yX6_payIncome (zW yX6_payIncome cX6_payIncome 13 (Option.some Jvm.ClassFile.FieldType.int)) { frames := 3, cells := 0, slots := 0, locals := 65 } D cy [.ref (a 0)] (WT cy a t) (some (.int ((f_X6_payIncome t).1))) (WT cy a ((f_X6_payIncome t).2)) := by
  refine zC_of rfl (Nat.le_of_ble_eq_true rfl) (zOk_i _) (fun E C hret => ?_)
  show zJ E 13 0 0 (WT cy a t) 0 [(0, .ref (a 0))] []
  refine zj_aload_n C dX6_payIncome_0 0 rfl ?_
  refine zj_callV C (nn := 18) (ws' := (WT cy a t)) (st := []) (st1 := [.long (f_X6_unitIncome t)]) 0 6 [0, 1, 2, 3, 4, 5, 6, 7, 8, 9, 10, 11, 12, 13, 14, 15, 16, 17] (c_X6_unitIncome l D cy a  t ) (zg_V tg_401 tg_398 tg_399 tg_400 tg_2) ⟨rfl, hdZ_X6_unitIncome⟩ ⟨rfl, rfl⟩ ⟨by decide, by decide⟩ rfl rfl rfl (by decide) ⟨rfl, rfl⟩ rfl rfl (Nat.le_of_ble_eq_true rfl) dX6_payIncome_1 rfl rfl ?_
  refine zj_lstore_n C (L' := [(1, .long (f_X6_unitIncome t)), (0, .ref (a 0))]) dX6_payIncome_4 rfl (by decide) rfl ?_
  refine zj_aload_n C dX6_payIncome_5 1 rfl ?_
  refine zj_callV C (nn := 18) (ws' := (WT cy a t)) (st := []) (st1 := [.long (f_X6_newUnits t)]) 0 6 [0, 1, 2, 3, 4, 5, 6, 7, 8, 9, 10, 11, 12, 13, 14, 15, 16, 17] (c_X6_newUnits l D cy a  t ) (zg_V tg_410 tg_407 tg_408 tg_409 tg_2) ⟨rfl, hdZ_X6_newUnits⟩ ⟨rfl, rfl⟩ ⟨by decide, by decide⟩ rfl rfl rfl (by decide) ⟨rfl, rfl⟩ rfl rfl (Nat.le_of_ble_eq_true rfl) dX6_payIncome_6 rfl rfl ?_
  refine zj_lstore_n C (L' := [(3, .long (f_X6_newUnits t)), (1, .long (f_X6_unitIncome t)), (0, .ref (a 0))]) dX6_payIncome_9 rfl (by decide) rfl ?_
  refine zj_lload_n C dX6_payIncome_10 0 rfl ?_
  refine zj_lconst C (v := 0) dX6_payIncome_11 (by decide) ?_
  have J_12 : ∀ (x12_0 : Int64), x12_0 = (if (f_X6_newUnits t) ≤ 0 then 0 else ((1000 * (gTr_even t)) / (f_X6_newUnits t))) → zJ E 13 0 0 (WT cy a t) 30 [(3, .long (f_X6_newUnits t)), (1, .long (f_X6_unitIncome t)), (0, .ref (a 0))] [.long x12_0] := by
    intro x12_0 hx12_0
    refine zj_lstore C (L' := [(5, .long x12_0), (3, .long (f_X6_newUnits t)), (1, .long (f_X6_unitIncome t)), (0, .ref (a 0))]) dX6_payIncome_30 (by decide) rfl ?_
    refine zj_lconst C (v := 0) dX6_payIncome_32 (by decide) ?_
    refine zj_lstore C (L' := [(7, .long 0), (5, .long x12_0), (3, .long (f_X6_newUnits t)), (1, .long (f_X6_unitIncome t)), (0, .ref (a 0))]) dX6_payIncome_33 (by decide) rfl ?_
    refine zj_iconst C (v := (nI 0)) dX6_payIncome_35 (by decide) ?_
    refine zj_istore C (L' := [(9, .int (nI 0)), (7, .long 0), (5, .long x12_0), (3, .long (f_X6_newUnits t)), (1, .long (f_X6_unitIncome t)), (0, .ref (a 0))]) dX6_payIncome_36 (by decide) rfl ?_
    have loop_38 : ∀ (fuel : Nat) (hd0 : Nat → zHd) (al : Int64) (j : Nat), (hj : j ≤ 6) → 6 - j < fuel → (zJ E 13 0 0 (WT cy a (sTr_hd t ((L_X6_pay t x12_0 fuel hd0 al j).1))) 140 [(0, .ref (a 0)), (7, .long ((L_X6_pay t x12_0 fuel hd0 al j).2.1))] []) → zJ E 13 0 0 (WT cy a (sTr_hd t hd0)) 38 [(0, .ref (a 0)), (1, .long (f_X6_unitIncome t)), (3, .long (f_X6_newUnits t)), (5, .long x12_0), (7, .long al), (9, .int (nI j))] [] := by
      intro fuel
      induction fuel with
      | zero => intro hd0 al j hj hmu; exact absurd hmu (Nat.not_lt_zero _)
      | succ fuel ih_38 =>
        intro hd0 al j hj hmu_38 K_38
        refine zj_iload C dX6_payIncome_38 5 rfl ?_
        refine zj_bipush C (v := (nI 6)) dX6_payIncome_40 (by decide) ?_
        refine zj_icmp_ge C 140 dX6_payIncome_42 (by decide) (fun c => ?_) (fun c => ?_)
        · have c_42 : 6 ≤ j := ((nI_leI (by omega) (by omega)).mp c)
          refine zj_sub (L' := [(0, .ref (a 0)), (7, .long al)]) [0, 4] rfl ?_
          have e_38 : (L_X6_pay t x12_0 (fuel + 1) hd0 al j) = (hd0, al, j) := by refine (L_X6_pay_s t x12_0 fuel hd0 al j).trans ?_; refine (if_pos c_42).trans ?_; rfl
          rw [e_38] at K_38
          exact K_38 
        · have c_42 : ¬ (6 ≤ j) := (fun q => c ((nI_leI (by omega) (by omega)).mpr q))
          refine zj_aload_n C dX6_payIncome_45 0 rfl ?_
          refine zj_get C 0 6 7 (v := .ref (a 2)) inZ6 rfl rfl (by decide) tg_156 rfl dX6_payIncome_46 ?_
          refine zj_iload C dX6_payIncome_49 5 rfl ?_
          refine zj_aald C 2 4 (f := (fun k => some (a (12 + k)))) (b := (a (12 + j))) j (nI_clamp (by omega)) (vp_in_nI (by omega) (by omega)) rfl rfl rfl dX6_payIncome_51 ?_
          refine zj_astore C (L' := [(10, .ref (a (12 + j))), (0, .ref (a 0)), (1, .long (f_X6_unitIncome t)), (3, .long (f_X6_newUnits t)), (5, .long x12_0), (7, .long al), (9, .int (nI j))]) dX6_payIncome_52 (by decide) rfl ?_
          refine zj_aload C dX6_payIncome_54 0 rfl ?_
          refine zj_callV C (nn := 1) (ws' := (WT cy a (sTr_hd t hd0))) (st := []) (st1 := [.long (f_X2_units (hd0 j))]) (12 + j) 2 [(12 + j)] (c_X2_units l D cy (a (12 + j))  (hd0 j) ) (zg_V tg_381 tg_378 tg_379 tg_380 tg_3) ⟨rfl, hdZ_X2_units⟩ ⟨rfl, rfl⟩ ⟨by decide, by decide⟩ (WT_h (by omega)) rfl (WT_hC (by omega)) rfl ⟨rfl, rfl⟩ rfl rfl (Nat.le_of_ble_eq_true rfl) dX6_payIncome_56 (WT_same (by omega)) rfl ?_
          refine zj_lload_n C dX6_payIncome_59 2 rfl ?_
          refine zj_lmul C dX6_payIncome_60 ?_
          refine zj_ldc2 C dX6_payIncome_61 tg_402 ?_
          refine zj_ldiv C dX6_payIncome_64 (by decide) ?_
          refine zj_lstore C (L' := [(11, .long (((f_X2_units (hd0 j)) * (f_X6_unitIncome t)) / 1000)), (10, .ref (a (12 + j))), (0, .ref (a 0)), (1, .long (f_X6_unitIncome t)), (3, .long (f_X6_newUnits t)), (5, .long x12_0), (7, .long al), (9, .int (nI j))]) dX6_payIncome_65 (by decide) rfl ?_
          refine zj_aload C dX6_payIncome_67 1 rfl ?_
          refine zj_dup C dX6_payIncome_69 rfl ?_
          refine zj_get C (12 + j) 2 4 (v := .long (gHd_inc (hd0 j))) inZ2 (WT_h (by omega)) rfl (by decide) tg_46 rfl dX6_payIncome_70 ?_
          refine zj_lload C dX6_payIncome_73 0 rfl ?_
          refine zj_ladd C dX6_payIncome_75 ?_
          refine zj_put C (12 + j) 2 4 (v := .long ((gHd_inc (hd0 j)) + (((f_X2_units (hd0 j)) * (f_X6_unitIncome t)) / 1000))) (ws' := (WT cy a (sTr_hd t (zup hd0 j (sHd_inc (hd0 j) ((gHd_inc (hd0 j)) + (((f_X2_units (hd0 j)) * (f_X6_unitIncome t)) / 1000))))))) tyX2 tyX2_ok nmX2 inZ2 (WT_h (by omega)) rfl (by decide) tg_46 rfl rfl rfl (Nat.le_of_ble_eq_true rfl) dX6_payIncome_76 (WT_set (sHd_inc (hd0 j) ((gHd_inc (hd0 j)) + (((f_X2_units (hd0 j)) * (f_X6_unitIncome t)) / 1000))) (by omega)) ?_
          refine zj_aload C dX6_payIncome_79 1 rfl ?_
          refine zj_dup C dX6_payIncome_81 rfl ?_
          refine zj_get C (12 + j) 2 5 (v := .long (gHd_eve (hd0 j))) inZ2 (WT_hz (by omega)) rfl (by decide) tg_49 rfl dX6_payIncome_82 ?_
          refine zj_aload C dX6_payIncome_85 1 rfl ?_
          refine zj_get C (12 + j) 2 1 (v := .long (gHd_new (hd0 j))) inZ2 (WT_hz (by omega)) rfl (by decide) tg_36 rfl dX6_payIncome_87 ?_
          refine zj_lload C dX6_payIncome_90 5 rfl ?_
          refine zj_lmul C dX6_payIncome_92 ?_
          refine zj_ldc2 C dX6_payIncome_93 tg_402 ?_
          refine zj_ldiv C dX6_payIncome_96 (by decide) ?_
          refine zj_lload C dX6_payIncome_97 0 rfl ?_
          refine zj_mmin C (x := (((gHd_new (hd0 j)) * x12_0) / 1000)) (y := (((f_X2_units (hd0 j)) * (f_X6_unitIncome t)) / 1000)) tg_411 ⟨by decide, Nat.le_of_ble_eq_true rfl⟩ dX6_payIncome_99 ?_
          refine zj_ladd C dX6_payIncome_102 ?_
          refine zj_put C (12 + j) 2 5 (v := .long ((gHd_eve (hd0 j)) + (if (((f_X2_units (hd0 j)) * (f_X6_unitIncome t)) / 1000) < (((gHd_new (hd0 j)) * x12_0) / 1000) then (((f_X2_units (hd0 j)) * (f_X6_unitIncome t)) / 1000) else (((gHd_new (hd0 j)) * x12_0) / 1000)))) (ws' := (WT cy a (sTr_hd t (zup hd0 j (sHd_eve (sHd_inc (hd0 j) ((gHd_inc (hd0 j)) + (((f_X2_units (hd0 j)) * (f_X6_unitIncome t)) / 1000))) ((gHd_eve (hd0 j)) + (if (((f_X2_units (hd0 j)) * (f_X6_unitIncome t)) / 1000) < (((gHd_new (hd0 j)) * x12_0) / 1000) then (((f_X2_units (hd0 j)) * (f_X6_unitIncome t)) / 1000) else (((gHd_new (hd0 j)) * x12_0) / 1000)))))))) tyX2 tyX2_ok nmX2 inZ2 (WT_hz (by omega)) rfl (by decide) tg_49 rfl rfl rfl (Nat.le_of_ble_eq_true rfl) dX6_payIncome_103 (WT_setz (sHd_eve (sHd_inc (hd0 j) ((gHd_inc (hd0 j)) + (((f_X2_units (hd0 j)) * (f_X6_unitIncome t)) / 1000))) ((gHd_eve (hd0 j)) + (if (((f_X2_units (hd0 j)) * (f_X6_unitIncome t)) / 1000) < (((gHd_new (hd0 j)) * x12_0) / 1000) then (((f_X2_units (hd0 j)) * (f_X6_unitIncome t)) / 1000) else (((gHd_new (hd0 j)) * x12_0) / 1000)))) (by omega)) ?_
          refine zj_aload C dX6_payIncome_106 1 rfl ?_
          refine zj_dup C dX6_payIncome_108 rfl ?_
          refine zj_get C (12 + j) 2 0 (v := .long (gHd_old (hd0 j))) inZ2 (WT_hz (by omega)) rfl (by decide) tg_34 rfl dX6_payIncome_109 ?_
          refine zj_aload C dX6_payIncome_112 1 rfl ?_
          refine zj_get C (12 + j) 2 1 (v := .long (gHd_new (hd0 j))) inZ2 (WT_hz (by omega)) rfl (by decide) tg_36 rfl dX6_payIncome_114 ?_
          refine zj_ladd C dX6_payIncome_117 ?_
          refine zj_put C (12 + j) 2 0 (v := .long ((gHd_old (hd0 j)) + (gHd_new (hd0 j)))) (ws' := (WT cy a (sTr_hd t (zup hd0 j (sHd_eve (sHd_inc (sHd_old (hd0 j) ((gHd_old (hd0 j)) + (gHd_new (hd0 j)))) ((gHd_inc (hd0 j)) + (((f_X2_units (hd0 j)) * (f_X6_unitIncome t)) / 1000))) ((gHd_eve (hd0 j)) + (if (((f_X2_units (hd0 j)) * (f_X6_unitIncome t)) / 1000) < (((gHd_new (hd0 j)) * x12_0) / 1000) then (((f_X2_units (hd0 j)) * (f_X6_unitIncome t)) / 1000) else (((gHd_new (hd0 j)) * x12_0) / 1000)))))))) tyX2 tyX2_ok nmX2 inZ2 (WT_hz (by omega)) rfl (by decide) tg_34 rfl rfl rfl (Nat.le_of_ble_eq_true rfl) dX6_payIncome_118 (WT_setz (sHd_eve (sHd_inc (sHd_old (hd0 j) ((gHd_old (hd0 j)) + (gHd_new (hd0 j)))) ((gHd_inc (hd0 j)) + (((f_X2_units (hd0 j)) * (f_X6_unitIncome t)) / 1000))) ((gHd_eve (hd0 j)) + (if (((f_X2_units (hd0 j)) * (f_X6_unitIncome t)) / 1000) < (((gHd_new (hd0 j)) * x12_0) / 1000) then (((f_X2_units (hd0 j)) * (f_X6_unitIncome t)) / 1000) else (((gHd_new (hd0 j)) * x12_0) / 1000)))) (by omega)) ?_
          refine zj_aload C dX6_payIncome_121 1 rfl ?_
          refine zj_lconst C (v := 0) dX6_payIncome_123 (by decide) ?_
          refine zj_put C (12 + j) 2 1 (v := .long 0) (ws' := (WT cy a (sTr_hd t (zup hd0 j (sHd_eve (sHd_inc (sHd_new (sHd_old (hd0 j) ((gHd_old (hd0 j)) + (gHd_new (hd0 j)))) 0) ((gHd_inc (hd0 j)) + (((f_X2_units (hd0 j)) * (f_X6_unitIncome t)) / 1000))) ((gHd_eve (hd0 j)) + (if (((f_X2_units (hd0 j)) * (f_X6_unitIncome t)) / 1000) < (((gHd_new (hd0 j)) * x12_0) / 1000) then (((f_X2_units (hd0 j)) * (f_X6_unitIncome t)) / 1000) else (((gHd_new (hd0 j)) * x12_0) / 1000)))))))) tyX2 tyX2_ok nmX2 inZ2 (WT_hz (by omega)) rfl (by decide) tg_36 rfl rfl rfl (Nat.le_of_ble_eq_true rfl) dX6_payIncome_124 (WT_setz (sHd_eve (sHd_inc (sHd_new (sHd_old (hd0 j) ((gHd_old (hd0 j)) + (gHd_new (hd0 j)))) 0) ((gHd_inc (hd0 j)) + (((f_X2_units (hd0 j)) * (f_X6_unitIncome t)) / 1000))) ((gHd_eve (hd0 j)) + (if (((f_X2_units (hd0 j)) * (f_X6_unitIncome t)) / 1000) < (((gHd_new (hd0 j)) * x12_0) / 1000) then (((f_X2_units (hd0 j)) * (f_X6_unitIncome t)) / 1000) else (((gHd_new (hd0 j)) * x12_0) / 1000)))) (by omega)) ?_
          refine zj_lload C dX6_payIncome_127 6 rfl ?_
          refine zj_lload C dX6_payIncome_129 0 rfl ?_
          refine zj_ladd C dX6_payIncome_131 ?_
          refine zj_lstore C (L' := [(7, .long (al + (((f_X2_units (hd0 j)) * (f_X6_unitIncome t)) / 1000))), (11, .long (((f_X2_units (hd0 j)) * (f_X6_unitIncome t)) / 1000)), (10, .ref (a (12 + j))), (0, .ref (a 0)), (1, .long (f_X6_unitIncome t)), (3, .long (f_X6_newUnits t)), (5, .long x12_0), (9, .int (nI j))]) dX6_payIncome_132 (by decide) rfl ?_
          refine zj_iinc C (j := 7) (v := (nI (j + 1))) (L' := [(9, .int (nI (j + 1))), (7, .long (al + (((f_X2_units (hd0 j)) * (f_X6_unitIncome t)) / 1000))), (11, .long (((f_X2_units (hd0 j)) * (f_X6_unitIncome t)) / 1000)), (10, .ref (a (12 + j))), (0, .ref (a 0)), (1, .long (f_X6_unitIncome t)), (3, .long (f_X6_newUnits t)), (5, .long x12_0)]) dX6_payIncome_134 rfl (nI_1 _) (by decide) rfl ?_
          refine zj_goto C 38 dX6_payIncome_137 (by decide) ?_
          refine zj_sub (L' := [(0, .ref (a 0)), (1, .long (f_X6_unitIncome t)), (3, .long (f_X6_newUnits t)), (5, .long x12_0), (7, .long (al + (((f_X2_units (hd0 j)) * (f_X6_unitIncome t)) / 1000))), (9, .int (nI (j + 1)))]) [4, 5, 6, 7, 1, 0] rfl ?_
          have hn_hj : (j + 1) ≤ 6 := (by omega)
          have hn_mu : 6 - (j + 1) < fuel := (by omega)
          have e_38 : (L_X6_pay t x12_0 (fuel + 1) hd0 al j) = (L_X6_pay t x12_0 fuel (zup hd0 j (sHd_eve (sHd_inc (sHd_new (sHd_old (hd0 j) ((gHd_old (hd0 j)) + (gHd_new (hd0 j)))) 0) ((gHd_inc (hd0 j)) + (((f_X2_units (hd0 j)) * (f_X6_unitIncome t)) / 1000))) ((gHd_eve (hd0 j)) + (if (((f_X2_units (hd0 j)) * (f_X6_unitIncome t)) / 1000) < (((gHd_new (hd0 j)) * x12_0) / 1000) then (((f_X2_units (hd0 j)) * (f_X6_unitIncome t)) / 1000) else (((gHd_new (hd0 j)) * x12_0) / 1000))))) (al + (((f_X2_units (hd0 j)) * (f_X6_unitIncome t)) / 1000)) (j + 1)) := by refine (L_X6_pay_s t x12_0 fuel hd0 al j).trans ?_; refine (if_neg c_42).trans ?_; rfl
          rw [e_38] at K_38
          exact ih_38 (zup hd0 j (sHd_eve (sHd_inc (sHd_new (sHd_old (hd0 j) ((gHd_old (hd0 j)) + (gHd_new (hd0 j)))) 0) ((gHd_inc (hd0 j)) + (((f_X2_units (hd0 j)) * (f_X6_unitIncome t)) / 1000))) ((gHd_eve (hd0 j)) + (if (((f_X2_units (hd0 j)) * (f_X6_unitIncome t)) / 1000) < (((gHd_new (hd0 j)) * x12_0) / 1000) then (((f_X2_units (hd0 j)) * (f_X6_unitIncome t)) / 1000) else (((gHd_new (hd0 j)) * x12_0) / 1000))))) (al + (((f_X2_units (hd0 j)) * (f_X6_unitIncome t)) / 1000)) (j + 1) hn_hj hn_mu K_38
    have K_38 : ∀ (hd1 : Nat → zHd) (al1 : Int64) (j1 : Nat), hd1 = ((L_X6_pay t x12_0 (6 - 0 + 1) (gTr_hd t) 0 0).1) → al1 = ((L_X6_pay t x12_0 (6 - 0 + 1) (gTr_hd t) 0 0).2.1) → j1 = ((L_X6_pay t x12_0 (6 - 0 + 1) (gTr_hd t) 0 0).2.2) → zJ E 13 0 0 (WT cy a (sTr_hd t hd1)) 140 [(0, .ref (a 0)), (7, .long al1)] [] := by
      intro hd1 al1 j1 hhd1 hal1 hj1 
      refine zj_aload_n C dX6_payIncome_140 0 rfl ?_
      refine zj_dup C dX6_payIncome_141 rfl ?_
      refine zj_get C 0 6 0 (v := .long (gTr_cash t)) inZ6 rfl rfl (by decide) tg_139 rfl dX6_payIncome_142 ?_
      refine zj_lload C dX6_payIncome_145 1 rfl ?_
      refine zj_lsub C dX6_payIncome_147 ?_
      refine zj_put C 0 6 0 (v := .long ((gTr_cash t) - al1)) (ws' := (WT cy a (sTr_hd (sTr_cash t ((gTr_cash t) - al1)) hd1))) tyX6 tyX6_ok nmX6 inZ6 rfl rfl (by decide) tg_139 rfl rfl rfl (Nat.le_of_ble_eq_true rfl) dX6_payIncome_148 rfl ?_
      refine zj_aload_n C dX6_payIncome_151 0 rfl ?_
      refine zj_dup C dX6_payIncome_152 rfl ?_
      refine zj_get C 0 6 1 (v := .long (gTr_pool t)) inZ6 rfl rfl (by decide) tg_142 rfl dX6_payIncome_153 ?_
      refine zj_lload C dX6_payIncome_156 1 rfl ?_
      refine zj_lsub C dX6_payIncome_158 ?_
      refine zj_put C 0 6 1 (v := .long ((gTr_pool t) - al1)) (ws' := (WT cy a (sTr_hd (sTr_pool (sTr_cash t ((gTr_cash t) - al1)) ((gTr_pool t) - al1)) hd1))) tyX6 tyX6_ok nmX6 inZ6 rfl rfl (by decide) tg_142 rfl rfl rfl (Nat.le_of_ble_eq_true rfl) dX6_payIncome_159 rfl ?_
      refine zj_aload_n C dX6_payIncome_162 0 rfl ?_
      refine zj_lconst C (v := 0) dX6_payIncome_163 (by decide) ?_
      refine zj_put C 0 6 2 (v := .long 0) (ws' := (WT cy a (sTr_hd (sTr_even (sTr_pool (sTr_cash t ((gTr_cash t) - al1)) ((gTr_pool t) - al1)) 0) hd1))) tyX6 tyX6_ok nmX6 inZ6 rfl rfl (by decide) tg_144 rfl rfl rfl (Nat.le_of_ble_eq_true rfl) dX6_payIncome_164 rfl ?_
      refine zj_lload C dX6_payIncome_167 1 rfl ?_
      refine zj_l2i C dX6_payIncome_169 ?_
      subst hj1
      subst hal1
      subst hhd1
      subst hx12_0
      have e : f_X6_payIncome t = (((((L_X6_pay t (if (f_X6_newUnits t) ≤ 0 then 0 else ((1000 * (gTr_even t)) / (f_X6_newUnits t))) (6 - 0 + 1) (gTr_hd t) 0 0).2.1)).toInt32), (sTr_hd (sTr_even (sTr_pool (sTr_cash t ((gTr_cash t) - ((L_X6_pay t (if (f_X6_newUnits t) ≤ 0 then 0 else ((1000 * (gTr_even t)) / (f_X6_newUnits t))) (6 - 0 + 1) (gTr_hd t) 0 0).2.1))) ((gTr_pool t) - ((L_X6_pay t (if (f_X6_newUnits t) ≤ 0 then 0 else ((1000 * (gTr_even t)) / (f_X6_newUnits t))) (6 - 0 + 1) (gTr_hd t) 0 0).2.1))) 0) ((L_X6_pay t (if (f_X6_newUnits t) ≤ 0 then 0 else ((1000 * (gTr_even t)) / (f_X6_newUnits t))) (6 - 0 + 1) (gTr_hd t) 0 0).1))) := by rfl
      rw [e] at hret
      exact hret _ _ dX6_payIncome_170
    refine zj_sub (L' := [(0, .ref (a 0)), (1, .long (f_X6_unitIncome t)), (3, .long (f_X6_newUnits t)), (5, .long x12_0), (7, .long 0), (9, .int (nI 0))]) [5, 4, 3, 2, 1, 0] rfl ?_
    refine zj_eq (ws' := (WT cy a (sTr_hd t (gTr_hd t)))) rfl rfl rfl rfl ?_
    exact loop_38 (6 - 0 + 1) (gTr_hd t) 0 0 (by omega) (Nat.lt_succ_self _) (K_38 _ _ _ rfl rfl rfl)
  refine zj_lcmp_le C 29 dX6_payIncome_12 dX6_payIncome_13 (by decide) (fun c => ?_) (fun c => ?_)
  · have c_12 : (f_X6_newUnits t) ≤ 0 := c
    refine zj_lconst C (v := 0) dX6_payIncome_29 (by decide) ?_
    exact J_12 0 (by simp only [if_pos c_12]; first | done | assumption)
  · have c_12 : ¬ ((f_X6_newUnits t) ≤ 0) := c
    refine zj_ldc2 C dX6_payIncome_16 tg_402 ?_
    refine zj_aload_n C dX6_payIncome_19 2 rfl ?_
    refine zj_get C 0 6 2 (v := .long (gTr_even t)) inZ6 rfl rfl (by decide) tg_144 rfl dX6_payIncome_20 ?_
    refine zj_lmul C dX6_payIncome_23 ?_
    refine zj_lload_n C dX6_payIncome_24 0 rfl ?_
    refine zj_ldiv C dX6_payIncome_25 (zne_le c_12) ?_
    refine zj_goto C 30 dX6_payIncome_26 (by decide) ?_
    exact J_12 ((1000 * (gTr_even t)) / (f_X6_newUnits t)) (by simp only [if_neg c_12]; first | done | assumption)

noncomputable def f_X6_makeUnits (t : zTr) (h : Nat) (un : Int64) (am : Int64) (ofu : Int64) : zTr :=
  (sTr_hd (sTr_even (sTr_pool (sTr_cash t ((gTr_cash t) + am)) (if ((gTr_cash t) + am) < ((gTr_pool t) + ((un * ofu) / 1000)) then ((gTr_cash t) + am) else ((gTr_pool t) + ((un * ofu) / 1000)))) ((gTr_even t) + ((un * ofu) / 1000))) (zup (gTr_hd t) h (sHd_bought (sHd_new (gTr_hd t h) ((gHd_new (gTr_hd t h)) + un)) ((gHd_bought (gTr_hd t h)) + am))))
set_option maxHeartbeats 4000000 in
set_option maxRecDepth 100000 in
theorem c_X6_makeUnits (l : Launch) (D : va_G) (cy : Nat → ClassId) (a : Nat → Nat) (h : Nat) (un : Int64) (am : Int64) (ofu : Int64) (t : zTr) (hh : h < 6) : zC l yX6_makeUnits (zW yX6_makeUnits cX6_makeUnits 10 (Option.none : Option Jvm.ClassFile.FieldType)) { frames := 1, cells := 0, slots := 0, locals := 16 } D cy [.ref (a 0), .ref (a (12 + h)), .long un, .long am, .long ofu] (WT cy a t) none (WT cy a (f_X6_makeUnits t h un am ofu)) := by
  refine zC_of rfl (Nat.le_of_ble_eq_true rfl) zOk_v (fun E C hret => ?_)
  show zJ E 10 0 0 (WT cy a t) 0 [(0, .ref (a 0)), (1, .ref (a (12 + h))), (2, .long un), (4, .long am), (6, .long ofu)] []
  refine zj_lload_n C dX6_makeUnits_0 2 rfl ?_
  refine zj_lload C dX6_makeUnits_1 4 rfl ?_
  refine zj_lmul C dX6_makeUnits_3 ?_
  refine zj_ldc2 C dX6_makeUnits_4 tg_402 ?_
  refine zj_ldiv C dX6_makeUnits_7 (by decide) ?_
  refine zj_lstore C (L' := [(8, .long ((un * ofu) / 1000)), (0, .ref (a 0)), (1, .ref (a (12 + h))), (2, .long un), (4, .long am), (6, .long ofu)]) dX6_makeUnits_8 (by decide) rfl ?_
  refine zj_aload_n C dX6_makeUnits_10 1 rfl ?_
  refine zj_dup C dX6_makeUnits_11 rfl ?_
  refine zj_get C 0 6 0 (v := .long (gTr_cash t)) inZ6 rfl rfl (by decide) tg_139 rfl dX6_makeUnits_12 ?_
  refine zj_lload C dX6_makeUnits_15 4 rfl ?_
  refine zj_ladd C dX6_makeUnits_17 ?_
  refine zj_put C 0 6 0 (v := .long ((gTr_cash t) + am)) (ws' := (WT cy a (sTr_cash t ((gTr_cash t) + am)))) tyX6 tyX6_ok nmX6 inZ6 rfl rfl (by decide) tg_139 rfl rfl rfl (Nat.le_of_ble_eq_true rfl) dX6_makeUnits_18 rfl ?_
  refine zj_aload_n C dX6_makeUnits_21 2 rfl ?_
  refine zj_dup C dX6_makeUnits_22 rfl ?_
  refine zj_get C (12 + h) 2 2 (v := .long (gHd_bought (gTr_hd t h))) inZ2 (WT_h (by omega)) rfl (by decide) tg_40 rfl dX6_makeUnits_23 ?_
  refine zj_lload C dX6_makeUnits_26 4 rfl ?_
  refine zj_ladd C dX6_makeUnits_28 ?_
  refine zj_put C (12 + h) 2 2 (v := .long ((gHd_bought (gTr_hd t h)) + am)) (ws' := (WT cy a (sTr_hd (sTr_cash t ((gTr_cash t) + am)) (zup (gTr_hd t) h (sHd_bought (gTr_hd t h) ((gHd_bought (gTr_hd t h)) + am)))))) tyX2 tyX2_ok nmX2 inZ2 (WT_h (by omega)) rfl (by decide) tg_40 rfl rfl rfl (Nat.le_of_ble_eq_true rfl) dX6_makeUnits_29 (WT_set (sHd_bought (gTr_hd t h) ((gHd_bought (gTr_hd t h)) + am)) (by omega)) ?_
  refine zj_aload_n C dX6_makeUnits_32 2 rfl ?_
  refine zj_dup C dX6_makeUnits_33 rfl ?_
  refine zj_get C (12 + h) 2 1 (v := .long (gHd_new (gTr_hd t h))) inZ2 (WT_hz (by omega)) rfl (by decide) tg_36 rfl dX6_makeUnits_34 ?_
  refine zj_lload_n C dX6_makeUnits_37 3 rfl ?_
  refine zj_ladd C dX6_makeUnits_38 ?_
  refine zj_put C (12 + h) 2 1 (v := .long ((gHd_new (gTr_hd t h)) + un)) (ws' := (WT cy a (sTr_hd (sTr_cash t ((gTr_cash t) + am)) (zup (gTr_hd t) h (sHd_bought (sHd_new (gTr_hd t h) ((gHd_new (gTr_hd t h)) + un)) ((gHd_bought (gTr_hd t h)) + am)))))) tyX2 tyX2_ok nmX2 inZ2 (WT_hz (by omega)) rfl (by decide) tg_36 rfl rfl rfl (Nat.le_of_ble_eq_true rfl) dX6_makeUnits_39 (WT_setz (sHd_bought (sHd_new (gTr_hd t h) ((gHd_new (gTr_hd t h)) + un)) ((gHd_bought (gTr_hd t h)) + am)) (by omega)) ?_
  refine zj_aload_n C dX6_makeUnits_42 1 rfl ?_
  refine zj_aload_n C dX6_makeUnits_43 1 rfl ?_
  refine zj_get C 0 6 1 (v := .long (gTr_pool t)) inZ6 rfl rfl (by decide) tg_142 rfl dX6_makeUnits_44 ?_
  refine zj_lload C dX6_makeUnits_47 0 rfl ?_
  refine zj_ladd C dX6_makeUnits_49 ?_
  refine zj_aload_n C dX6_makeUnits_50 1 rfl ?_
  refine zj_get C 0 6 0 (v := .long ((gTr_cash t) + am)) inZ6 rfl rfl (by decide) tg_139 rfl dX6_makeUnits_51 ?_
  refine zj_mmin C (x := ((gTr_pool t) + ((un * ofu) / 1000))) (y := ((gTr_cash t) + am)) tg_411 ⟨by decide, Nat.le_of_ble_eq_true rfl⟩ dX6_makeUnits_54 ?_
  refine zj_put C 0 6 1 (v := .long (if ((gTr_cash t) + am) < ((gTr_pool t) + ((un * ofu) / 1000)) then ((gTr_cash t) + am) else ((gTr_pool t) + ((un * ofu) / 1000)))) (ws' := (WT cy a (sTr_hd (sTr_pool (sTr_cash t ((gTr_cash t) + am)) (if ((gTr_cash t) + am) < ((gTr_pool t) + ((un * ofu) / 1000)) then ((gTr_cash t) + am) else ((gTr_pool t) + ((un * ofu) / 1000)))) (zup (gTr_hd t) h (sHd_bought (sHd_new (gTr_hd t h) ((gHd_new (gTr_hd t h)) + un)) ((gHd_bought (gTr_hd t h)) + am)))))) tyX6 tyX6_ok nmX6 inZ6 rfl rfl (by decide) tg_142 rfl rfl rfl (Nat.le_of_ble_eq_true rfl) dX6_makeUnits_57 rfl ?_
  refine zj_aload_n C dX6_makeUnits_60 1 rfl ?_
  refine zj_dup C dX6_makeUnits_61 rfl ?_
  refine zj_get C 0 6 2 (v := .long (gTr_even t)) inZ6 rfl rfl (by decide) tg_144 rfl dX6_makeUnits_62 ?_
  refine zj_lload C dX6_makeUnits_65 0 rfl ?_
  refine zj_ladd C dX6_makeUnits_67 ?_
  refine zj_put C 0 6 2 (v := .long ((gTr_even t) + ((un * ofu) / 1000))) (ws' := (WT cy a (sTr_hd (sTr_even (sTr_pool (sTr_cash t ((gTr_cash t) + am)) (if ((gTr_cash t) + am) < ((gTr_pool t) + ((un * ofu) / 1000)) then ((gTr_cash t) + am) else ((gTr_pool t) + ((un * ofu) / 1000)))) ((gTr_even t) + ((un * ofu) / 1000))) (zup (gTr_hd t) h (sHd_bought (sHd_new (gTr_hd t h) ((gHd_new (gTr_hd t h)) + un)) ((gHd_bought (gTr_hd t h)) + am)))))) tyX6 tyX6_ok nmX6 inZ6 rfl rfl (by decide) tg_144 rfl rfl rfl (Nat.le_of_ble_eq_true rfl) dX6_makeUnits_68 rfl ?_
  have e : f_X6_makeUnits t h un am ofu = (sTr_hd (sTr_even (sTr_pool (sTr_cash t ((gTr_cash t) + am)) (if ((gTr_cash t) + am) < ((gTr_pool t) + ((un * ofu) / 1000)) then ((gTr_cash t) + am) else ((gTr_pool t) + ((un * ofu) / 1000)))) ((gTr_even t) + ((un * ofu) / 1000))) (zup (gTr_hd t) h (sHd_bought (sHd_new (gTr_hd t h) ((gHd_new (gTr_hd t h)) + un)) ((gHd_bought (gTr_hd t h)) + am)))) := by rfl
  rw [e] at hret
  exact hret _ _ dX6_makeUnits_71

noncomputable def f_X6_takeUnits (t : zTr) (h : Nat) (un : Int64) (am : Int64) (ofu : Int64) : zTr :=
  let x97_0 : Int64 := (if (f_X6_newUnits t) ≤ 0 then (gTr_even t) else ((gTr_even t) - (((un - (if (gHd_old (gTr_hd t h)) < un then (gHd_old (gTr_hd t h)) else un)) * (gTr_even t)) / (f_X6_newUnits t))))
  (sTr_hd (sTr_even (sTr_pool (sTr_cash t ((gTr_cash t) - am)) (if ((gTr_cash t) - am) < (if 0 < ((gTr_pool t) - ((un * ofu) / 1000)) then ((gTr_pool t) - ((un * ofu) / 1000)) else 0) then ((gTr_cash t) - am) else (if 0 < ((gTr_pool t) - ((un * ofu) / 1000)) then ((gTr_pool t) - ((un * ofu) / 1000)) else 0))) x97_0) (zup (gTr_hd t) h (sHd_paid (sHd_new (sHd_old (gTr_hd t h) ((gHd_old (gTr_hd t h)) - (if (gHd_old (gTr_hd t h)) < un then (gHd_old (gTr_hd t h)) else un))) ((gHd_new (gTr_hd t h)) - (un - (if (gHd_old (gTr_hd t h)) < un then (gHd_old (gTr_hd t h)) else un)))) ((gHd_paid (gTr_hd t h)) + am))))
set_option maxHeartbeats 4000000 in
set_option maxRecDepth 100000 in
theorem c_X6_takeUnits (l : Launch) (D : va_G) (cy : Nat → ClassId) (a : Nat → Nat) (h : Nat) (un : Int64) (am : Int64) (ofu : Int64) (t : zTr) (hh : h < 6) : zC l yX6_takeUnits (zW yX6_takeUnits cX6_takeUnits 14 (Option.none : Option Jvm.ClassFile.FieldType)) { frames := 1, cells := 0, slots := 0, locals := 23 } D cy [.ref (a 0), .ref (a (12 + h)), .long un, .long am, .long ofu] (WT cy a t) none (WT cy a (f_X6_takeUnits t h un am ofu)) := by
  refine zC_of rfl (Nat.le_of_ble_eq_true rfl) zOk_v (fun E C hret => ?_)
  show zJ E 14 0 0 (WT cy a t) 0 [(0, .ref (a 0)), (1, .ref (a (12 + h))), (2, .long un), (4, .long am), (6, .long ofu)] []
  refine zj_aload_n C dX6_takeUnits_0 0 rfl ?_
  refine zj_callV C (nn := 18) (ws' := (WT cy a t)) (st := []) (st1 := [.long (f_X6_newUnits t)]) 0 6 [0, 1, 2, 3, 4, 5, 6, 7, 8, 9, 10, 11, 12, 13, 14, 15, 16, 17] (c_X6_newUnits l D cy a  t ) (zg_V tg_410 tg_407 tg_408 tg_409 tg_2) ⟨rfl, hdZ_X6_newUnits⟩ ⟨rfl, rfl⟩ ⟨by decide, by decide⟩ rfl rfl rfl (by decide) ⟨rfl, rfl⟩ rfl rfl (Nat.le_of_ble_eq_true rfl) dX6_takeUnits_1 rfl rfl ?_
  refine zj_lstore C (L' := [(8, .long (f_X6_newUnits t)), (0, .ref (a 0)), (1, .ref (a (12 + h))), (2, .long un), (4, .long am), (6, .long ofu)]) dX6_takeUnits_4 (by decide) rfl ?_
  refine zj_lload_n C dX6_takeUnits_6 3 rfl ?_
  refine zj_aload_n C dX6_takeUnits_7 2 rfl ?_
  refine zj_get C (12 + h) 2 0 (v := .long (gHd_old (gTr_hd t h))) inZ2 (WT_h (by omega)) rfl (by decide) tg_34 rfl dX6_takeUnits_8 ?_
  refine zj_mmin C (x := un) (y := (gHd_old (gTr_hd t h))) tg_411 ⟨by decide, Nat.le_of_ble_eq_true rfl⟩ dX6_takeUnits_11 ?_
  refine zj_lstore C (L' := [(10, .long (if (gHd_old (gTr_hd t h)) < un then (gHd_old (gTr_hd t h)) else un)), (8, .long (f_X6_newUnits t)), (0, .ref (a 0)), (1, .ref (a (12 + h))), (2, .long un), (4, .long am), (6, .long ofu)]) dX6_takeUnits_14 (by decide) rfl ?_
  refine zj_lload_n C dX6_takeUnits_16 4 rfl ?_
  refine zj_lload C dX6_takeUnits_17 0 rfl ?_
  refine zj_lsub C dX6_takeUnits_19 ?_
  refine zj_lstore C (L' := [(12, .long (un - (if (gHd_old (gTr_hd t h)) < un then (gHd_old (gTr_hd t h)) else un))), (10, .long (if (gHd_old (gTr_hd t h)) < un then (gHd_old (gTr_hd t h)) else un)), (8, .long (f_X6_newUnits t)), (0, .ref (a 0)), (1, .ref (a (12 + h))), (2, .long un), (4, .long am), (6, .long ofu)]) dX6_takeUnits_20 (by decide) rfl ?_
  refine zj_aload_n C dX6_takeUnits_22 3 rfl ?_
  refine zj_dup C dX6_takeUnits_23 rfl ?_
  refine zj_get C 0 6 0 (v := .long (gTr_cash t)) inZ6 rfl rfl (by decide) tg_139 rfl dX6_takeUnits_24 ?_
  refine zj_lload C dX6_takeUnits_27 6 rfl ?_
  refine zj_lsub C dX6_takeUnits_29 ?_
  refine zj_put C 0 6 0 (v := .long ((gTr_cash t) - am)) (ws' := (WT cy a (sTr_cash t ((gTr_cash t) - am)))) tyX6 tyX6_ok nmX6 inZ6 rfl rfl (by decide) tg_139 rfl rfl rfl (Nat.le_of_ble_eq_true rfl) dX6_takeUnits_30 rfl ?_
  refine zj_aload_n C dX6_takeUnits_33 4 rfl ?_
  refine zj_dup C dX6_takeUnits_34 rfl ?_
  refine zj_get C (12 + h) 2 3 (v := .long (gHd_paid (gTr_hd t h))) inZ2 (WT_h (by omega)) rfl (by decide) tg_43 rfl dX6_takeUnits_35 ?_
  refine zj_lload C dX6_takeUnits_38 6 rfl ?_
  refine zj_ladd C dX6_takeUnits_40 ?_
  refine zj_put C (12 + h) 2 3 (v := .long ((gHd_paid (gTr_hd t h)) + am)) (ws' := (WT cy a (sTr_hd (sTr_cash t ((gTr_cash t) - am)) (zup (gTr_hd t) h (sHd_paid (gTr_hd t h) ((gHd_paid (gTr_hd t h)) + am)))))) tyX2 tyX2_ok nmX2 inZ2 (WT_h (by omega)) rfl (by decide) tg_43 rfl rfl rfl (Nat.le_of_ble_eq_true rfl) dX6_takeUnits_41 (WT_set (sHd_paid (gTr_hd t h) ((gHd_paid (gTr_hd t h)) + am)) (by omega)) ?_
  refine zj_aload_n C dX6_takeUnits_44 4 rfl ?_
  refine zj_dup C dX6_takeUnits_45 rfl ?_
  refine zj_get C (12 + h) 2 0 (v := .long (gHd_old (gTr_hd t h))) inZ2 (WT_hz (by omega)) rfl (by decide) tg_34 rfl dX6_takeUnits_46 ?_
  refine zj_lload C dX6_takeUnits_49 1 rfl ?_
  refine zj_lsub C dX6_takeUnits_51 ?_
  refine zj_put C (12 + h) 2 0 (v := .long ((gHd_old (gTr_hd t h)) - (if (gHd_old (gTr_hd t h)) < un then (gHd_old (gTr_hd t h)) else un))) (ws' := (WT cy a (sTr_hd (sTr_cash t ((gTr_cash t) - am)) (zup (gTr_hd t) h (sHd_paid (sHd_old (gTr_hd t h) ((gHd_old (gTr_hd t h)) - (if (gHd_old (gTr_hd t h)) < un then (gHd_old (gTr_hd t h)) else un))) ((gHd_paid (gTr_hd t h)) + am)))))) tyX2 tyX2_ok nmX2 inZ2 (WT_hz (by omega)) rfl (by decide) tg_34 rfl rfl rfl (Nat.le_of_ble_eq_true rfl) dX6_takeUnits_52 (WT_setz (sHd_paid (sHd_old (gTr_hd t h) ((gHd_old (gTr_hd t h)) - (if (gHd_old (gTr_hd t h)) < un then (gHd_old (gTr_hd t h)) else un))) ((gHd_paid (gTr_hd t h)) + am)) (by omega)) ?_
  refine zj_aload_n C dX6_takeUnits_55 4 rfl ?_
  refine zj_dup C dX6_takeUnits_56 rfl ?_
  refine zj_get C (12 + h) 2 1 (v := .long (gHd_new (gTr_hd t h))) inZ2 (WT_hz (by omega)) rfl (by decide) tg_36 rfl dX6_takeUnits_57 ?_
  refine zj_lload C dX6_takeUnits_60 0 rfl ?_
  refine zj_lsub C dX6_takeUnits_62 ?_
  refine zj_put C (12 + h) 2 1 (v := .long ((gHd_new (gTr_hd t h)) - (un - (if (gHd_old (gTr_hd t h)) < un then (gHd_old (gTr_hd t h)) else un)))) (ws' := (WT cy a (sTr_hd (sTr_cash t ((gTr_cash t) - am)) (zup (gTr_hd t) h (sHd_paid (sHd_new (sHd_old (gTr_hd t h) ((gHd_old (gTr_hd t h)) - (if (gHd_old (gTr_hd t h)) < un then (gHd_old (gTr_hd t h)) else un))) ((gHd_new (gTr_hd t h)) - (un - (if (gHd_old (gTr_hd t h)) < un then (gHd_old (gTr_hd t h)) else un)))) ((gHd_paid (gTr_hd t h)) + am)))))) tyX2 tyX2_ok nmX2 inZ2 (WT_hz (by omega)) rfl (by decide) tg_36 rfl rfl rfl (Nat.le_of_ble_eq_true rfl) dX6_takeUnits_63 (WT_setz (sHd_paid (sHd_new (sHd_old (gTr_hd t h) ((gHd_old (gTr_hd t h)) - (if (gHd_old (gTr_hd t h)) < un then (gHd_old (gTr_hd t h)) else un))) ((gHd_new (gTr_hd t h)) - (un - (if (gHd_old (gTr_hd t h)) < un then (gHd_old (gTr_hd t h)) else un)))) ((gHd_paid (gTr_hd t h)) + am)) (by omega)) ?_
  refine zj_aload_n C dX6_takeUnits_66 3 rfl ?_
  refine zj_aload_n C dX6_takeUnits_67 3 rfl ?_
  refine zj_get C 0 6 1 (v := .long (gTr_pool t)) inZ6 rfl rfl (by decide) tg_142 rfl dX6_takeUnits_68 ?_
  refine zj_lload_n C dX6_takeUnits_71 5 rfl ?_
  refine zj_lload C dX6_takeUnits_72 7 rfl ?_
  refine zj_lmul C dX6_takeUnits_74 ?_
  refine zj_ldc2 C dX6_takeUnits_75 tg_402 ?_
  refine zj_ldiv C dX6_takeUnits_78 (by decide) ?_
  refine zj_lsub C dX6_takeUnits_79 ?_
  refine zj_lconst C (v := 0) dX6_takeUnits_80 (by decide) ?_
  refine zj_mmax C (x := ((gTr_pool t) - ((un * ofu) / 1000))) (y := 0) tg_414 ⟨by decide, Nat.le_of_ble_eq_true rfl⟩ dX6_takeUnits_81 ?_
  refine zj_aload_n C dX6_takeUnits_84 3 rfl ?_
  refine zj_get C 0 6 0 (v := .long ((gTr_cash t) - am)) inZ6 rfl rfl (by decide) tg_139 rfl dX6_takeUnits_85 ?_
  refine zj_mmin C (x := (if 0 < ((gTr_pool t) - ((un * ofu) / 1000)) then ((gTr_pool t) - ((un * ofu) / 1000)) else 0)) (y := ((gTr_cash t) - am)) tg_411 ⟨by decide, Nat.le_of_ble_eq_true rfl⟩ dX6_takeUnits_88 ?_
  refine zj_put C 0 6 1 (v := .long (if ((gTr_cash t) - am) < (if 0 < ((gTr_pool t) - ((un * ofu) / 1000)) then ((gTr_pool t) - ((un * ofu) / 1000)) else 0) then ((gTr_cash t) - am) else (if 0 < ((gTr_pool t) - ((un * ofu) / 1000)) then ((gTr_pool t) - ((un * ofu) / 1000)) else 0))) (ws' := (WT cy a (sTr_hd (sTr_pool (sTr_cash t ((gTr_cash t) - am)) (if ((gTr_cash t) - am) < (if 0 < ((gTr_pool t) - ((un * ofu) / 1000)) then ((gTr_pool t) - ((un * ofu) / 1000)) else 0) then ((gTr_cash t) - am) else (if 0 < ((gTr_pool t) - ((un * ofu) / 1000)) then ((gTr_pool t) - ((un * ofu) / 1000)) else 0))) (zup (gTr_hd t) h (sHd_paid (sHd_new (sHd_old (gTr_hd t h) ((gHd_old (gTr_hd t h)) - (if (gHd_old (gTr_hd t h)) < un then (gHd_old (gTr_hd t h)) else un))) ((gHd_new (gTr_hd t h)) - (un - (if (gHd_old (gTr_hd t h)) < un then (gHd_old (gTr_hd t h)) else un)))) ((gHd_paid (gTr_hd t h)) + am)))))) tyX6 tyX6_ok nmX6 inZ6 rfl rfl (by decide) tg_142 rfl rfl rfl (Nat.le_of_ble_eq_true rfl) dX6_takeUnits_91 rfl ?_
  refine zj_lload C dX6_takeUnits_94 2 rfl ?_
  refine zj_lconst C (v := 0) dX6_takeUnits_96 (by decide) ?_
  have J_97 : ∀ (x97_0 : Int64), x97_0 = (if (f_X6_newUnits t) ≤ 0 then (gTr_even t) else ((gTr_even t) - (((un - (if (gHd_old (gTr_hd t h)) < un then (gHd_old (gTr_hd t h)) else un)) * (gTr_even t)) / (f_X6_newUnits t)))) → zJ E 14 0 0 (WT cy a (sTr_hd (sTr_even (sTr_pool (sTr_cash t ((gTr_cash t) - am)) (if ((gTr_cash t) - am) < (if 0 < ((gTr_pool t) - ((un * ofu) / 1000)) then ((gTr_pool t) - ((un * ofu) / 1000)) else 0) then ((gTr_cash t) - am) else (if 0 < ((gTr_pool t) - ((un * ofu) / 1000)) then ((gTr_pool t) - ((un * ofu) / 1000)) else 0))) x97_0) (zup (gTr_hd t) h (sHd_paid (sHd_new (sHd_old (gTr_hd t h) ((gHd_old (gTr_hd t h)) - (if (gHd_old (gTr_hd t h)) < un then (gHd_old (gTr_hd t h)) else un))) ((gHd_new (gTr_hd t h)) - (un - (if (gHd_old (gTr_hd t h)) < un then (gHd_old (gTr_hd t h)) else un)))) ((gHd_paid (gTr_hd t h)) + am))))) 120 [(12, .long (un - (if (gHd_old (gTr_hd t h)) < un then (gHd_old (gTr_hd t h)) else un))), (10, .long (if (gHd_old (gTr_hd t h)) < un then (gHd_old (gTr_hd t h)) else un)), (8, .long (f_X6_newUnits t)), (0, .ref (a 0)), (1, .ref (a (12 + h))), (2, .long un), (4, .long am), (6, .long ofu)] [] := by
    intro x97_0 hx97_0
    subst hx97_0
    have e : f_X6_takeUnits t h un am ofu = (sTr_hd (sTr_even (sTr_pool (sTr_cash t ((gTr_cash t) - am)) (if ((gTr_cash t) - am) < (if 0 < ((gTr_pool t) - ((un * ofu) / 1000)) then ((gTr_pool t) - ((un * ofu) / 1000)) else 0) then ((gTr_cash t) - am) else (if 0 < ((gTr_pool t) - ((un * ofu) / 1000)) then ((gTr_pool t) - ((un * ofu) / 1000)) else 0))) (if (f_X6_newUnits t) ≤ 0 then (gTr_even t) else ((gTr_even t) - (((un - (if (gHd_old (gTr_hd t h)) < un then (gHd_old (gTr_hd t h)) else un)) * (gTr_even t)) / (f_X6_newUnits t))))) (zup (gTr_hd t) h (sHd_paid (sHd_new (sHd_old (gTr_hd t h) ((gHd_old (gTr_hd t h)) - (if (gHd_old (gTr_hd t h)) < un then (gHd_old (gTr_hd t h)) else un))) ((gHd_new (gTr_hd t h)) - (un - (if (gHd_old (gTr_hd t h)) < un then (gHd_old (gTr_hd t h)) else un)))) ((gHd_paid (gTr_hd t h)) + am)))) := by rfl
    rw [e] at hret
    exact hret _ _ dX6_takeUnits_120
  refine zj_lcmp_le C 120 dX6_takeUnits_97 dX6_takeUnits_98 (by decide) (fun c => ?_) (fun c => ?_)
  · have c_97 : (f_X6_newUnits t) ≤ 0 := c
    exact J_97 (gTr_even t) (by simp only [if_pos c_97]; first | done | assumption)
  · have c_97 : ¬ ((f_X6_newUnits t) ≤ 0) := c
    refine zj_aload_n C dX6_takeUnits_101 3 rfl ?_
    refine zj_dup C dX6_takeUnits_102 rfl ?_
    refine zj_get C 0 6 2 (v := .long (gTr_even t)) inZ6 rfl rfl (by decide) tg_144 rfl dX6_takeUnits_103 ?_
    refine zj_lload C dX6_takeUnits_106 0 rfl ?_
    refine zj_aload_n C dX6_takeUnits_108 3 rfl ?_
    refine zj_get C 0 6 2 (v := .long (gTr_even t)) inZ6 rfl rfl (by decide) tg_144 rfl dX6_takeUnits_109 ?_
    refine zj_lmul C dX6_takeUnits_112 ?_
    refine zj_lload C dX6_takeUnits_113 2 rfl ?_
    refine zj_ldiv C dX6_takeUnits_115 (zne_le c_97) ?_
    refine zj_lsub C dX6_takeUnits_116 ?_
    refine zj_put C 0 6 2 (v := .long ((gTr_even t) - (((un - (if (gHd_old (gTr_hd t h)) < un then (gHd_old (gTr_hd t h)) else un)) * (gTr_even t)) / (f_X6_newUnits t)))) (ws' := (WT cy a (sTr_hd (sTr_even (sTr_pool (sTr_cash t ((gTr_cash t) - am)) (if ((gTr_cash t) - am) < (if 0 < ((gTr_pool t) - ((un * ofu) / 1000)) then ((gTr_pool t) - ((un * ofu) / 1000)) else 0) then ((gTr_cash t) - am) else (if 0 < ((gTr_pool t) - ((un * ofu) / 1000)) then ((gTr_pool t) - ((un * ofu) / 1000)) else 0))) ((gTr_even t) - (((un - (if (gHd_old (gTr_hd t h)) < un then (gHd_old (gTr_hd t h)) else un)) * (gTr_even t)) / (f_X6_newUnits t)))) (zup (gTr_hd t) h (sHd_paid (sHd_new (sHd_old (gTr_hd t h) ((gHd_old (gTr_hd t h)) - (if (gHd_old (gTr_hd t h)) < un then (gHd_old (gTr_hd t h)) else un))) ((gHd_new (gTr_hd t h)) - (un - (if (gHd_old (gTr_hd t h)) < un then (gHd_old (gTr_hd t h)) else un)))) ((gHd_paid (gTr_hd t h)) + am)))))) tyX6 tyX6_ok nmX6 inZ6 rfl rfl (by decide) tg_144 rfl rfl rfl (Nat.le_of_ble_eq_true rfl) dX6_takeUnits_117 rfl ?_
    exact J_97 ((gTr_even t) - (((un - (if (gHd_old (gTr_hd t h)) < un then (gHd_old (gTr_hd t h)) else un)) * (gTr_even t)) / (f_X6_newUnits t))) (by simp only [if_neg c_97]; first | done | assumption)

noncomputable def f_X6_sellFor (t : zTr) (am : Int64) : Int32 × zTr :=
  if (gTr_cash t) < am then
    let x24_0 : Int64 := (if ((((gTr_quote t)).toInt64) - (f_X6_fee t)) ≤ 0 then (((gTr_lots t)).toInt64) else (if (((gTr_lots t)).toInt64) < ((((am - (gTr_cash t)) + ((((gTr_quote t)).toInt64) - (f_X6_fee t))) - 1) / ((((gTr_quote t)).toInt64) - (f_X6_fee t))) then (((gTr_lots t)).toInt64) else ((((am - (gTr_cash t)) + ((((gTr_quote t)).toInt64) - (f_X6_fee t))) - 1) / ((((gTr_quote t)).toInt64) - (f_X6_fee t)))))
    (((x24_0).toInt32), (sTr_lots (sTr_cash t ((gTr_cash t) + (x24_0 * ((((gTr_quote t)).toInt64) - (f_X6_fee t))))) ((gTr_lots t) - ((x24_0).toInt32))))
  else
    ((nI 0), t)
set_option maxHeartbeats 4000000 in
set_option maxRecDepth 100000 in
theorem c_X6_sellFor (l : Launch) (D : va_G) (cy : Nat → ClassId) (a : Nat → Nat) (am : Int64) (t : zTr)  : zC l yX6_sellFor (zW yX6_sellFor cX6_sellFor 7 (Option.some Jvm.ClassFile.FieldType.int)) { frames := 1, cells := 0, slots := 0, locals := 20 } D cy [.ref (a 0), .long am] (WT cy a t) (some (.int ((f_X6_sellFor t am).1))) (WT cy a ((f_X6_sellFor t am).2)) := by
  refine zC_of rfl (Nat.le_of_ble_eq_true rfl) (zOk_i _) (fun E C hret => ?_)
  show zJ E 7 0 0 (WT cy a t) 0 [(0, .ref (a 0)), (1, .long am)] []
  refine zj_aload_n C dX6_sellFor_0 0 rfl ?_
  refine zj_get C 0 6 0 (v := .long (gTr_cash t)) inZ6 rfl rfl (by decide) tg_139 rfl dX6_sellFor_1 ?_
  refine zj_lload_n C dX6_sellFor_4 1 rfl ?_
  refine zj_lcmp_lt C 11 dX6_sellFor_5 dX6_sellFor_6 (by decide) (fun c => ?_) (fun c => ?_)
  · have c_5 : (gTr_cash t) < am := c
    refine zj_aload_n C dX6_sellFor_11 0 rfl ?_
    refine zj_get C 0 6 4 (v := .int (gTr_quote t)) inZ6 rfl rfl (by decide) tg_148 rfl dX6_sellFor_12 ?_
    refine zj_i2l C dX6_sellFor_15 ?_
    refine zj_aload_n C dX6_sellFor_16 0 rfl ?_
    refine zj_callV C (nn := 18) (ws' := (WT cy a t)) (st := [.long (((gTr_quote t)).toInt64)]) (st1 := [.long (f_X6_fee t), .long (((gTr_quote t)).toInt64)]) 0 6 [0, 1, 2, 3, 4, 5, 6, 7, 8, 9, 10, 11, 12, 13, 14, 15, 16, 17] (c_X6_fee l D cy a  t ) (zg_V tg_481 tg_478 tg_479 tg_480 tg_2) ⟨rfl, hdZ_X6_fee⟩ ⟨rfl, rfl⟩ ⟨by decide, by decide⟩ rfl rfl rfl (by decide) ⟨rfl, rfl⟩ rfl rfl (Nat.le_of_ble_eq_true rfl) dX6_sellFor_17 rfl rfl ?_
    refine zj_lsub C dX6_sellFor_20 ?_
    refine zj_lstore_n C (L' := [(3, .long ((((gTr_quote t)).toInt64) - (f_X6_fee t))), (0, .ref (a 0)), (1, .long am)]) dX6_sellFor_21 rfl (by decide) rfl ?_
    refine zj_lload_n C dX6_sellFor_22 0 rfl ?_
    refine zj_lconst C (v := 0) dX6_sellFor_23 (by decide) ?_
    have J_24 : ∀ (x24_0 : Int64), x24_0 = (if ((((gTr_quote t)).toInt64) - (f_X6_fee t)) ≤ 0 then (((gTr_lots t)).toInt64) else (if (((gTr_lots t)).toInt64) < ((((am - (gTr_cash t)) + ((((gTr_quote t)).toInt64) - (f_X6_fee t))) - 1) / ((((gTr_quote t)).toInt64) - (f_X6_fee t))) then (((gTr_lots t)).toInt64) else ((((am - (gTr_cash t)) + ((((gTr_quote t)).toInt64) - (f_X6_fee t))) - 1) / ((((gTr_quote t)).toInt64) - (f_X6_fee t))))) → zJ E 7 0 0 (WT cy a t) 56 [(3, .long ((((gTr_quote t)).toInt64) - (f_X6_fee t))), (0, .ref (a 0)), (1, .long am)] [.long x24_0] := by
      intro x24_0 hx24_0
      refine zj_lstore C (L' := [(5, .long x24_0), (3, .long ((((gTr_quote t)).toInt64) - (f_X6_fee t))), (0, .ref (a 0)), (1, .long am)]) dX6_sellFor_56 (by decide) rfl ?_
      refine zj_aload_n C dX6_sellFor_58 2 rfl ?_
      refine zj_dup C dX6_sellFor_59 rfl ?_
      refine zj_get C 0 6 3 (v := .int (gTr_lots t)) inZ6 rfl rfl (by decide) tg_146 rfl dX6_sellFor_60 ?_
      refine zj_lload C dX6_sellFor_63 0 rfl ?_
      refine zj_l2i C dX6_sellFor_65 ?_
      refine zj_isub C dX6_sellFor_66 ?_
      refine zj_put C 0 6 3 (v := .int ((gTr_lots t) - ((x24_0).toInt32))) (ws' := (WT cy a (sTr_lots t ((gTr_lots t) - ((x24_0).toInt32))))) tyX6 tyX6_ok nmX6 inZ6 rfl rfl (by decide) tg_146 rfl rfl rfl (Nat.le_of_ble_eq_true rfl) dX6_sellFor_67 rfl ?_
      refine zj_aload_n C dX6_sellFor_70 2 rfl ?_
      refine zj_dup C dX6_sellFor_71 rfl ?_
      refine zj_get C 0 6 0 (v := .long (gTr_cash t)) inZ6 rfl rfl (by decide) tg_139 rfl dX6_sellFor_72 ?_
      refine zj_lload C dX6_sellFor_75 0 rfl ?_
      refine zj_lload_n C dX6_sellFor_77 1 rfl ?_
      refine zj_lmul C dX6_sellFor_78 ?_
      refine zj_ladd C dX6_sellFor_79 ?_
      refine zj_put C 0 6 0 (v := .long ((gTr_cash t) + (x24_0 * ((((gTr_quote t)).toInt64) - (f_X6_fee t))))) (ws' := (WT cy a (sTr_lots (sTr_cash t ((gTr_cash t) + (x24_0 * ((((gTr_quote t)).toInt64) - (f_X6_fee t))))) ((gTr_lots t) - ((x24_0).toInt32))))) tyX6 tyX6_ok nmX6 inZ6 rfl rfl (by decide) tg_139 rfl rfl rfl (Nat.le_of_ble_eq_true rfl) dX6_sellFor_80 rfl ?_
      refine zj_lload C dX6_sellFor_83 0 rfl ?_
      refine zj_l2i C dX6_sellFor_85 ?_
      subst hx24_0
      have e : f_X6_sellFor t am = ((((if ((((gTr_quote t)).toInt64) - (f_X6_fee t)) ≤ 0 then (((gTr_lots t)).toInt64) else (if (((gTr_lots t)).toInt64) < ((((am - (gTr_cash t)) + ((((gTr_quote t)).toInt64) - (f_X6_fee t))) - 1) / ((((gTr_quote t)).toInt64) - (f_X6_fee t))) then (((gTr_lots t)).toInt64) else ((((am - (gTr_cash t)) + ((((gTr_quote t)).toInt64) - (f_X6_fee t))) - 1) / ((((gTr_quote t)).toInt64) - (f_X6_fee t)))))).toInt32), (sTr_lots (sTr_cash t ((gTr_cash t) + ((if ((((gTr_quote t)).toInt64) - (f_X6_fee t)) ≤ 0 then (((gTr_lots t)).toInt64) else (if (((gTr_lots t)).toInt64) < ((((am - (gTr_cash t)) + ((((gTr_quote t)).toInt64) - (f_X6_fee t))) - 1) / ((((gTr_quote t)).toInt64) - (f_X6_fee t))) then (((gTr_lots t)).toInt64) else ((((am - (gTr_cash t)) + ((((gTr_quote t)).toInt64) - (f_X6_fee t))) - 1) / ((((gTr_quote t)).toInt64) - (f_X6_fee t))))) * ((((gTr_quote t)).toInt64) - (f_X6_fee t))))) ((gTr_lots t) - (((if ((((gTr_quote t)).toInt64) - (f_X6_fee t)) ≤ 0 then (((gTr_lots t)).toInt64) else (if (((gTr_lots t)).toInt64) < ((((am - (gTr_cash t)) + ((((gTr_quote t)).toInt64) - (f_X6_fee t))) - 1) / ((((gTr_quote t)).toInt64) - (f_X6_fee t))) then (((gTr_lots t)).toInt64) else ((((am - (gTr_cash t)) + ((((gTr_quote t)).toInt64) - (f_X6_fee t))) - 1) / ((((gTr_quote t)).toInt64) - (f_X6_fee t)))))).toInt32)))) := by refine (if_pos c_5).trans ?_; rfl
      rw [e] at hret
      exact hret _ _ dX6_sellFor_86
    refine zj_lcmp_le C 51 dX6_sellFor_24 dX6_sellFor_25 (by decide) (fun c => ?_) (fun c => ?_)
    · have c_24 : ((((gTr_quote t)).toInt64) - (f_X6_fee t)) ≤ 0 := c
      refine zj_aload_n C dX6_sellFor_51 1 rfl ?_
      refine zj_get C 0 6 3 (v := .int (gTr_lots t)) inZ6 rfl rfl (by decide) tg_146 rfl dX6_sellFor_52 ?_
      refine zj_i2l C dX6_sellFor_55 ?_
      exact J_24 (((gTr_lots t)).toInt64) (by simp only [if_pos c_5, if_pos c_24]; first | done | assumption)
    · have c_24 : ¬ (((((gTr_quote t)).toInt64) - (f_X6_fee t)) ≤ 0) := c
      refine zj_lload_n C dX6_sellFor_28 2 rfl ?_
      refine zj_aload_n C dX6_sellFor_29 1 rfl ?_
      refine zj_get C 0 6 0 (v := .long (gTr_cash t)) inZ6 rfl rfl (by decide) tg_139 rfl dX6_sellFor_30 ?_
      refine zj_lsub C dX6_sellFor_33 ?_
      refine zj_lload_n C dX6_sellFor_34 0 rfl ?_
      refine zj_ladd C dX6_sellFor_35 ?_
      refine zj_lconst C (v := 1) dX6_sellFor_36 (by decide) ?_
      refine zj_lsub C dX6_sellFor_37 ?_
      refine zj_lload_n C dX6_sellFor_38 0 rfl ?_
      refine zj_ldiv C dX6_sellFor_39 (zne_le c_24) ?_
      refine zj_aload_n C dX6_sellFor_40 1 rfl ?_
      refine zj_get C 0 6 3 (v := .int (gTr_lots t)) inZ6 rfl rfl (by decide) tg_146 rfl dX6_sellFor_41 ?_
      refine zj_i2l C dX6_sellFor_44 ?_
      refine zj_mmin C (x := ((((am - (gTr_cash t)) + ((((gTr_quote t)).toInt64) - (f_X6_fee t))) - 1) / ((((gTr_quote t)).toInt64) - (f_X6_fee t)))) (y := (((gTr_lots t)).toInt64)) tg_411 ⟨by decide, Nat.le_of_ble_eq_true rfl⟩ dX6_sellFor_45 ?_
      refine zj_goto C 56 dX6_sellFor_48 (by decide) ?_
      exact J_24 (if (((gTr_lots t)).toInt64) < ((((am - (gTr_cash t)) + ((((gTr_quote t)).toInt64) - (f_X6_fee t))) - 1) / ((((gTr_quote t)).toInt64) - (f_X6_fee t))) then (((gTr_lots t)).toInt64) else ((((am - (gTr_cash t)) + ((((gTr_quote t)).toInt64) - (f_X6_fee t))) - 1) / ((((gTr_quote t)).toInt64) - (f_X6_fee t)))) (by simp only [if_pos c_5, if_neg c_24]; first | done | assumption)
  · have c_5 : ¬ ((gTr_cash t) < am) := c
    refine zj_iconst C (v := (nI 0)) dX6_sellFor_9 (by decide) ?_
    have e : f_X6_sellFor t am = ((nI 0), t) := by refine (if_neg c_5).trans ?_; rfl
    rw [e] at hret
    exact hret _ _ dX6_sellFor_10
