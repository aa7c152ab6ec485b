def zGi : Nat → Int32 := fun k => match k with
  | 0 => 23
  | 1 => 1000
  | 2 => 100
  | 3 => 1000
  | _ => 50
theorem zGf_i (k : Nat) : zGf k = .int (zGi k) := by
  match k with
  | 0 => rfl
  | 1 => rfl
  | 2 => rfl
  | 3 => rfl
  | _ + 4 => rfl
section ZGT
variable {E : zE} {cc : ByteArray} {nL : Nat} {own : String} {R : Room} {cy : Nat → ClassId} {l : Launch} {D : va_G} {k n : Nat} {ws : va_W} {pc : Nat} {L : List (Nat × Value)} {st : List Value}
theorem zj_gst (C : zO E cc nL own R cy l D) (ho : own = "SwingUnits$Trust") (d : decode cc pc = .ok (.getstatic 86, 3)) (kk : ∀ t : Nat, va_T .int t 5 zGf E.2.2.2.2.2.1 E.1.2.2.2.2.1 E.1.2.2.2.2.1.heap → zJ E nL k n ws (pc + 3) L (.ref t :: st)) : zJ E nL k n ws pc L st := fun H locs ls hP hD hS hl => by
  obtain ⟨h1, h2, h3, t, h4, h5⟩ := C.X
  subst ho
  exact va_getsN C.xx C.bb h4 hS C.wn (va_Nw.use rfl h1) (fun _ h => h) d (kk t h5 H locs ls hP hD hS hl)
theorem zj_gald (C : zO E cc nL own R cy l D) {t : Nat} (hT : va_T .int t 5 zGf E.2.2.2.2.2.1 E.1.2.2.2.2.1 E.1.2.2.2.2.1.heap) {i : Int32} (j : Nat) (hj : i.toNatClampNeg = j) (hin : vp_in i 5) (d : decode cc pc = .ok (.iaload, 1)) (kk : zJ E nL k n ws (pc + 1) L (.int (zGi j) :: st)) : zJ E nL k n ws pc L (.int i :: .ref t :: st) := fun H locs ls hP hD hS hl => va_ti C.xx C.bb hT hS hin (by rw [hj]; exact zGf_i j) d (kk H locs ls hP hD hS hl)
end ZGT
theorem WT_same {cy : Nat → ClassId} {a : Nat → Nat} {t : zTr} {h : Nat} (hh : h < 6) : (WT cy a t).set (12 + h) (a (12 + h), .inr (2, vHd (gTr_hd t h))) = WT cy a t := by
  rcases (show h = 0 ∨ h = 1 ∨ h = 2 ∨ h = 3 ∨ h = 4 ∨ h = 5 by omega) with rfl | rfl | rfl | rfl | rfl | rfl <;> rfl
theorem WT_hC {cy : Nat → ClassId} {a : Nat → Nat} {t : zTr} {h : Nat} (hh : h < 6) : ([12 + h] : List Nat).map (fun i => (WT cy a t)[i]?) = (WH (a (12 + h)) (gTr_hd t h)).map some := by
  show [(WT cy a t)[12 + h]?] = _
  rw [WT_h hh]
  rfl
theorem zne_le {x : Int64} (c : ¬ x ≤ 0) : ¬ x = 0 := fun e => c (by rw [e]; decide)

noncomputable def f_X7_isHolder (h : Int32) : Bool :=
  let x1_0 : Bool := (if h < 0 then false else (if (nI 6) ≤ h then false else true))
  x1_0
set_option maxHeartbeats 4000000 in
set_option maxRecDepth 100000 in
theorem c_X7_isHolder (l : Launch) (D : va_G) (cy : Nat → ClassId)  (h : Int32)   : zC l yX7_isHolder (zW yX7_isHolder cX7_isHolder 1 (Option.some Jvm.ClassFile.FieldType.boolean)) { frames := 0, cells := 0, slots := 0, locals := 0 } D cy [.int h] ([] : va_W) (some (.int (zB (f_X7_isHolder h)))) ([] : va_W) := by
  refine zC_of rfl (Nat.le_of_ble_eq_true rfl) (zOk_z (zB_01 _)) (fun E C hret => ?_)
  show zJ E 1 0 0 ([] : va_W) 0 [(0, .int h)] []
  refine zj_iload_n C dX7_isHolder_0 0 rfl ?_
  have J_1 : ∀ (x1_0 : Bool), x1_0 = (if h < 0 then false else (if (nI 6) ≤ h then false else true)) → zJ E 1 0 0 ([] : va_W) 15 [(0, .int h)] [.int (zB x1_0)] := by
    intro x1_0 hx1_0
    subst hx1_0
    have e : f_X7_isHolder h = (if h < 0 then false else (if (nI 6) ≤ h then false else true)) := by rfl
    rw [e] at hret
    exact hret _ _ dX7_isHolder_15
  refine zj_if_lt C 14 dX7_isHolder_1 (by decide) (fun c => ?_) (fun c => ?_)
  · have c_1 : h < 0 := c
    refine zj_iconst C (v := (nI 0)) dX7_isHolder_14 (by decide) ?_
    exact J_1 false (by simp only [if_pos c_1]; first | done | assumption)
  · have c_1 : ¬ (h < 0) := c
    refine zj_iload_n C dX7_isHolder_4 0 rfl ?_
    refine zj_bipush C (v := (nI 6)) dX7_isHolder_5 (by decide) ?_
    have J_7 : ∀ (x7_0 : Bool), x7_0 = (if (nI 6) ≤ h then false else true) → zJ E 1 0 0 ([] : va_W) 15 [(0, .int h)] [.int (zB x7_0)] := by
      intro x7_0 hx7_0
      subst hx7_0
      exact J_1 (if (nI 6) ≤ h then false else true) (by simp only [if_neg c_1]; first | done | assumption)
    refine zj_icmp_ge C 14 dX7_isHolder_7 (by decide) (fun c => ?_) (fun c => ?_)
    · have c_7 : (nI 6) ≤ h := c
      refine zj_iconst C (v := (nI 0)) dX7_isHolder_14 (by decide) ?_
      exact J_7 false (by simp only [if_neg c_1, if_pos c_7]; first | done | assumption)
    · have c_7 : ¬ ((nI 6) ≤ h) := c
      refine zj_iconst C (v := (nI 1)) dX7_isHolder_10 (by decide) ?_
      refine zj_goto C 15 dX7_isHolder_11 (by decide) ?_
      exact J_7 true (by simp only [if_neg c_1, if_neg c_7]; first | done | assumption)

theorem xh_t {h : Int32} (c : ¬ f_X7_isHolder h = false) : ¬ h < 0 ∧ ¬ nI 6 ≤ h := by
  by_cases q1 : h < 0
  · exact absurd (show f_X7_isHolder h = false from if_pos q1) c
  · by_cases q2 : nI 6 ≤ h
    · exact absurd (show f_X7_isHolder h = false from (if_neg q1).trans (if_pos q2)) c
    · exact ⟨q1, q2⟩
theorem xh_eq {h : Int32} (c : ¬ f_X7_isHolder h = false) : h = nI h.toNatClampNeg := by
  obtain ⟨j, hj, rfl⟩ := nI_of (xh_t c).1
  rw [nI_clamp hj]
theorem xh_lt {h : Int32} (c : ¬ f_X7_isHolder h = false) : h.toNatClampNeg < 6 := by
  obtain ⟨j, hj, e⟩ := nI_of (xh_t c).1
  have := (xh_t c).2
  subst e
  rw [nI_leI (by decide) hj] at this
  rw [nI_clamp hj]; omega

noncomputable def f_X6_value (t : zTr) : Int64 :=
  ((gTr_cash t) + ((((gTr_lots t)).toInt64) * (((gTr_quote t)).toInt64)))
set_option maxHeartbeats 4000000 in
set_option maxRecDepth 100000 in
theorem c_X6_value (l : Launch) (D : va_G) (cy : Nat → ClassId) (a : Nat → Nat)  (t : zTr)  : zC l yX6_value (zW yX6_value cX6_value 1 (Option.some Jvm.ClassFile.FieldType.long)) { frames := 0, cells := 0, slots := 0, locals := 0 } D cy [.ref (a 0)] (WT cy a t) (some (.long (f_X6_value t))) (WT cy a t) := by
  refine zC_of rfl (Nat.le_of_ble_eq_true rfl) (zOk_l _) (fun E C hret => ?_)
  show zJ E 1 0 0 (WT cy a t) 0 [(0, .ref (a 0))] []
  refine zj_aload_n C dX6_value_0 0 rfl ?_
  refine zj_get C 0 6 0 (v := .long (gTr_cash t)) inZ6 rfl rfl (by decide) tg_139 rfl dX6_value_1 ?_
  refine zj_aload_n C dX6_value_4 0 rfl ?_
  refine zj_get C 0 6 3 (v := .int (gTr_lots t)) inZ6 rfl rfl (by decide) tg_146 rfl dX6_value_5 ?_
  refine zj_i2l C dX6_value_8 ?_
  refine zj_aload_n C dX6_value_9 0 rfl ?_
  refine zj_get C 0 6 4 (v := .int (gTr_quote t)) inZ6 rfl rfl (by decide) tg_148 rfl dX6_value_10 ?_
  refine zj_i2l C dX6_value_13 ?_
  refine zj_lmul C dX6_value_14 ?_
  refine zj_ladd C dX6_value_15 ?_
  have e : f_X6_value t = ((gTr_cash t) + ((((gTr_lots t)).toInt64) * (((gTr_quote t)).toInt64))) := by rfl
  rw [e] at hret
  exact hret _ _ dX6_value_16

noncomputable def L_X6_units (t : zTr) : Nat → (Int64) → (Nat) → (Int64) × (Nat)
  | 0, sm, j => (sm, j)
  | fuel + 1, sm, j =>
    if 6 ≤ j then
      (sm, j)
    else
      let R_17 : Int64 := (f_X2_units (gTr_hd t j))
      L_X6_units t fuel (sm + R_17) (j + 1)
theorem L_X6_units_s (t : zTr) (fuel : Nat) (sm : Int64) (j : Nat) : L_X6_units t (fuel + 1) sm j = (
    if 6 ≤ j then
      (sm, j)
    else
      let R_17 : Int64 := (f_X2_units (gTr_hd t j))
      L_X6_units t fuel (sm + R_17) (j + 1)
  ) := rfl
noncomputable def f_X6_units (t : zTr) : Int64 :=
  let sm1 : Int64 := ((L_X6_units t (6 - 0 + 1) 0 0).1)
  let j1 : Nat := ((L_X6_units t (6 - 0 + 1) 0 0).2)
  sm1
set_option maxHeartbeats 4000000 in
set_option maxRecDepth 100000 in
theorem c_X6_units (l : Launch) (D : va_G) (cy : Nat → ClassId) (a : Nat → Nat)  (t : zTr)  : zC l yX6_units (zW yX6_units cX6_units 4 (Option.some Jvm.ClassFile.FieldType.long)) { frames := 1, cells := 0, slots := 0, locals := 20 } D cy [.ref (a 0)] (WT cy a t) (some (.long (f_X6_units t))) (WT cy a t) := by
  refine zC_of rfl (Nat.le_of_ble_eq_true rfl) (zOk_l _) (fun E C hret => ?_)
  show zJ E 4 0 0 (WT cy a t) 0 [(0, .ref (a 0))] []
  refine zj_lconst C (v := 0) dX6_units_0 (by decide) ?_
  refine zj_lstore_n C (L' := [(1, .long 0), (0, .ref (a 0))]) dX6_units_1 rfl (by decide) rfl ?_
  refine zj_iconst C (v := (nI 0)) dX6_units_2 (by decide) ?_
  refine zj_istore_n C (L' := [(3, .int (nI 0)), (1, .long 0), (0, .ref (a 0))]) dX6_units_3 rfl (by decide) rfl ?_
  have loop_4 : ∀ (fuel : Nat) (sm : Int64) (j : Nat), (hj : j ≤ 6) → 6 - j < fuel → (zJ E 4 0 0 (WT cy a t) 28 [(0, .ref (a 0)), (1, .long ((L_X6_units t fuel sm j).1))] []) → zJ E 4 0 0 (WT cy a t) 4 [(0, .ref (a 0)), (1, .long sm), (3, .int (nI j))] [] := by
    intro fuel
    induction fuel with
    | zero => intro sm j hj hmu; exact absurd hmu (Nat.not_lt_zero _)
    | succ fuel ih_4 =>
      intro sm j hj hmu_4 K_4
      refine zj_iload_n C dX6_units_4 2 rfl ?_
      refine zj_bipush C (v := (nI 6)) dX6_units_5 (by decide) ?_
      refine zj_icmp_ge C 28 dX6_units_7 (by decide) (fun c => ?_) (fun c => ?_)
      · have c_7 : 6 ≤ j := ((nI_leI (by omega) (by omega)).mp c)
        refine zj_sub (L' := [(0, .ref (a 0)), (1, .long sm)]) [0, 1] rfl ?_
        have e_4 : (L_X6_units t (fuel + 1) sm j) = (sm, j) := by refine (L_X6_units_s t fuel sm j).trans ?_; refine (if_pos c_7).trans ?_; rfl
        rw [e_4] at K_4
        exact K_4 
      · have c_7 : ¬ (6 ≤ j) := (fun q => c ((nI_leI (by omega) (by omega)).mpr q))
        refine zj_lload_n C dX6_units_10 1 rfl ?_
        refine zj_aload_n C dX6_units_11 0 rfl ?_
        refine zj_get C 0 6 7 (v := .ref (a 2)) inZ6 rfl rfl (by decide) tg_156 rfl dX6_units_12 ?_
        refine zj_iload_n C dX6_units_15 2 rfl ?_
        refine zj_aald C 2 4 (f := (fun k => some (a (12 + k)))) (b := (a (12 + j))) j (nI_clamp (by omega)) (vp_in_nI (by omega) (by omega)) rfl rfl rfl dX6_units_16 ?_
        have M_17 := c_X2_units l D cy (a (12 + j))  (gTr_hd t j) 
        obtain ⟨R_17, hR_17⟩ : ∃ g : Int64, g = (f_X2_units (gTr_hd t j)) := ⟨_, rfl⟩
        rw [← hR_17] at M_17
        refine zj_callV C (nn := 1) (ws' := (WT cy a t)) (st := [.long sm]) (st1 := [.long R_17, .long sm]) (12 + j) 2 [(12 + j)] (M_17) (zg_V tg_381 tg_378 tg_379 tg_380 tg_3) ⟨rfl, hdZ_X2_units⟩ ⟨rfl, rfl⟩ ⟨by decide, by decide⟩ (WT_h (by omega)) rfl (WT_hC (by omega)) rfl ⟨rfl, rfl⟩ rfl rfl (Nat.le_of_ble_eq_true rfl) dX6_units_17 (WT_same (by omega)) rfl ?_
        refine zj_ladd C dX6_units_20 ?_
        refine zj_lstore_n C (L' := [(1, .long (sm + R_17)), (0, .ref (a 0)), (3, .int (nI j))]) dX6_units_21 rfl (by decide) rfl ?_
        refine zj_iinc C (j := 2) (v := (nI (j + 1))) (L' := [(3, .int (nI (j + 1))), (1, .long (sm + R_17)), (0, .ref (a 0))]) dX6_units_22 rfl (nI_1 _) (by decide) rfl ?_
        refine zj_goto C 4 dX6_units_25 (by decide) ?_
        refine zj_sub (L' := [(0, .ref (a 0)), (1, .long (sm + R_17)), (3, .int (nI (j + 1)))]) [2, 1, 0] rfl ?_
        have hn_hj : (j + 1) ≤ 6 := (by omega)
        have hn_mu : 6 - (j + 1) < fuel := (by omega)
        subst hR_17
        have e_4 : (L_X6_units t (fuel + 1) sm j) = (L_X6_units t fuel (sm + (f_X2_units (gTr_hd t j))) (j + 1)) := by refine (L_X6_units_s t fuel sm j).trans ?_; refine (if_neg c_7).trans ?_; rfl
        rw [e_4] at K_4
        exact ih_4 (sm + (f_X2_units (gTr_hd t j))) (j + 1) hn_hj hn_mu K_4
  have K_4 : ∀ (sm1 : Int64) (j1 : Nat), sm1 = ((L_X6_units t (6 - 0 + 1) 0 0).1) → j1 = ((L_X6_units t (6 - 0 + 1) 0 0).2) → zJ E 4 0 0 (WT cy a t) 28 [(0, .ref (a 0)), (1, .long sm1)] [] := by
    intro sm1 j1 hsm1 hj1 
    refine zj_lload_n C dX6_units_28 1 rfl ?_
    subst hj1
    subst hsm1
    have e : f_X6_units t = ((L_X6_units t (6 - 0 + 1) 0 0).1) := by rfl
    rw [e] at hret
    exact hret _ _ dX6_units_29
  refine zj_sub (L' := [(0, .ref (a 0)), (1, .long 0), (3, .int (nI 0))]) [2, 1, 0] rfl ?_
  exact loop_4 (6 - 0 + 1) 0 0 (by omega) (Nat.lt_succ_self _) (K_4 _ _ rfl rfl)

noncomputable def L_X6_newUnits (t : zTr) : Nat → (Int64) → (Nat) → (Int64) × (Nat)
  | 0, sm, j => (sm, j)
  | fuel + 1, sm, j =>
    if 6 ≤ j then
      (sm, j)
    else
      L_X6_newUnits t fuel (sm + (gHd_new (gTr_hd t j))) (j + 1)
theorem L_X6_newUnits_s (t : zTr) (fuel : Nat) (sm : Int64) (j : Nat) : L_X6_newUnits t (fuel + 1) sm j = (
    if 6 ≤ j then
      (sm, j)
    else
      L_X6_newUnits t fuel (sm + (gHd_new (gTr_hd t j))) (j + 1)
  ) := rfl
noncomputable def f_X6_newUnits (t : zTr) : Int64 :=
  let sm1 : Int64 := ((L_X6_newUnits t (6 - 0 + 1) 0 0).1)
  let j1 : Nat := ((L_X6_newUnits t (6 - 0 + 1) 0 0).2)
  sm1
set_option maxHeartbeats 4000000 in
set_option maxRecDepth 100000 in
theorem c_X6_newUnits (l : Launch) (D : va_G) (cy : Nat → ClassId) (a : Nat → Nat)  (t : zTr)  : zC l yX6_newUnits (zW yX6_newUnits cX6_newUnits 4 (Option.some Jvm.ClassFile.FieldType.long)) { frames := 0, cells := 0, slots := 0, locals := 0 } D cy [.ref (a 0)] (WT cy a t) (some (.long (f_X6_newUnits t))) (WT cy a t) := by
  refine zC_of rfl (Nat.le_of_ble_eq_true rfl) (zOk_l _) (fun E C hret => ?_)
  show zJ E 4 0 0 (WT cy a t) 0 [(0, .ref (a 0))] []
  refine zj_lconst C (v := 0) dX6_newUnits_0 (by decide) ?_
  refine zj_lstore_n C (L' := [(1, .long 0), (0, .ref (a 0))]) dX6_newUnits_1 rfl (by decide) rfl ?_
  refine zj_iconst C (v := (nI 0)) dX6_newUnits_2 (by decide) ?_
  refine zj_istore_n C (L' := [(3, .int (nI 0)), (1, .long 0), (0, .ref (a 0))]) dX6_newUnits_3 rfl (by decide) rfl ?_
  have loop_4 : ∀ (fuel : Nat) (sm : Int64) (j : Nat), (hj : j ≤ 6) → 6 - j < fuel → (zJ E 4 0 0 (WT cy a t) 28 [(0, .ref (a 0)), (1, .long ((L_X6_newUnits t fuel sm j).1))] []) → zJ E 4 0 0 (WT cy a t) 4 [(0, .ref (a 0)), (1, .long sm), (3, .int (nI j))] [] := by
    intro fuel
    induction fuel with
    | zero => intro sm j hj hmu; exact absurd hmu (Nat.not_lt_zero _)
    | succ fuel ih_4 =>
      intro sm j hj hmu_4 K_4
      refine zj_iload_n C dX6_newUnits_4 2 rfl ?_
      refine zj_bipush C (v := (nI 6)) dX6_newUnits_5 (by decide) ?_
      refine zj_icmp_ge C 28 dX6_newUnits_7 (by decide) (fun c => ?_) (fun c => ?_)
      · have c_7 : 6 ≤ j := ((nI_leI (by omega) (by omega)).mp c)
        refine zj_sub (L' := [(0, .ref (a 0)), (1, .long sm)]) [0, 1] rfl ?_
        have e_4 : (L_X6_newUnits t (fuel + 1) sm j) = (sm, j) := by refine (L_X6_newUnits_s t fuel sm j).trans ?_; refine (if_pos c_7).trans ?_; rfl
        rw [e_4] at K_4
        exact K_4 
      · have c_7 : ¬ (6 ≤ j) := (fun q => c ((nI_leI (by omega) (by omega)).mpr q))
        refine zj_lload_n C dX6_newUnits_10 1 rfl ?_
        refine zj_aload_n C dX6_newUnits_11 0 rfl ?_
        refine zj_get C 0 6 7 (v := .ref (a 2)) inZ6 rfl rfl (by decide) tg_156 rfl dX6_newUnits_12 ?_
        refine zj_iload_n C dX6_newUnits_15 2 rfl ?_
        refine zj_aald C 2 4 (f := (fun k => some (a (12 + k)))) (b := (a (12 + j))) j (nI_clamp (by omega)) (vp_in_nI (by omega) (by omega)) rfl rfl rfl dX6_newUnits_16 ?_
        refine zj_get C (12 + j) 2 1 (v := .long (gHd_new (gTr_hd t j))) inZ2 (WT_h (by omega)) rfl (by decide) tg_36 rfl dX6_newUnits_17 ?_
        refine zj_ladd C dX6_newUnits_20 ?_
        refine zj_lstore_n C (L' := [(1, .long (sm + (gHd_new (gTr_hd t j)))), (0, .ref (a 0)), (3, .int (nI j))]) dX6_newUnits_21 rfl (by decide) rfl ?_
        refine zj_iinc C (j := 2) (v := (nI (j + 1))) (L' := [(3, .int (nI (j + 1))), (1, .long (sm + (gHd_new (gTr_hd t j)))), (0, .ref (a 0))]) dX6_newUnits_22 rfl (nI_1 _) (by decide) rfl ?_
        refine zj_goto C 4 dX6_newUnits_25 (by decide) ?_
        refine zj_sub (L' := [(0, .ref (a 0)), (1, .long (sm + (gHd_new (gTr_hd t j)))), (3, .int (nI (j + 1)))]) [2, 1, 0] rfl ?_
        have hn_hj : (j + 1) ≤ 6 := (by omega)
        have hn_mu : 6 - (j + 1) < fuel := (by omega)
        have e_4 : (L_X6_newUnits t (fuel + 1) sm j) = (L_X6_newUnits t fuel (sm + (gHd_new (gTr_hd t j))) (j + 1)) := by refine (L_X6_newUnits_s t fuel sm j).trans ?_; refine (if_neg c_7).trans ?_; rfl
        rw [e_4] at K_4
        exact ih_4 (sm + (gHd_new (gTr_hd t j))) (j + 1) hn_hj hn_mu K_4
  have K_4 : ∀ (sm1 : Int64) (j1 : Nat), sm1 = ((L_X6_newUnits t (6 - 0 + 1) 0 0).1) → j1 = ((L_X6_newUnits t (6 - 0 + 1) 0 0).2) → zJ E 4 0 0 (WT cy a t) 28 [(0, .ref (a 0)), (1, .long sm1)] [] := by
    intro sm1 j1 hsm1 hj1 
    refine zj_lload_n C dX6_newUnits_28 1 rfl ?_
    subst hj1
    subst hsm1
    have e : f_X6_newUnits t = ((L_X6_newUnits t (6 - 0 + 1) 0 0).1) := by rfl
    rw [e] at hret
    exact hret _ _ dX6_newUnits_29
  refine zj_sub (L' := [(0, .ref (a 0)), (1, .long 0), (3, .int (nI 0))]) [2, 1, 0] rfl ?_
  exact loop_4 (6 - 0 + 1) 0 0 (by omega) (Nat.lt_succ_self _) (K_4 _ _ rfl rfl)
