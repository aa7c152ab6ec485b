/-! the law's small methods. Written by wip/p26/law1.py -/
/-- the room of a method that makes nothing, and calls the class -/
abbrev rm_q : Room := { frames := 8, cells := 0, slots := 0, locals := 192 }
abbrev rm_0 : Room := { frames := 0, cells := 0, slots := 0, locals := 0 }
/-- what a question's caller gets -/
def pIs (v : Value) (w : va_W) : Option Value → va_W → Prop := fun r w' => r = some v ∧ w' = w
set_option maxHeartbeats 4000000 in
set_option maxRecDepth 100000 in
theorem c_L_up (l : Launch) (D : va_G) (cy : Nat → ClassId) (v : Int32) (e : Int) (he : 0 < e ∧ e < 2147483648) : zM l yL_up (zW yL_up cL_up 2 (Option.some Jvm.ClassFile.FieldType.int)) rm_0 D cy [.int v, .int (jI e)] [] (fun r w => ∃ u : Int, 0 ≤ u ∧ u < e ∧ r = some (.int (jI u)) ∧ w = []) 0 0 := by
  refine zM_of rfl (Nat.le_of_ble_eq_true rfl) (fun E C hret => ?_)
  have C : zO E cL_up 2 "SwingUnitsLaw" rm_0 cy l D := C
  show zJ E 2 0 0 [] 0 [(0, .int v), (1, .int (jI e))] []
  refine zj_iload_n C dL_up_0 0 rfl ?_
  refine zj_ldc C dL_up_1 tgv_344 ?_
  refine zj_iand C dL_up_3 ?_
  obtain ⟨j, hj, ej⟩ := pk_andE v (m := 2147483647) 31 rfl
  refine zj_topi (jI (j : Int)) (ej.trans (jI_n j)) ?_
  refine zj_iload_n C dL_up_4 1 rfl ?_
  refine ij_irem C ⟨by omega, by omega⟩ he dL_up_5 ?_
  exact hret _ _ _ _ ⟨_, Int.emod_nonneg _ (by omega), Int.emod_lt_of_pos _ he.1, rfl, rfl⟩ (zOk_i _) dL_up_6
def feI (T : zTr) : Int := (qI T * sI T 4 + 999) / 1000
theorem feI_r {D c : Int} {T : zTr} (h : GI D c T) : 0 ≤ qI T * sI T 4 ∧ qI T * sI T 4 ≤ 500000 ∧ 0 ≤ feI T ∧ feI T ≤ qI T ∧ feI T ≤ 501 := by
  obtain ⟨-, -, q, -⟩ := GI_r h
  obtain ⟨-, -, -, -, s⟩ := GI_s h
  have h1 : 0 ≤ qI T * sI T 4 := Int.mul_nonneg (by omega) s.1
  have h2 : qI T * sI T 4 ≤ qI T * 50 := Int.mul_le_mul_of_nonneg_left s.2 (by omega)
  unfold feI
  refine ⟨h1, by omega, by omega, by omega, by omega⟩
set_option maxHeartbeats 4000000 in
set_option maxRecDepth 100000 in
theorem c_L_cost (l : Launch) (D : va_G) (cy : Nat → ClassId) (x0 x1 x2 d0 d1 p0 p1 h0 h1 : Nat) (a b : Nat → Nat) (hs sl : Nat → Nat → Nat) (T U : zTr) (x : zDd) (z : zPd) (y : zHs) (s : zSl) {Dd c : Int} (hG : GI Dd c T) (hO : LO T z y s) : zM l yL_cost (zW yL_cost cL_cost 1 (Option.some Jvm.ClassFile.FieldType.long)) rm_q D cy [.ref x0] (LB cy x0 x1 x2 d0 d1 p0 p1 h0 h1 a b hs sl T U x z y s).flatten (pIs (.long (jL (feI T))) (LB cy x0 x1 x2 d0 d1 p0 p1 h0 h1 a b hs sl T U x z y s).flatten) 0 0 := by
  refine zM_of rfl (Nat.le_of_ble_eq_true rfl) (fun E C hret => ?_)
  have C : zO E cL_cost 1 "SwingUnitsLaw" rm_q cy l D := C
  obtain ⟨-, -, rq, -⟩ := GI_r hG
  obtain ⟨-, -, -, -, rs⟩ := GI_s hG
  obtain ⟨m1, m2, -⟩ := feI_r hG
  show zJ E 1 0 0 (([] : List va_W) ++ LB cy x0 x1 x2 d0 d1 p0 p1 h0 h1 a b hs sl T U x z y s).flatten 0 [(0, .ref x0)] []
  refine zj_aload_n C dL_cost_0 0 rfl ?_
  refine ij_iconst C dL_cost_1 ?_
  refine lc_count C ⟨Nat.le_of_ble_eq_true rfl, Nat.le_of_ble_eq_true rfl⟩ ⟨Nat.le_of_ble_eq_true rfl, Nat.le_of_ble_eq_true rfl⟩ hO ([] : List va_W) (jI 2) (Nat.le_of_ble_eq_true rfl) dL_cost_2 (vc_2 hG z y) ?_
  refine ij_i2l C ⟨by omega, by omega⟩ dL_cost_5 ?_
  refine zj_aload_n C dL_cost_6 0 rfl ?_
  refine ij_bipush C dL_cost_7 (by decide) ?_
  refine lc_count C ⟨Nat.le_of_ble_eq_true rfl, Nat.le_of_ble_eq_true rfl⟩ ⟨Nat.le_of_ble_eq_true rfl, Nat.le_of_ble_eq_true rfl⟩ hO ([] : List va_W) (jI 16) (Nat.le_of_ble_eq_true rfl) dL_cost_9 (vc_16 hG z y) ?_
  refine ij_i2l C ⟨by omega, by omega⟩ dL_cost_12 ?_
  refine ij_lmul C dL_cost_13 ?_
  refine zj_ldc2 C dL_cost_14 tgv_470 ?_
  refine ij_l 999 (by decide) ?_
  refine ij_ladd C dL_cost_17 ?_
  refine zj_ldc2 C dL_cost_18 tgv_471 ?_
  refine ij_l 1000 (by decide) ?_
  refine ij_ldiv C ⟨by omega, by omega⟩ ⟨by decide, by decide⟩ dL_cost_21 ?_
  exact hret _ _ _ _ ⟨rfl, rfl⟩ (zOk_l _) dL_cost_22
set_option maxHeartbeats 4000000 in
set_option maxRecDepth 100000 in
theorem c_L_free (l : Launch) (D : va_G) (cy : Nat → ClassId) (x0 x1 x2 d0 d1 p0 p1 h0 h1 : Nat) (a b : Nat → Nat) (hs sl : Nat → Nat → Nat) (T U : zTr) (x : zDd) (z : zPd) (y : zHs) (s : zSl) {Dd c : Int} (hG : GI Dd c T) (hO : LO T z y s) (i : Nat) (hi : i < 6) : zM l yL_free (zW yL_free cL_free 2 (Option.some Jvm.ClassFile.FieldType.int)) rm_q D cy [.ref x0, .int (jI (i : Int))] (LB cy x0 x1 x2 d0 d1 p0 p1 h0 h1 a b hs sl T U x z y s).flatten (pIs (.int (jI (uU T i - hS (gTr_le T) i))) (LB cy x0 x1 x2 d0 d1 p0 p1 h0 h1 a b hs sl T U x z y s).flatten) 0 0 := by
  refine zM_of rfl (Nat.le_of_ble_eq_true rfl) (fun E C hret => ?_)
  have C : zO E cL_free 2 "SwingUnitsLaw" rm_q cy l D := C
  show zJ E 2 0 0 (([] : List va_W) ++ LB cy x0 x1 x2 d0 d1 p0 p1 h0 h1 a b hs sl T U x z y s).flatten 0 [(0, .ref x0), (1, .int (jI (i : Int)))] []
  refine zj_aload_n C dL_free_0 0 rfl ?_
  refine zj_iload_n C dL_free_1 1 rfl ?_
  refine ij_iconst C dL_free_2 ?_
  refine lc_ofHolder C ⟨Nat.le_of_ble_eq_true rfl, Nat.le_of_ble_eq_true rfl⟩ ⟨Nat.le_of_ble_eq_true rfl, Nat.le_of_ble_eq_true rfl⟩ hO ([] : List va_W) (jI (i : Int)) (jI 0) (Nat.le_of_ble_eq_true rfl) dL_free_3 (vh_0 hG hi) ?_
  refine zj_aload_n C dL_free_6 0 rfl ?_
  refine zj_iload_n C dL_free_7 1 rfl ?_
  refine ij_iconst C dL_free_8 ?_
  refine lc_ofHolder C ⟨Nat.le_of_ble_eq_true rfl, Nat.le_of_ble_eq_true rfl⟩ ⟨Nat.le_of_ble_eq_true rfl, Nat.le_of_ble_eq_true rfl⟩ hO ([] : List va_W) (jI (i : Int)) (jI 3) (Nat.le_of_ble_eq_true rfl) dL_free_9 (vh_3 hG hi) ?_
  refine ij_isub C dL_free_12 ?_
  exact hret _ _ _ _ ⟨rfl, rfl⟩ (zOk_i _) dL_free_13
section HAS0
variable {E : zE} {cy : Nat → ClassId} {l : Launch} {D : va_G} {x0 x1 x2 d0 d1 p0 p1 h0 h1 : Nat} {a b : Nat → Nat} {hs sl : Nat → Nat → Nat} {T U : zTr} {x : zDd} {z : zPd} {y : zHs} {s : zSl} {Dd c : Int}
set_option maxHeartbeats 4000000 in
set_option maxRecDepth 100000 in
theorem has_loop0 (C : zO E cL_has 6 "SwingUnitsLaw" rm_q cy l D) (hG : GI Dd c T) (hO : LO T z y s) {p : Nat} {hi mu dy : Int} (hp : p < gOd_n (gTr_bu T) ∧ oH (gTr_bu T) p = hi ∧ oS (gTr_bu T) p = mu ∧ oD (gTr_bu T) p = dy ∧ ∀ i, p < i → i < gOd_n (gTr_bu T) → dy < oD (gTr_bu T) i) (hdy : r32 dy) (kk : zJ E 6 0 0 (([] : List va_W) ++ LB cy x0 x1 x2 d0 d1 p0 p1 h0 h1 a b hs sl T U x z y s).flatten 36 [(5, .int (jI (p : Int))), (0, .ref x0), (1, .int (jI 0)), (2, .int (jI hi)), (3, .int (jI mu)), (4, .int (jI dy))] []) : ∀ m j : Nat, j = p + m → j < gOd_n (gTr_bu T) → zJ E 6 0 0 (([] : List va_W) ++ LB cy x0 x1 x2 d0 d1 p0 p1 h0 h1 a b hs sl T U x z y s).flatten 12 [(5, .int (jI (j : Int))), (0, .ref x0), (1, .int (jI 0)), (2, .int (jI hi)), (3, .int (jI mu)), (4, .int (jI dy))] [] := by
  obtain ⟨g1, g2, g3, g4, g5⟩ := hp
  have hn : gOd_n (gTr_bu T) ≤ 20 := hG.1.2.1.1
  have hd := hdy.1
  have hd2 := hdy.2
  have rdI := (GI_r hG).2.2.2.2.2.2.2.2.1
  intro m
  induction m with
  | zero =>
    intro j hj hl
    have ej : j = p := by omega
    subst ej
    refine zj_iload C dL_has_12 0 rfl ?_
    refine ij_if_lt C 36 dL_has_14 (by decide) ⟨by omega, by omega⟩ (fun h => False.elim (by omega)) (fun _ => ?_)
    refine zj_aload_n C dL_has_17 1 rfl ?_
    refine zj_iload_n C dL_has_18 2 rfl ?_
    refine zj_iload C dL_has_19 0 rfl ?_
    refine ij_iconst C dL_has_21 ?_
    refine lc_order C ⟨Nat.le_of_ble_eq_true rfl, Nat.le_of_ble_eq_true rfl⟩ ⟨Nat.le_of_ble_eq_true rfl, Nat.le_of_ble_eq_true rfl⟩ hO ([] : List va_W) (jI 0) (jI (j : Int)) (jI 2) (Nat.le_of_ble_eq_true rfl) dL_has_22 (vo_02 hG hl) ?_
    refine zj_iload C dL_has_25 5 rfl ?_
    have rd := (GI_ob hG hl).2.2
    refine ij_icmp_le C 36 dL_has_27 (by decide) ⟨by omega, by omega⟩ ⟨by omega, by omega⟩ (fun _ => ?_) (fun h => False.elim (by omega))
    exact kk
  | succ m ih =>
    intro j hj hl
    refine zj_iload C dL_has_12 0 rfl ?_
    refine ij_if_lt C 36 dL_has_14 (by decide) ⟨by omega, by omega⟩ (fun h => False.elim (by omega)) (fun _ => ?_)
    refine zj_aload_n C dL_has_17 1 rfl ?_
    refine zj_iload_n C dL_has_18 2 rfl ?_
    refine zj_iload C dL_has_19 0 rfl ?_
    refine ij_iconst C dL_has_21 ?_
    refine lc_order C ⟨Nat.le_of_ble_eq_true rfl, Nat.le_of_ble_eq_true rfl⟩ ⟨Nat.le_of_ble_eq_true rfl, Nat.le_of_ble_eq_true rfl⟩ hO ([] : List va_W) (jI 0) (jI (j : Int)) (jI 2) (Nat.le_of_ble_eq_true rfl) dL_has_22 (vo_02 hG hl) ?_
    refine zj_iload C dL_has_25 5 rfl ?_
    have rd := (GI_ob hG hl).2.2
    refine ij_icmp_le C 36 dL_has_27 (by decide) ⟨by omega, by omega⟩ ⟨by omega, by omega⟩ (fun h => False.elim (by have := g5 j (by omega) hl; omega)) (fun _ => ?_)
    refine ij_iinc C (j := 0) (L2 := [(5, .int (jI ((j - 1 : Nat) : Int))), (0, .ref x0), (1, .int (jI 0)), (2, .int (jI hi)), (3, .int (jI mu)), (4, .int (jI dy))]) ((j - 1 : Nat) : Int) (by omega) dL_has_30 rfl (by decide) rfl ?_
    refine zj_goto C 12 dL_has_33 (by decide) ?_
    exact ih (j - 1) (by omega) (by omega)
set_option maxHeartbeats 4000000 in
set_option maxRecDepth 100000 in
theorem c_L_has0 (l : Launch) (D : va_G) (cy : Nat → ClassId) (x0 x1 x2 d0 d1 p0 p1 h0 h1 : Nat) (a b : Nat → Nat) (hs sl : Nat → Nat → Nat) (T U : zTr) (x : zDd) (z : zPd) (y : zHs) (s : zSl) {Dd c : Int} (hG : GI Dd c T) (hO : LO T z y s) (p : Nat) (hi mu dy : Int) (hp : p < gOd_n (gTr_bu T) ∧ oH (gTr_bu T) p = hi ∧ oS (gTr_bu T) p = mu ∧ oD (gTr_bu T) p = dy ∧ ∀ i, p < i → i < gOd_n (gTr_bu T) → dy < oD (gTr_bu T) i) (hdy : r32 dy) : zM l yL_has (zW yL_has cL_has 6 (Option.some Jvm.ClassFile.FieldType.boolean)) rm_q D cy [.ref x0, .int (jI 0), .int (jI hi), .int (jI mu), .int (jI dy)] (LB cy x0 x1 x2 d0 d1 p0 p1 h0 h1 a b hs sl T U x z y s).flatten (pIs (.int (jI 1)) (LB cy x0 x1 x2 d0 d1 p0 p1 h0 h1 a b hs sl T U x z y s).flatten) 0 0 := by
  refine zM_of rfl (Nat.le_of_ble_eq_true rfl) (fun E C hret => ?_)
  have C : zO E cL_has 6 "SwingUnitsLaw" rm_q cy l D := C
  have hn : gOd_n (gTr_bu T) ≤ 20 := hG.1.2.1.1
  have hp' := hp
  obtain ⟨g1, g2, g3, g4, g5⟩ := hp
  show zJ E 6 0 0 (([] : List va_W) ++ LB cy x0 x1 x2 d0 d1 p0 p1 h0 h1 a b hs sl T U x z y s).flatten 0 [(0, .ref x0), (1, .int (jI 0)), (2, .int (jI hi)), (3, .int (jI mu)), (4, .int (jI dy))] []
  refine zj_aload_n C dL_has_0 0 rfl ?_
  refine ij_bipush C dL_has_1 (by decide) ?_
  refine zj_iload_n C dL_has_3 1 rfl ?_
  refine ij_iadd C dL_has_4 ?_
  refine ij_ei 9 rfl ?_
  refine lc_count C ⟨Nat.le_of_ble_eq_true rfl, Nat.le_of_ble_eq_true rfl⟩ ⟨Nat.le_of_ble_eq_true rfl, Nat.le_of_ble_eq_true rfl⟩ hO ([] : List va_W) (jI 9) (Nat.le_of_ble_eq_true rfl) dL_has_5 (vc_9 hG z y) ?_
  refine ij_iconst C dL_has_8 ?_
  refine ij_isub C dL_has_9 ?_
  refine ij_ei ((gOd_n (gTr_bu T) - 1 : Nat) : Int) (by omega) ?_
  refine zj_istore C (L' := [(5, .int (jI ((gOd_n (gTr_bu T) - 1 : Nat) : Int))), (0, .ref x0), (1, .int (jI 0)), (2, .int (jI hi)), (3, .int (jI mu)), (4, .int (jI dy))]) dL_has_10 (by decide) rfl ?_
  refine has_loop0 C hG hO hp' hdy ?_ (gOd_n (gTr_bu T) - 1 - p) (gOd_n (gTr_bu T) - 1) (by omega) (by omega)
  show zJ E 6 0 0 (([] : List va_W) ++ LB cy x0 x1 x2 d0 d1 p0 p1 h0 h1 a b hs sl T U x z y s).flatten 36 [(5, .int (jI (p : Int))), (0, .ref x0), (1, .int (jI 0)), (2, .int (jI hi)), (3, .int (jI mu)), (4, .int (jI dy))] []
  obtain ⟨⟨ra, rb⟩, ⟨rc, rd⟩, re, rf⟩ := GI_ob hG g1
  have rdI := (GI_r hG).2.2.2.2.2.2.2.2.1
  refine zj_iload C dL_has_36 0 rfl ?_
  refine ij_if_lt C 82 dL_has_38 (by decide) ⟨by omega, by omega⟩ (fun h => False.elim (by omega)) (fun _ => ?_)
  refine zj_aload_n C dL_has_41 1 rfl ?_
  refine zj_iload_n C dL_has_42 2 rfl ?_
  refine zj_iload C dL_has_43 0 rfl ?_
  refine ij_iconst C dL_has_45 ?_
  refine lc_order C ⟨Nat.le_of_ble_eq_true rfl, Nat.le_of_ble_eq_true rfl⟩ ⟨Nat.le_of_ble_eq_true rfl, Nat.le_of_ble_eq_true rfl⟩ hO ([] : List va_W) (jI 0) (jI (p : Int)) (jI 0) (Nat.le_of_ble_eq_true rfl) dL_has_46 (vo_00 hG g1) ?_
  refine zj_iload_n C dL_has_49 3 rfl ?_
  refine ij_icmp_ne C 82 dL_has_50 (by decide) ⟨by omega, by omega⟩ ⟨by omega, by omega⟩ (fun h => False.elim (by omega)) (fun _ => ?_)
  refine zj_aload_n C dL_has_53 1 rfl ?_
  refine zj_iload_n C dL_has_54 2 rfl ?_
  refine zj_iload C dL_has_55 0 rfl ?_
  refine ij_iconst C dL_has_57 ?_
  refine lc_order C ⟨Nat.le_of_ble_eq_true rfl, Nat.le_of_ble_eq_true rfl⟩ ⟨Nat.le_of_ble_eq_true rfl, Nat.le_of_ble_eq_true rfl⟩ hO ([] : List va_W) (jI 0) (jI (p : Int)) (jI 1) (Nat.le_of_ble_eq_true rfl) dL_has_58 (vo_01 hG g1) ?_
  refine zj_iload_n C dL_has_61 4 rfl ?_
  refine ij_icmp_ne C 82 dL_has_62 (by decide) ⟨by omega, by omega⟩ ⟨by omega, by omega⟩ (fun h => False.elim (by omega)) (fun _ => ?_)
  refine zj_aload_n C dL_has_65 1 rfl ?_
  refine zj_iload_n C dL_has_66 2 rfl ?_
  refine zj_iload C dL_has_67 0 rfl ?_
  refine ij_iconst C dL_has_69 ?_
  refine lc_order C ⟨Nat.le_of_ble_eq_true rfl, Nat.le_of_ble_eq_true rfl⟩ ⟨Nat.le_of_ble_eq_true rfl, Nat.le_of_ble_eq_true rfl⟩ hO ([] : List va_W) (jI 0) (jI (p : Int)) (jI 2) (Nat.le_of_ble_eq_true rfl) dL_has_70 (vo_02 hG g1) ?_
  refine zj_iload C dL_has_73 5 rfl ?_
  refine ij_icmp_ne C 82 dL_has_75 (by decide) ⟨by omega, by omega⟩ ⟨by omega, by omega⟩ (fun h => False.elim (by omega)) (fun _ => ?_)
  refine ij_iconst C dL_has_78 ?_
  refine zj_goto C 83 dL_has_79 (by decide) ?_
  exact hret _ _ _ _ ⟨rfl, rfl⟩ (zOk_z (Or.inr rfl)) dL_has_83
end HAS0
section HAS1
variable {E : zE} {cy : Nat → ClassId} {l : Launch} {D : va_G} {x0 x1 x2 d0 d1 p0 p1 h0 h1 : Nat} {a b : Nat → Nat} {hs sl : Nat → Nat → Nat} {T U : zTr} {x : zDd} {z : zPd} {y : zHs} {s : zSl} {Dd c : Int}
set_option maxHeartbeats 4000000 in
set_option maxRecDepth 100000 in
theorem has_loop1 (C : zO E cL_has 6 "SwingUnitsLaw" rm_q cy l D) (hG : GI Dd c T) (hO : LO T z y s) {p : Nat} {hi mu dy : Int} (hp : p < gOd_n (gTr_le T) ∧ oH (gTr_le T) p = hi ∧ oS (gTr_le T) p = mu ∧ oD (gTr_le T) p = dy ∧ ∀ i, p < i → i < gOd_n (gTr_le T) → dy < oD (gTr_le T) i) (hdy : r32 dy) (kk : zJ E 6 0 0 (([] : List va_W) ++ LB cy x0 x1 x2 d0 d1 p0 p1 h0 h1 a b hs sl T U x z y s).flatten 36 [(5, .int (jI (p : Int))), (0, .ref x0), (1, .int (jI 1)), (2, .int (jI hi)), (3, .int (jI mu)), (4, .int (jI dy))] []) : ∀ m j : Nat, j = p + m → j < gOd_n (gTr_le T) → zJ E 6 0 0 (([] : List va_W) ++ LB cy x0 x1 x2 d0 d1 p0 p1 h0 h1 a b hs sl T U x z y s).flatten 12 [(5, .int (jI (j : Int))), (0, .ref x0), (1, .int (jI 1)), (2, .int (jI hi)), (3, .int (jI mu)), (4, .int (jI dy))] [] := by
  obtain ⟨g1, g2, g3, g4, g5⟩ := hp
  have hn : gOd_n (gTr_le T) ≤ 20 := hG.1.2.2.1.1
  have hd := hdy.1
  have hd2 := hdy.2
  have rdI := (GI_r hG).2.2.2.2.2.2.2.2.1
  intro m
  induction m with
  | zero =>
    intro j hj hl
    have ej : j = p := by omega
    subst ej
    refine zj_iload C dL_has_12 0 rfl ?_
    refine ij_if_lt C 36 dL_has_14 (by decide) ⟨by omega, by omega⟩ (fun h => False.elim (by omega)) (fun _ => ?_)
    refine zj_aload_n C dL_has_17 1 rfl ?_
    refine zj_iload_n C dL_has_18 2 rfl ?_
    refine zj_iload C dL_has_19 0 rfl ?_
    refine ij_iconst C dL_has_21 ?_
    refine lc_order C ⟨Nat.le_of_ble_eq_true rfl, Nat.le_of_ble_eq_true rfl⟩ ⟨Nat.le_of_ble_eq_true rfl, Nat.le_of_ble_eq_true rfl⟩ hO ([] : List va_W) (jI 1) (jI (j : Int)) (jI 2) (Nat.le_of_ble_eq_true rfl) dL_has_22 (vo_12 hG hl) ?_
    refine zj_iload C dL_has_25 5 rfl ?_
    have rd := (GI_ol hG hl).2.2
    refine ij_icmp_le C 36 dL_has_27 (by decide) ⟨by omega, by omega⟩ ⟨by omega, by omega⟩ (fun _ => ?_) (fun h => False.elim (by omega))
    exact kk
  | succ m ih =>
    intro j hj hl
    refine zj_iload C dL_has_12 0 rfl ?_
    refine ij_if_lt C 36 dL_has_14 (by decide) ⟨by omega, by omega⟩ (fun h => False.elim (by omega)) (fun _ => ?_)
    refine zj_aload_n C dL_has_17 1 rfl ?_
    refine zj_iload_n C dL_has_18 2 rfl ?_
    refine zj_iload C dL_has_19 0 rfl ?_
    refine ij_iconst C dL_has_21 ?_
    refine lc_order C ⟨Nat.le_of_ble_eq_true rfl, Nat.le_of_ble_eq_true rfl⟩ ⟨Nat.le_of_ble_eq_true rfl, Nat.le_of_ble_eq_true rfl⟩ hO ([] : List va_W) (jI 1) (jI (j : Int)) (jI 2) (Nat.le_of_ble_eq_true rfl) dL_has_22 (vo_12 hG hl) ?_
    refine zj_iload C dL_has_25 5 rfl ?_
    have rd := (GI_ol hG hl).2.2
    refine ij_icmp_le C 36 dL_has_27 (by decide) ⟨by omega, by omega⟩ ⟨by omega, by omega⟩ (fun h => False.elim (by have := g5 j (by omega) hl; omega)) (fun _ => ?_)
    refine ij_iinc C (j := 0) (L2 := [(5, .int (jI ((j - 1 : Nat) : Int))), (0, .ref x0), (1, .int (jI 1)), (2, .int (jI hi)), (3, .int (jI mu)), (4, .int (jI dy))]) ((j - 1 : Nat) : Int) (by omega) dL_has_30 rfl (by decide) rfl ?_
    refine zj_goto C 12 dL_has_33 (by decide) ?_
    exact ih (j - 1) (by omega) (by omega)
set_option maxHeartbeats 4000000 in
set_option maxRecDepth 100000 in
theorem c_L_has1 (l : Launch) (D : va_G) (cy : Nat → ClassId) (x0 x1 x2 d0 d1 p0 p1 h0 h1 : Nat) (a b : Nat → Nat) (hs sl : Nat → Nat → Nat) (T U : zTr) (x : zDd) (z : zPd) (y : zHs) (s : zSl) {Dd c : Int} (hG : GI Dd c T) (hO : LO T z y s) (p : Nat) (hi mu dy : Int) (hp : p < gOd_n (gTr_le T) ∧ oH (gTr_le T) p = hi ∧ oS (gTr_le T) p = mu ∧ oD (gTr_le T) p = dy ∧ ∀ i, p < i → i < gOd_n (gTr_le T) → dy < oD (gTr_le T) i) (hdy : r32 dy) : zM l yL_has (zW yL_has cL_has 6 (Option.some Jvm.ClassFile.FieldType.boolean)) rm_q D cy [.ref x0, .int (jI 1), .int (jI hi), .int (jI mu), .int (jI dy)] (LB cy x0 x1 x2 d0 d1 p0 p1 h0 h1 a b hs sl T U x z y s).flatten (pIs (.int (jI 1)) (LB cy x0 x1 x2 d0 d1 p0 p1 h0 h1 a b hs sl T U x z y s).flatten) 0 0 := by
  refine zM_of rfl (Nat.le_of_ble_eq_true rfl) (fun E C hret => ?_)
  have C : zO E cL_has 6 "SwingUnitsLaw" rm_q cy l D := C
  have hn : gOd_n (gTr_le T) ≤ 20 := hG.1.2.2.1.1
  have hp' := hp
  obtain ⟨g1, g2, g3, g4, g5⟩ := hp
  show zJ E 6 0 0 (([] : List va_W) ++ LB cy x0 x1 x2 d0 d1 p0 p1 h0 h1 a b hs sl T U x z y s).flatten 0 [(0, .ref x0), (1, .int (jI 1)), (2, .int (jI hi)), (3, .int (jI mu)), (4, .int (jI dy))] []
  refine zj_aload_n C dL_has_0 0 rfl ?_
  refine ij_bipush C dL_has_1 (by decide) ?_
  refine zj_iload_n C dL_has_3 1 rfl ?_
  refine ij_iadd C dL_has_4 ?_
  refine ij_ei 10 rfl ?_
  refine lc_count C ⟨Nat.le_of_ble_eq_true rfl, Nat.le_of_ble_eq_true rfl⟩ ⟨Nat.le_of_ble_eq_true rfl, Nat.le_of_ble_eq_true rfl⟩ hO ([] : List va_W) (jI 10) (Nat.le_of_ble_eq_true rfl) dL_has_5 (vc_10 hG z y) ?_
  refine ij_iconst C dL_has_8 ?_
  refine ij_isub C dL_has_9 ?_
  refine ij_ei ((gOd_n (gTr_le T) - 1 : Nat) : Int) (by omega) ?_
  refine zj_istore C (L' := [(5, .int (jI ((gOd_n (gTr_le T) - 1 : Nat) : Int))), (0, .ref x0), (1, .int (jI 1)), (2, .int (jI hi)), (3, .int (jI mu)), (4, .int (jI dy))]) dL_has_10 (by decide) rfl ?_
  refine has_loop1 C hG hO hp' hdy ?_ (gOd_n (gTr_le T) - 1 - p) (gOd_n (gTr_le T) - 1) (by omega) (by omega)
  show zJ E 6 0 0 (([] : List va_W) ++ LB cy x0 x1 x2 d0 d1 p0 p1 h0 h1 a b hs sl T U x z y s).flatten 36 [(5, .int (jI (p : Int))), (0, .ref x0), (1, .int (jI 1)), (2, .int (jI hi)), (3, .int (jI mu)), (4, .int (jI dy))] []
  obtain ⟨⟨ra, rb⟩, ⟨rc, rd⟩, re, rf⟩ := GI_ol hG g1
  have rdI := (GI_r hG).2.2.2.2.2.2.2.2.1
  refine zj_iload C dL_has_36 0 rfl ?_
  refine ij_if_lt C 82 dL_has_38 (by decide) ⟨by omega, by omega⟩ (fun h => False.elim (by omega)) (fun _ => ?_)
  refine zj_aload_n C dL_has_41 1 rfl ?_
  refine zj_iload_n C dL_has_42 2 rfl ?_
  refine zj_iload C dL_has_43 0 rfl ?_
  refine ij_iconst C dL_has_45 ?_
  refine lc_order C ⟨Nat.le_of_ble_eq_true rfl, Nat.le_of_ble_eq_true rfl⟩ ⟨Nat.le_of_ble_eq_true rfl, Nat.le_of_ble_eq_true rfl⟩ hO ([] : List va_W) (jI 1) (jI (p : Int)) (jI 0) (Nat.le_of_ble_eq_true rfl) dL_has_46 (vo_10 hG g1) ?_
  refine zj_iload_n C dL_has_49 3 rfl ?_
  refine ij_icmp_ne C 82 dL_has_50 (by decide) ⟨by omega, by omega⟩ ⟨by omega, by omega⟩ (fun h => False.elim (by omega)) (fun _ => ?_)
  refine zj_aload_n C dL_has_53 1 rfl ?_
  refine zj_iload_n C dL_has_54 2 rfl ?_
  refine zj_iload C dL_has_55 0 rfl ?_
  refine ij_iconst C dL_has_57 ?_
  refine lc_order C ⟨Nat.le_of_ble_eq_true rfl, Nat.le_of_ble_eq_true rfl⟩ ⟨Nat.le_of_ble_eq_true rfl, Nat.le_of_ble_eq_true rfl⟩ hO ([] : List va_W) (jI 1) (jI (p : Int)) (jI 1) (Nat.le_of_ble_eq_true rfl) dL_has_58 (vo_11 hG g1) ?_
  refine zj_iload_n C dL_has_61 4 rfl ?_
  refine ij_icmp_ne C 82 dL_has_62 (by decide) ⟨by omega, by omega⟩ ⟨by omega, by omega⟩ (fun h => False.elim (by omega)) (fun _ => ?_)
  refine zj_aload_n C dL_has_65 1 rfl ?_
  refine zj_iload_n C dL_has_66 2 rfl ?_
  refine zj_iload C dL_has_67 0 rfl ?_
  refine ij_iconst C dL_has_69 ?_
  refine lc_order C ⟨Nat.le_of_ble_eq_true rfl, Nat.le_of_ble_eq_true rfl⟩ ⟨Nat.le_of_ble_eq_true rfl, Nat.le_of_ble_eq_true rfl⟩ hO ([] : List va_W) (jI 1) (jI (p : Int)) (jI 2) (Nat.le_of_ble_eq_true rfl) dL_has_70 (vo_12 hG g1) ?_
  refine zj_iload C dL_has_73 5 rfl ?_
  refine ij_icmp_ne C 82 dL_has_75 (by decide) ⟨by omega, by omega⟩ ⟨by omega, by omega⟩ (fun h => False.elim (by omega)) (fun _ => ?_)
  refine ij_iconst C dL_has_78 ?_
  refine zj_goto C 83 dL_has_79 (by decide) ?_
  exact hret _ _ _ _ ⟨rfl, rfl⟩ (zOk_z (Or.inr rfl)) dL_has_83
end HAS1
