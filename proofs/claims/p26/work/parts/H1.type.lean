/-! type. Written by wip/p26/law20.py -/
set_option maxHeartbeats 4000000 in
set_option maxRecDepth 100000 in
theorem c_L_type8 (l : Launch) (D : va_G) (cy : Nat → ClassId) (x0 x1 x2 d0 d1 p0 p1 h0 h1 : Nat) (a b : Nat → Nat) (hs sl : Nat → Nat → Nat) (T U : zTr) (x : zDd) (z : zPd) (y : zHs) (s : zSl) (hO : LO T z y s) (hn : gPd_n z + 8 ≤ 80) (c1 c2 c3 c4 c5 c6 c7 c8 : Int) (g1 : 33 ≤ c1 ∧ c1 ≤ 126) (g2 : 33 ≤ c2 ∧ c2 ≤ 126) (g3 : 33 ≤ c3 ∧ c3 ≤ 126) (g4 : 33 ≤ c4 ∧ c4 ≤ 126) (g5 : 33 ≤ c5 ∧ c5 ≤ 126) (g6 : 33 ≤ c6 ∧ c6 ≤ 126) (g7 : 33 ≤ c7 ∧ c7 ≤ 126) (g8 : 33 ≤ c8 ∧ c8 ≤ 126) : zM l yL_type (zW yL_type cL_type 11 (Option.some Jvm.ClassFile.FieldType.boolean)) rm_q D cy [.ref x0, .int (jI c1), .int (jI c2), .int (jI c3), .int (jI c4), .int (jI c5), .int (jI c6), .int (jI c7), .int (jI c8)] (LB cy x0 x1 x2 d0 d1 p0 p1 h0 h1 a b hs sl T U x z y s).flatten (fun r w => r = some (.int (jI 1)) ∧ ∃ z', (gPd_n z' = gPd_n z + 8 ∧ (∀ i, i < gPd_n z → gPd_sg z' i = gPd_sg z i) ∧ (gPd_sg z' (gPd_n z + 0) = jI c1 ∧ gPd_sg z' (gPd_n z + 1) = jI c2 ∧ gPd_sg z' (gPd_n z + 2) = jI c3 ∧ gPd_sg z' (gPd_n z + 3) = jI c4 ∧ gPd_sg z' (gPd_n z + 4) = jI c5 ∧ gPd_sg z' (gPd_n z + 5) = jI c6 ∧ gPd_sg z' (gPd_n z + 6) = jI c7 ∧ gPd_sg z' (gPd_n z + 7) = jI c8) ∧ LO T z' y s) ∧ w = (LB cy x0 x1 x2 d0 d1 p0 p1 h0 h1 a b hs sl T U x z' y s).flatten) 0 0 := by
  refine zM_of rfl (Nat.le_of_ble_eq_true rfl) (fun E C hret => ?_)
  have C : zO E cL_type 11 "SwingUnitsLaw" rm_q cy l D := C
  show zJ E 11 0 0 (([] : List va_W) ++ LB cy x0 x1 x2 d0 d1 p0 p1 h0 h1 a b hs sl T U x z y s).flatten 0 [(0, .ref x0), (1, .int (jI c1)), (2, .int (jI c2)), (3, .int (jI c3)), (4, .int (jI c4)), (5, .int (jI c5)), (6, .int (jI c6)), (7, .int (jI c7)), (8, .int (jI c8))] []
  refine zj_iload_n C dL_type_0 1 rfl ?_
  refine ij_i2l C ⟨by omega, by omega⟩ dL_type_1 ?_
  refine zj_lstore C (L' := [(9, .long (jL c1)), (0, .ref x0), (1, .int (jI c1)), (2, .int (jI c2)), (3, .int (jI c3)), (4, .int (jI c4)), (5, .int (jI c5)), (6, .int (jI c6)), (7, .int (jI c7)), (8, .int (jI c8))]) dL_type_2 (by decide) rfl ?_
  refine zj_iload_n C dL_type_4 3 rfl ?_
  refine ij_if_le C 18 dL_type_5 (by decide) ⟨by omega, by omega⟩ (fun h => False.elim (by omega)) (fun _ => ?_)
  refine zj_lload C dL_type_8 0 rfl ?_
  refine ij_bipush C dL_type_10 (by decide) ?_
  refine zj_lshl C dL_type_12 rfl ?_
  refine zj_iload_n C dL_type_13 3 rfl ?_
  refine ij_i2l C ⟨by omega, by omega⟩ dL_type_14 ?_
  refine zj_lor C dL_type_15 ?_
  refine zj_topl (jL (c1 * 256 + c2)) (shl_or ⟨by omega, by omega⟩ ⟨by omega, by omega⟩) ?_
  refine zj_lstore C (L' := [(9, .long (jL (c1 * 256 + c2))), (0, .ref x0), (1, .int (jI c1)), (2, .int (jI c2)), (3, .int (jI c3)), (4, .int (jI c4)), (5, .int (jI c5)), (6, .int (jI c6)), (7, .int (jI c7)), (8, .int (jI c8))]) dL_type_16 (by decide) rfl ?_
  refine zj_iload_n C dL_type_18 4 rfl ?_
  refine ij_if_le C 32 dL_type_19 (by decide) ⟨by omega, by omega⟩ (fun h => False.elim (by omega)) (fun _ => ?_)
  refine zj_lload C dL_type_22 0 rfl ?_
  refine ij_bipush C dL_type_24 (by decide) ?_
  refine zj_lshl C dL_type_26 rfl ?_
  refine zj_iload_n C dL_type_27 4 rfl ?_
  refine ij_i2l C ⟨by omega, by omega⟩ dL_type_28 ?_
  refine zj_lor C dL_type_29 ?_
  refine zj_topl (jL ((c1 * 256 + c2) * 256 + c3)) (shl_or ⟨by omega, by omega⟩ ⟨by omega, by omega⟩) ?_
  refine zj_lstore C (L' := [(9, .long (jL ((c1 * 256 + c2) * 256 + c3))), (0, .ref x0), (1, .int (jI c1)), (2, .int (jI c2)), (3, .int (jI c3)), (4, .int (jI c4)), (5, .int (jI c5)), (6, .int (jI c6)), (7, .int (jI c7)), (8, .int (jI c8))]) dL_type_30 (by decide) rfl ?_
  refine zj_iload C dL_type_32 5 rfl ?_
  refine ij_if_le C 48 dL_type_34 (by decide) ⟨by omega, by omega⟩ (fun h => False.elim (by omega)) (fun _ => ?_)
  refine zj_lload C dL_type_37 0 rfl ?_
  refine ij_bipush C dL_type_39 (by decide) ?_
  refine zj_lshl C dL_type_41 rfl ?_
  refine zj_iload C dL_type_42 5 rfl ?_
  refine ij_i2l C ⟨by omega, by omega⟩ dL_type_44 ?_
  refine zj_lor C dL_type_45 ?_
  refine zj_topl (jL (((c1 * 256 + c2) * 256 + c3) * 256 + c4)) (shl_or ⟨by omega, by omega⟩ ⟨by omega, by omega⟩) ?_
  refine zj_lstore C (L' := [(9, .long (jL (((c1 * 256 + c2) * 256 + c3) * 256 + c4))), (0, .ref x0), (1, .int (jI c1)), (2, .int (jI c2)), (3, .int (jI c3)), (4, .int (jI c4)), (5, .int (jI c5)), (6, .int (jI c6)), (7, .int (jI c7)), (8, .int (jI c8))]) dL_type_46 (by decide) rfl ?_
  refine zj_iload C dL_type_48 6 rfl ?_
  refine ij_if_le C 64 dL_type_50 (by decide) ⟨by omega, by omega⟩ (fun h => False.elim (by omega)) (fun _ => ?_)
  refine zj_lload C dL_type_53 0 rfl ?_
  refine ij_bipush C dL_type_55 (by decide) ?_
  refine zj_lshl C dL_type_57 rfl ?_
  refine zj_iload C dL_type_58 6 rfl ?_
  refine ij_i2l C ⟨by omega, by omega⟩ dL_type_60 ?_
  refine zj_lor C dL_type_61 ?_
  refine zj_topl (jL ((((c1 * 256 + c2) * 256 + c3) * 256 + c4) * 256 + c5)) (shl_or ⟨by omega, by omega⟩ ⟨by omega, by omega⟩) ?_
  refine zj_lstore C (L' := [(9, .long (jL ((((c1 * 256 + c2) * 256 + c3) * 256 + c4) * 256 + c5))), (0, .ref x0), (1, .int (jI c1)), (2, .int (jI c2)), (3, .int (jI c3)), (4, .int (jI c4)), (5, .int (jI c5)), (6, .int (jI c6)), (7, .int (jI c7)), (8, .int (jI c8))]) dL_type_62 (by decide) rfl ?_
  refine zj_iload C dL_type_64 7 rfl ?_
  refine ij_if_le C 80 dL_type_66 (by decide) ⟨by omega, by omega⟩ (fun h => False.elim (by omega)) (fun _ => ?_)
  refine zj_lload C dL_type_69 0 rfl ?_
  refine ij_bipush C dL_type_71 (by decide) ?_
  refine zj_lshl C dL_type_73 rfl ?_
  refine zj_iload C dL_type_74 7 rfl ?_
  refine ij_i2l C ⟨by omega, by omega⟩ dL_type_76 ?_
  refine zj_lor C dL_type_77 ?_
  refine zj_topl (jL (((((c1 * 256 + c2) * 256 + c3) * 256 + c4) * 256 + c5) * 256 + c6)) (shl_or ⟨by omega, by omega⟩ ⟨by omega, by omega⟩) ?_
  refine zj_lstore C (L' := [(9, .long (jL (((((c1 * 256 + c2) * 256 + c3) * 256 + c4) * 256 + c5) * 256 + c6))), (0, .ref x0), (1, .int (jI c1)), (2, .int (jI c2)), (3, .int (jI c3)), (4, .int (jI c4)), (5, .int (jI c5)), (6, .int (jI c6)), (7, .int (jI c7)), (8, .int (jI c8))]) dL_type_78 (by decide) rfl ?_
  refine zj_iload C dL_type_80 8 rfl ?_
  refine ij_if_le C 96 dL_type_82 (by decide) ⟨by omega, by omega⟩ (fun h => False.elim (by omega)) (fun _ => ?_)
  refine zj_lload C dL_type_85 0 rfl ?_
  refine ij_bipush C dL_type_87 (by decide) ?_
  refine zj_lshl C dL_type_89 rfl ?_
  refine zj_iload C dL_type_90 8 rfl ?_
  refine ij_i2l C ⟨by omega, by omega⟩ dL_type_92 ?_
  refine zj_lor C dL_type_93 ?_
  refine zj_topl (jL ((((((c1 * 256 + c2) * 256 + c3) * 256 + c4) * 256 + c5) * 256 + c6) * 256 + c7)) (shl_or ⟨by omega, by omega⟩ ⟨by omega, by omega⟩) ?_
  refine zj_lstore C (L' := [(9, .long (jL ((((((c1 * 256 + c2) * 256 + c3) * 256 + c4) * 256 + c5) * 256 + c6) * 256 + c7))), (0, .ref x0), (1, .int (jI c1)), (2, .int (jI c2)), (3, .int (jI c3)), (4, .int (jI c4)), (5, .int (jI c5)), (6, .int (jI c6)), (7, .int (jI c7)), (8, .int (jI c8))]) dL_type_94 (by decide) rfl ?_
  refine zj_iload C dL_type_96 9 rfl ?_
  refine ij_if_le C 112 dL_type_98 (by decide) ⟨by omega, by omega⟩ (fun h => False.elim (by omega)) (fun _ => ?_)
  refine zj_lload C dL_type_101 0 rfl ?_
  refine ij_bipush C dL_type_103 (by decide) ?_
  refine zj_lshl C dL_type_105 rfl ?_
  refine zj_iload C dL_type_106 9 rfl ?_
  refine ij_i2l C ⟨by omega, by omega⟩ dL_type_108 ?_
  refine zj_lor C dL_type_109 ?_
  refine zj_topl (jL (((((((c1 * 256 + c2) * 256 + c3) * 256 + c4) * 256 + c5) * 256 + c6) * 256 + c7) * 256 + c8)) (shl_or ⟨by omega, by omega⟩ ⟨by omega, by omega⟩) ?_
  refine zj_lstore C (L' := [(9, .long (jL (((((((c1 * 256 + c2) * 256 + c3) * 256 + c4) * 256 + c5) * 256 + c6) * 256 + c7) * 256 + c8))), (0, .ref x0), (1, .int (jI c1)), (2, .int (jI c2)), (3, .int (jI c3)), (4, .int (jI c4)), (5, .int (jI c5)), (6, .int (jI c6)), (7, .int (jI c7)), (8, .int (jI c8))]) dL_type_110 (by decide) rfl ?_
  refine zj_aload_n C dL_type_112 1 rfl ?_
  refine zj_lload C dL_type_113 0 rfl ?_
  obtain ⟨n1, e1⟩ := Int.eq_ofNat_of_zero_le (show 0 ≤ c1 by omega)
  obtain ⟨n2, e2⟩ := Int.eq_ofNat_of_zero_le (show 0 ≤ c2 by omega)
  obtain ⟨n3, e3⟩ := Int.eq_ofNat_of_zero_le (show 0 ≤ c3 by omega)
  obtain ⟨n4, e4⟩ := Int.eq_ofNat_of_zero_le (show 0 ≤ c4 by omega)
  obtain ⟨n5, e5⟩ := Int.eq_ofNat_of_zero_le (show 0 ≤ c5 by omega)
  obtain ⟨n6, e6⟩ := Int.eq_ofNat_of_zero_le (show 0 ≤ c6 by omega)
  obtain ⟨n7, e7⟩ := Int.eq_ofNat_of_zero_le (show 0 ≤ c7 by omega)
  obtain ⟨n8, e8⟩ := Int.eq_ofNat_of_zero_le (show 0 ≤ c8 by omega)
  subst e1
  subst e2
  subst e3
  subst e4
  subst e5
  subst e6
  subst e7
  subst e8
  obtain ⟨z2, eP, hn2, hs1_, hs2_, hz2⟩ := put_l (z := z) [n8, n7, n6, n5, n4, n3, n2, n1] (by simp; omega) (Nat.le_of_ble_eq_true rfl) (Nat.le_of_ble_eq_true rfl) hn hO.2.2.2.2
  have eP : f_X7_put z (jL (horN [n8, n7, n6, n5, n4, n3, n2, n1] : Int)) = (jI ((gPd_n z + 8 : Nat) : Int), z2) := eP
  have hn2 : gPd_n z2 = gPd_n z + 8 := hn2
  have hO2 : LO T z2 y s := by obtain ⟨q1, q2, q3, q4, q5⟩ := hO; exact ⟨q1, q2, q3, by omega, hz2⟩
  have hor : ((((((((n1 : Int) * 256 + (n2 : Int)) * 256 + (n3 : Int)) * 256 + (n4 : Int)) * 256 + (n5 : Int)) * 256 + (n6 : Int)) * 256 + (n7 : Int)) * 256 + (n8 : Int)) = (horN [n8, n7, n6, n5, n4, n3, n2, n1] : Int) := by
    show _ = ((((((((((0 * 256 + n1) * 256 + n2) * 256 + n3) * 256 + n4) * 256 + n5) * 256 + n6) * 256 + n7) * 256 + n8) : Nat) : Int)
    omega
  refine ij_el (horN [n8, n7, n6, n5, n4, n3, n2, n1] : Int) hor ?_
  refine lc_put C ⟨Nat.le_of_ble_eq_true rfl, Nat.le_of_ble_eq_true rfl⟩ ⟨Nat.le_of_ble_eq_true rfl, Nat.le_of_ble_eq_true rfl⟩ hO ([] : List va_W) (jL (horN [n8, n7, n6, n5, n4, n3, n2, n1] : Int)) (Nat.le_of_ble_eq_true rfl) dL_type_115 (fun r_ z_ e_ => ?_)
  cases (eP.symm.trans e_)
  refine ij_if_le C 125 dL_type_118 (by decide) ⟨by omega, by omega⟩ (fun h => False.elim (by omega)) (fun _ => ?_)
  refine ij_iconst C dL_type_121 ?_
  refine zj_goto C 126 dL_type_122 (by decide) ?_
  exact hret _ _ (some (.int (jI 1))) _ ⟨rfl, z2, ⟨hn2, hs1_, ⟨hs2_ 0 n1 rfl (Nat.le_of_ble_eq_true rfl), hs2_ 1 n2 rfl (Nat.le_of_ble_eq_true rfl), hs2_ 2 n3 rfl (Nat.le_of_ble_eq_true rfl), hs2_ 3 n4 rfl (Nat.le_of_ble_eq_true rfl), hs2_ 4 n5 rfl (Nat.le_of_ble_eq_true rfl), hs2_ 5 n6 rfl (Nat.le_of_ble_eq_true rfl), hs2_ 6 n7 rfl (Nat.le_of_ble_eq_true rfl), hs2_ 7 n8 rfl (Nat.le_of_ble_eq_true rfl)⟩, hO2⟩, rfl⟩ (zOk_z (Or.inr rfl)) dL_type_126
set_option maxHeartbeats 4000000 in
set_option maxRecDepth 100000 in
theorem c_L_type5 (l : Launch) (D : va_G) (cy : Nat → ClassId) (x0 x1 x2 d0 d1 p0 p1 h0 h1 : Nat) (a b : Nat → Nat) (hs sl : Nat → Nat → Nat) (T U : zTr) (x : zDd) (z : zPd) (y : zHs) (s : zSl) (hO : LO T z y s) (hn : gPd_n z + 5 ≤ 80) (c1 c2 c3 c4 c5 : Int) (g1 : 33 ≤ c1 ∧ c1 ≤ 126) (g2 : 33 ≤ c2 ∧ c2 ≤ 126) (g3 : 33 ≤ c3 ∧ c3 ≤ 126) (g4 : 33 ≤ c4 ∧ c4 ≤ 126) (g5 : 33 ≤ c5 ∧ c5 ≤ 126) : zM l yL_type (zW yL_type cL_type 11 (Option.some Jvm.ClassFile.FieldType.boolean)) rm_q D cy [.ref x0, .int (jI c1), .int (jI c2), .int (jI c3), .int (jI c4), .int (jI c5), .int (jI 0), .int (jI 0), .int (jI 0)] (LB cy x0 x1 x2 d0 d1 p0 p1 h0 h1 a b hs sl T U x z y s).flatten (fun r w => r = some (.int (jI 1)) ∧ ∃ z', (gPd_n z' = gPd_n z + 5 ∧ (∀ i, i < gPd_n z → gPd_sg z' i = gPd_sg z i) ∧ (gPd_sg z' (gPd_n z + 0) = jI c1 ∧ gPd_sg z' (gPd_n z + 1) = jI c2 ∧ gPd_sg z' (gPd_n z + 2) = jI c3 ∧ gPd_sg z' (gPd_n z + 3) = jI c4 ∧ gPd_sg z' (gPd_n z + 4) = jI c5) ∧ LO T z' y s) ∧ w = (LB cy x0 x1 x2 d0 d1 p0 p1 h0 h1 a b hs sl T U x z' y s).flatten) 0 0 := by
  refine zM_of rfl (Nat.le_of_ble_eq_true rfl) (fun E C hret => ?_)
  have C : zO E cL_type 11 "SwingUnitsLaw" rm_q cy l D := C
  show zJ E 11 0 0 (([] : List va_W) ++ LB cy x0 x1 x2 d0 d1 p0 p1 h0 h1 a b hs sl T U x z y s).flatten 0 [(0, .ref x0), (1, .int (jI c1)), (2, .int (jI c2)), (3, .int (jI c3)), (4, .int (jI c4)), (5, .int (jI c5)), (6, .int (jI 0)), (7, .int (jI 0)), (8, .int (jI 0))] []
  refine zj_iload_n C dL_type_0 1 rfl ?_
  refine ij_i2l C ⟨by omega, by omega⟩ dL_type_1 ?_
  refine zj_lstore C (L' := [(9, .long (jL c1)), (0, .ref x0), (1, .int (jI c1)), (2, .int (jI c2)), (3, .int (jI c3)), (4, .int (jI c4)), (5, .int (jI c5)), (6, .int (jI 0)), (7, .int (jI 0)), (8, .int (jI 0))]) dL_type_2 (by decide) rfl ?_
  refine zj_iload_n C dL_type_4 3 rfl ?_
  refine ij_if_le C 18 dL_type_5 (by decide) ⟨by omega, by omega⟩ (fun h => False.elim (by omega)) (fun _ => ?_)
  refine zj_lload C dL_type_8 0 rfl ?_
  refine ij_bipush C dL_type_10 (by decide) ?_
  refine zj_lshl C dL_type_12 rfl ?_
  refine zj_iload_n C dL_type_13 3 rfl ?_
  refine ij_i2l C ⟨by omega, by omega⟩ dL_type_14 ?_
  refine zj_lor C dL_type_15 ?_
  refine zj_topl (jL (c1 * 256 + c2)) (shl_or ⟨by omega, by omega⟩ ⟨by omega, by omega⟩) ?_
  refine zj_lstore C (L' := [(9, .long (jL (c1 * 256 + c2))), (0, .ref x0), (1, .int (jI c1)), (2, .int (jI c2)), (3, .int (jI c3)), (4, .int (jI c4)), (5, .int (jI c5)), (6, .int (jI 0)), (7, .int (jI 0)), (8, .int (jI 0))]) dL_type_16 (by decide) rfl ?_
  refine zj_iload_n C dL_type_18 4 rfl ?_
  refine ij_if_le C 32 dL_type_19 (by decide) ⟨by omega, by omega⟩ (fun h => False.elim (by omega)) (fun _ => ?_)
  refine zj_lload C dL_type_22 0 rfl ?_
  refine ij_bipush C dL_type_24 (by decide) ?_
  refine zj_lshl C dL_type_26 rfl ?_
  refine zj_iload_n C dL_type_27 4 rfl ?_
  refine ij_i2l C ⟨by omega, by omega⟩ dL_type_28 ?_
  refine zj_lor C dL_type_29 ?_
  refine zj_topl (jL ((c1 * 256 + c2) * 256 + c3)) (shl_or ⟨by omega, by omega⟩ ⟨by omega, by omega⟩) ?_
  refine zj_lstore C (L' := [(9, .long (jL ((c1 * 256 + c2) * 256 + c3))), (0, .ref x0), (1, .int (jI c1)), (2, .int (jI c2)), (3, .int (jI c3)), (4, .int (jI c4)), (5, .int (jI c5)), (6, .int (jI 0)), (7, .int (jI 0)), (8, .int (jI 0))]) dL_type_30 (by decide) rfl ?_
  refine zj_iload C dL_type_32 5 rfl ?_
  refine ij_if_le C 48 dL_type_34 (by decide) ⟨by omega, by omega⟩ (fun h => False.elim (by omega)) (fun _ => ?_)
  refine zj_lload C dL_type_37 0 rfl ?_
  refine ij_bipush C dL_type_39 (by decide) ?_
  refine zj_lshl C dL_type_41 rfl ?_
  refine zj_iload C dL_type_42 5 rfl ?_
  refine ij_i2l C ⟨by omega, by omega⟩ dL_type_44 ?_
  refine zj_lor C dL_type_45 ?_
  refine zj_topl (jL (((c1 * 256 + c2) * 256 + c3) * 256 + c4)) (shl_or ⟨by omega, by omega⟩ ⟨by omega, by omega⟩) ?_
  refine zj_lstore C (L' := [(9, .long (jL (((c1 * 256 + c2) * 256 + c3) * 256 + c4))), (0, .ref x0), (1, .int (jI c1)), (2, .int (jI c2)), (3, .int (jI c3)), (4, .int (jI c4)), (5, .int (jI c5)), (6, .int (jI 0)), (7, .int (jI 0)), (8, .int (jI 0))]) dL_type_46 (by decide) rfl ?_
  refine zj_iload C dL_type_48 6 rfl ?_
  refine ij_if_le C 64 dL_type_50 (by decide) ⟨by omega, by omega⟩ (fun h => False.elim (by omega)) (fun _ => ?_)
  refine zj_lload C dL_type_53 0 rfl ?_
  refine ij_bipush C dL_type_55 (by decide) ?_
  refine zj_lshl C dL_type_57 rfl ?_
  refine zj_iload C dL_type_58 6 rfl ?_
  refine ij_i2l C ⟨by omega, by omega⟩ dL_type_60 ?_
  refine zj_lor C dL_type_61 ?_
  refine zj_topl (jL ((((c1 * 256 + c2) * 256 + c3) * 256 + c4) * 256 + c5)) (shl_or ⟨by omega, by omega⟩ ⟨by omega, by omega⟩) ?_
  refine zj_lstore C (L' := [(9, .long (jL ((((c1 * 256 + c2) * 256 + c3) * 256 + c4) * 256 + c5))), (0, .ref x0), (1, .int (jI c1)), (2, .int (jI c2)), (3, .int (jI c3)), (4, .int (jI c4)), (5, .int (jI c5)), (6, .int (jI 0)), (7, .int (jI 0)), (8, .int (jI 0))]) dL_type_62 (by decide) rfl ?_
  refine zj_iload C dL_type_64 7 rfl ?_
  refine ij_if_le C 80 dL_type_66 (by decide) ⟨by decide, by decide⟩ (fun _ => ?_) (fun h => False.elim (by omega))
  refine zj_iload C dL_type_80 8 rfl ?_
  refine ij_if_le C 96 dL_type_82 (by decide) ⟨by decide, by decide⟩ (fun _ => ?_) (fun h => False.elim (by omega))
  refine zj_iload C dL_type_96 9 rfl ?_
  refine ij_if_le C 112 dL_type_98 (by decide) ⟨by decide, by decide⟩ (fun _ => ?_) (fun h => False.elim (by omega))
  refine zj_aload_n C dL_type_112 1 rfl ?_
  refine zj_lload C dL_type_113 0 rfl ?_
  obtain ⟨n1, e1⟩ := Int.eq_ofNat_of_zero_le (show 0 ≤ c1 by omega)
  obtain ⟨n2, e2⟩ := Int.eq_ofNat_of_zero_le (show 0 ≤ c2 by omega)
  obtain ⟨n3, e3⟩ := Int.eq_ofNat_of_zero_le (show 0 ≤ c3 by omega)
  obtain ⟨n4, e4⟩ := Int.eq_ofNat_of_zero_le (show 0 ≤ c4 by omega)
  obtain ⟨n5, e5⟩ := Int.eq_ofNat_of_zero_le (show 0 ≤ c5 by omega)
  subst e1
  subst e2
  subst e3
  subst e4
  subst e5
  obtain ⟨z2, eP, hn2, hs1_, hs2_, hz2⟩ := put_l (z := z) [n5, n4, n3, n2, n1] (by simp; omega) (Nat.le_of_ble_eq_true rfl) (Nat.le_of_ble_eq_true rfl) hn hO.2.2.2.2
  have eP : f_X7_put z (jL (horN [n5, n4, n3, n2, n1] : Int)) = (jI ((gPd_n z + 5 : Nat) : Int), z2) := eP
  have hn2 : gPd_n z2 = gPd_n z + 5 := hn2
  have hO2 : LO T z2 y s := by obtain ⟨q1, q2, q3, q4, q5⟩ := hO; exact ⟨q1, q2, q3, by omega, hz2⟩
  have hor : (((((n1 : Int) * 256 + (n2 : Int)) * 256 + (n3 : Int)) * 256 + (n4 : Int)) * 256 + (n5 : Int)) = (horN [n5, n4, n3, n2, n1] : Int) := by
    show _ = (((((((0 * 256 + n1) * 256 + n2) * 256 + n3) * 256 + n4) * 256 + n5) : Nat) : Int)
    omega
  refine ij_el (horN [n5, n4, n3, n2, n1] : Int) hor ?_
  refine lc_put C ⟨Nat.le_of_ble_eq_true rfl, Nat.le_of_ble_eq_true rfl⟩ ⟨Nat.le_of_ble_eq_true rfl, Nat.le_of_ble_eq_true rfl⟩ hO ([] : List va_W) (jL (horN [n5, n4, n3, n2, n1] : Int)) (Nat.le_of_ble_eq_true rfl) dL_type_115 (fun r_ z_ e_ => ?_)
  cases (eP.symm.trans e_)
  refine ij_if_le C 125 dL_type_118 (by decide) ⟨by omega, by omega⟩ (fun h => False.elim (by omega)) (fun _ => ?_)
  refine ij_iconst C dL_type_121 ?_
  refine zj_goto C 126 dL_type_122 (by decide) ?_
  exact hret _ _ (some (.int (jI 1))) _ ⟨rfl, z2, ⟨hn2, hs1_, ⟨hs2_ 0 n1 rfl (Nat.le_of_ble_eq_true rfl), hs2_ 1 n2 rfl (Nat.le_of_ble_eq_true rfl), hs2_ 2 n3 rfl (Nat.le_of_ble_eq_true rfl), hs2_ 3 n4 rfl (Nat.le_of_ble_eq_true rfl), hs2_ 4 n5 rfl (Nat.le_of_ble_eq_true rfl)⟩, hO2⟩, rfl⟩ (zOk_z (Or.inr rfl)) dL_type_126
section CMT
variable {E : zE} {cc : ByteArray} {nL : Nat} {R : Room} {cy : Nat → ClassId} {l : Launch} {D : va_G} {k n : Nat} {pc : Nat} {L : List (Nat × Value)} {st : List Value} {x0 x1 x2 d0 d1 p0 p1 h0 h1 : Nat} {a b : Nat → Nat} {hs sl : Nat → Nat → Nat} {T U : zTr} {x : zDd} {z : zPd} {y : zHs} {s : zSl} {Dd c : Int}
set_option maxHeartbeats 4000000 in
set_option maxRecDepth 100000 in
theorem ls_type8 (C : zO E cc nL "SwingUnitsLaw" R cy l D) (hkn : k ≤ R.cells ∧ n ≤ R.slots) (hR : 9 ≤ R.frames ∧ 230 ≤ R.locals) (hO : LO T z y s) (hn : gPd_n z + 8 ≤ 80) (X : List va_W) (c1 c2 c3 c4 c5 c6 c7 c8 : Int) (g1 : 33 ≤ c1 ∧ c1 ≤ 126) (g2 : 33 ≤ c2 ∧ c2 ≤ 126) (g3 : 33 ≤ c3 ∧ c3 ≤ 126) (g4 : 33 ≤ c4 ∧ c4 ≤ 126) (g5 : 33 ≤ c5 ∧ c5 ≤ 126) (g6 : 33 ≤ c6 ∧ c6 ≤ 126) (g7 : 33 ≤ c7 ∧ c7 ≤ 126) (g8 : 33 ≤ c8 ∧ c8 ≤ 126) (hroom : (st.map fun v => v.category).sum ≤ 8) (d : decode cc pc = .ok (.invokestatic 127, 3)) (kk : ∀ z' : zPd, gPd_n z' = gPd_n z + 8 ∧ (∀ i, i < gPd_n z → gPd_sg z' i = gPd_sg z i) ∧ (gPd_sg z' (gPd_n z + 0) = jI c1 ∧ gPd_sg z' (gPd_n z + 1) = jI c2 ∧ gPd_sg z' (gPd_n z + 2) = jI c3 ∧ gPd_sg z' (gPd_n z + 3) = jI c4 ∧ gPd_sg z' (gPd_n z + 4) = jI c5 ∧ gPd_sg z' (gPd_n z + 5) = jI c6 ∧ gPd_sg z' (gPd_n z + 6) = jI c7 ∧ gPd_sg z' (gPd_n z + 7) = jI c8) ∧ LO T z' y s → zJ E nL k n (X ++ LB cy x0 x1 x2 d0 d1 p0 p1 h0 h1 a b hs sl T U x z' y s).flatten (pc + 3) L (.int (jI 1) :: st)) : zJ E nL k n (X ++ LB cy x0 x1 x2 d0 d1 p0 p1 h0 h1 a b hs sl T U x z y s).flatten pc L (.int (jI c8) :: .int (jI c7) :: .int (jI c6) :: .int (jI c5) :: .int (jI c4) :: .int (jI c3) :: .int (jI c2) :: .int (jI c1) :: .ref x0 :: st) := by
  refine zj_callMX C X _ (mc := 0) (ms := 0) (st := st) (c_L_type8 l D cy x0 x1 x2 d0 d1 p0 p1 h0 h1 a b hs sl T U x z y s hO hn c1 c2 c3 c4 c5 c6 c7 c8 g1 g2 g3 g4 g5 g6 g7 g8) tgv_607 tgv_605 tgv_606 tg_0 hdZ_L_type ⟨rfl, rfl⟩ ⟨Nat.le_trans (Nat.le_of_ble_eq_true rfl) hR.1, Nat.le_trans (Nat.le_of_ble_eq_true rfl) hR.2⟩ hkn rfl rfl hroom d (fun r w h => ?_)
  obtain ⟨rfl, z', g, rfl⟩ := h
  rw [← List.flatten_append]
  exact kk z' g
set_option maxHeartbeats 4000000 in
set_option maxRecDepth 100000 in
theorem ls_type5 (C : zO E cc nL "SwingUnitsLaw" R cy l D) (hkn : k ≤ R.cells ∧ n ≤ R.slots) (hR : 9 ≤ R.frames ∧ 230 ≤ R.locals) (hO : LO T z y s) (hn : gPd_n z + 5 ≤ 80) (X : List va_W) (c1 c2 c3 c4 c5 : Int) (g1 : 33 ≤ c1 ∧ c1 ≤ 126) (g2 : 33 ≤ c2 ∧ c2 ≤ 126) (g3 : 33 ≤ c3 ∧ c3 ≤ 126) (g4 : 33 ≤ c4 ∧ c4 ≤ 126) (g5 : 33 ≤ c5 ∧ c5 ≤ 126) (hroom : (st.map fun v => v.category).sum ≤ 8) (d : decode cc pc = .ok (.invokestatic 127, 3)) (kk : ∀ z' : zPd, gPd_n z' = gPd_n z + 5 ∧ (∀ i, i < gPd_n z → gPd_sg z' i = gPd_sg z i) ∧ (gPd_sg z' (gPd_n z + 0) = jI c1 ∧ gPd_sg z' (gPd_n z + 1) = jI c2 ∧ gPd_sg z' (gPd_n z + 2) = jI c3 ∧ gPd_sg z' (gPd_n z + 3) = jI c4 ∧ gPd_sg z' (gPd_n z + 4) = jI c5) ∧ LO T z' y s → zJ E nL k n (X ++ LB cy x0 x1 x2 d0 d1 p0 p1 h0 h1 a b hs sl T U x z' y s).flatten (pc + 3) L (.int (jI 1) :: st)) : zJ E nL k n (X ++ LB cy x0 x1 x2 d0 d1 p0 p1 h0 h1 a b hs sl T U x z y s).flatten pc L (.int (jI 0) :: .int (jI 0) :: .int (jI 0) :: .int (jI c5) :: .int (jI c4) :: .int (jI c3) :: .int (jI c2) :: .int (jI c1) :: .ref x0 :: st) := by
  refine zj_callMX C X _ (mc := 0) (ms := 0) (st := st) (c_L_type5 l D cy x0 x1 x2 d0 d1 p0 p1 h0 h1 a b hs sl T U x z y s hO hn c1 c2 c3 c4 c5 g1 g2 g3 g4 g5) tgv_607 tgv_605 tgv_606 tg_0 hdZ_L_type ⟨rfl, rfl⟩ ⟨Nat.le_trans (Nat.le_of_ble_eq_true rfl) hR.1, Nat.le_trans (Nat.le_of_ble_eq_true rfl) hR.2⟩ hkn rfl rfl hroom d (fun r w h => ?_)
  obtain ⟨rfl, z', g, rfl⟩ := h
  rw [← List.flatten_append]
  exact kk z' g
end CMT
