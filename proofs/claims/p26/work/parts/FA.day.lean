/-! day: the whole. Written by wip/p26/law10.py -/
set_option maxHeartbeats 4000000 in
set_option maxRecDepth 100000 in
theorem c_L_day (l : Launch) (D : va_G) (cy : Nat → ClassId) (x0 x1 x2 d0 d1 p0 p1 h0 h1 : Nat) (a b : Nat → Nat) (hs sl : Nat → Nat → Nat) (T U : zTr) (x : zDd) (z : zPd) (y : zHs) (s : zSl) {Dd c : Int} (hG : GI Dd c T) (hO : LO T z y s) (hDd : Dd + 1 ≤ 100000) : zM l yL_day (zW yL_day cL_day 37 (Option.some Jvm.ClassFile.FieldType.boolean)) rm_day D cy [.ref x0] (LB cy x0 x1 x2 d0 d1 p0 p1 h0 h1 a b hs sl T U x z y s).flatten (fun r w => r = some (.int (jI 1)) ∧ ∃ T' x' y', GI (Dd + 1) c T' ∧ LO T' z y' s ∧ w = (LB cy x0 x1 x2 d0 d1 p0 p1 h0 h1 a b hs sl T' U x' z y' s).flatten) 7 86 := by
  refine zM_of rfl (Nat.le_of_ble_eq_true rfl) (fun E C hret => ?_)
  have C : zO E cL_day 37 "SwingUnitsLaw" rm_day cy l D := C
  obtain ⟨⟨rc1, rc2⟩, ⟨rl1, rl2⟩, ⟨rq1, rq2⟩, ⟨rv1, rv2, rv3, rv4⟩, ⟨ru1, ru2⟩, ⟨rn1, rn2⟩, ⟨rp1, rp2⟩, ⟨re1, re2⟩, ⟨rd1, rd2⟩, ⟨rb1, rb2⟩, ⟨rs1, rs2⟩, -⟩ := GI_r hG
  show zJ E 37 0 0 (([] : List va_W) ++ LB cy x0 x1 x2 d0 d1 p0 p1 h0 h1 a b hs sl T U x z y s).flatten 0 [(0, .ref x0)] []
  refine zj_aload_n C dL_day_0 0 rfl ?_
  refine ij_bipush C dL_day_1 (by decide) ?_
  refine lc_count C ⟨Nat.le_of_ble_eq_true rfl, Nat.le_of_ble_eq_true rfl⟩ ⟨Nat.le_of_ble_eq_true rfl, Nat.le_of_ble_eq_true rfl⟩ hO ([] : List va_W) (jI 8) (Nat.le_of_ble_eq_true rfl) dL_day_3 (vc_8 hG z y) ?_
  refine zj_istore_n C (L' := [(1, .int (jI (dI T))), (0, .ref x0)]) dL_day_6 rfl (by decide) rfl ?_
  refine zj_aload_n C dL_day_7 1 rfl ?_
  refine ij_bipush C dL_day_8 (by decide) ?_
  refine lc_count C ⟨Nat.le_of_ble_eq_true rfl, Nat.le_of_ble_eq_true rfl⟩ ⟨Nat.le_of_ble_eq_true rfl, Nat.le_of_ble_eq_true rfl⟩ hO ([] : List va_W) (jI 10) (Nat.le_of_ble_eq_true rfl) dL_day_10 (vc_10 hG z y) ?_
  refine zj_istore_n C (L' := [(2, .int (jI (gOd_n (gTr_le T) : Int))), (1, .int (jI (dI T))), (0, .ref x0)]) dL_day_13 rfl (by decide) rfl ?_
  refine zj_aload_n C dL_day_14 2 rfl ?_
  refine ij_bipush C dL_day_15 (by decide) ?_
  refine lc_count C ⟨Nat.le_of_ble_eq_true rfl, Nat.le_of_ble_eq_true rfl⟩ ⟨Nat.le_of_ble_eq_true rfl, Nat.le_of_ble_eq_true rfl⟩ hO ([] : List va_W) (jI 9) (Nat.le_of_ble_eq_true rfl) dL_day_17 (vc_9 hG z y) ?_
  refine zj_istore_n C (L' := [(3, .int (jI (gOd_n (gTr_bu T) : Int))), (2, .int (jI (gOd_n (gTr_le T) : Int))), (1, .int (jI (dI T))), (0, .ref x0)]) dL_day_20 rfl (by decide) rfl ?_
  refine ij_bipush C dL_day_21 (by decide) ?_
  refine ij_newl C 8 rfl (by decide) ⟨Nat.le_of_ble_eq_true rfl, Nat.le_of_ble_eq_true rfl⟩ dL_day_23 (fun qa => ?_)
  show zJ E 37 1 8 (([LA cy qa 8 (fun _ => 0)] : List va_W) ++ LB cy x0 x1 x2 d0 d1 p0 p1 h0 h1 a b hs sl T U x z y s).flatten 25 [(3, .int (jI (gOd_n (gTr_bu T) : Int))), (2, .int (jI (gOd_n (gTr_le T) : Int))), (1, .int (jI (dI T))), (0, .ref x0)] [.ref qa]
  refine zj_astore C (L' := [(4, .ref qa), (3, .int (jI (gOd_n (gTr_bu T) : Int))), (2, .int (jI (gOd_n (gTr_le T) : Int))), (1, .int (jI (dI T))), (0, .ref x0)]) dL_day_25 (by decide) rfl ?_
  refine ij_bipush C dL_day_27 (by decide) ?_
  refine ij_newl C 6 rfl (by decide) ⟨Nat.le_of_ble_eq_true rfl, Nat.le_of_ble_eq_true rfl⟩ dL_day_29 (fun qu => ?_)
  show zJ E 37 2 14 (([LA cy qu 6 (fun _ => 0), LA cy qa 8 (fun _ => 0)] : List va_W) ++ LB cy x0 x1 x2 d0 d1 p0 p1 h0 h1 a b hs sl T U x z y s).flatten 31 [(4, .ref qa), (3, .int (jI (gOd_n (gTr_bu T) : Int))), (2, .int (jI (gOd_n (gTr_le T) : Int))), (1, .int (jI (dI T))), (0, .ref x0)] [.ref qu]
  refine zj_astore C (L' := [(5, .ref qu), (4, .ref qa), (3, .int (jI (gOd_n (gTr_bu T) : Int))), (2, .int (jI (gOd_n (gTr_le T) : Int))), (1, .int (jI (dI T))), (0, .ref x0)]) dL_day_31 (by decide) rfl ?_
  refine ij_bipush C dL_day_33 (by decide) ?_
  refine ij_newl C 6 rfl (by decide) ⟨Nat.le_of_ble_eq_true rfl, Nat.le_of_ble_eq_true rfl⟩ dL_day_35 (fun qp => ?_)
  show zJ E 37 3 20 (([LA cy qp 6 (fun _ => 0), LA cy qu 6 (fun _ => 0), LA cy qa 8 (fun _ => 0)] : List va_W) ++ LB cy x0 x1 x2 d0 d1 p0 p1 h0 h1 a b hs sl T U x z y s).flatten 37 [(5, .ref qu), (4, .ref qa), (3, .int (jI (gOd_n (gTr_bu T) : Int))), (2, .int (jI (gOd_n (gTr_le T) : Int))), (1, .int (jI (dI T))), (0, .ref x0)] [.ref qp]
  refine zj_astore C (L' := [(6, .ref qp), (5, .ref qu), (4, .ref qa), (3, .int (jI (gOd_n (gTr_bu T) : Int))), (2, .int (jI (gOd_n (gTr_le T) : Int))), (1, .int (jI (dI T))), (0, .ref x0)]) dL_day_37 (by decide) rfl ?_
  refine ij_bipush C dL_day_39 (by decide) ?_
  refine ij_newl C 6 rfl (by decide) ⟨Nat.le_of_ble_eq_true rfl, Nat.le_of_ble_eq_true rfl⟩ dL_day_41 (fun qb => ?_)
  show zJ E 37 4 26 (([LA cy qb 6 (fun _ => 0), LA cy qp 6 (fun _ => 0), LA cy qu 6 (fun _ => 0), LA cy qa 8 (fun _ => 0)] : List va_W) ++ LB cy x0 x1 x2 d0 d1 p0 p1 h0 h1 a b hs sl T U x z y s).flatten 43 [(6, .ref qp), (5, .ref qu), (4, .ref qa), (3, .int (jI (gOd_n (gTr_bu T) : Int))), (2, .int (jI (gOd_n (gTr_le T) : Int))), (1, .int (jI (dI T))), (0, .ref x0)] [.ref qb]
  refine zj_astore C (L' := [(7, .ref qb), (6, .ref qp), (5, .ref qu), (4, .ref qa), (3, .int (jI (gOd_n (gTr_bu T) : Int))), (2, .int (jI (gOd_n (gTr_le T) : Int))), (1, .int (jI (dI T))), (0, .ref x0)]) dL_day_43 (by decide) rfl ?_
  refine ij_bipush C dL_day_45 (by decide) ?_
  refine ij_newl C 20 rfl (by decide) ⟨Nat.le_of_ble_eq_true rfl, Nat.le_of_ble_eq_true rfl⟩ dL_day_47 (fun qs => ?_)
  show zJ E 37 5 46 (([LA cy qs 20 (fun _ => 0), LA cy qb 6 (fun _ => 0), LA cy qp 6 (fun _ => 0), LA cy qu 6 (fun _ => 0), LA cy qa 8 (fun _ => 0)] : List va_W) ++ LB cy x0 x1 x2 d0 d1 p0 p1 h0 h1 a b hs sl T U x z y s).flatten 49 [(7, .ref qb), (6, .ref qp), (5, .ref qu), (4, .ref qa), (3, .int (jI (gOd_n (gTr_bu T) : Int))), (2, .int (jI (gOd_n (gTr_le T) : Int))), (1, .int (jI (dI T))), (0, .ref x0)] [.ref qs]
  refine zj_astore C (L' := [(8, .ref qs), (7, .ref qb), (6, .ref qp), (5, .ref qu), (4, .ref qa), (3, .int (jI (gOd_n (gTr_bu T) : Int))), (2, .int (jI (gOd_n (gTr_le T) : Int))), (1, .int (jI (dI T))), (0, .ref x0)]) dL_day_49 (by decide) rfl ?_
  refine ij_bipush C dL_day_51 (by decide) ?_
  refine ij_newl C 20 rfl (by decide) ⟨Nat.le_of_ble_eq_true rfl, Nat.le_of_ble_eq_true rfl⟩ dL_day_53 (fun qn => ?_)
  show zJ E 37 6 66 (([LA cy qn 20 (fun _ => 0), LA cy qs 20 (fun _ => 0), LA cy qb 6 (fun _ => 0), LA cy qp 6 (fun _ => 0), LA cy qu 6 (fun _ => 0), LA cy qa 8 (fun _ => 0)] : List va_W) ++ LB cy x0 x1 x2 d0 d1 p0 p1 h0 h1 a b hs sl T U x z y s).flatten 55 [(8, .ref qs), (7, .ref qb), (6, .ref qp), (5, .ref qu), (4, .ref qa), (3, .int (jI (gOd_n (gTr_bu T) : Int))), (2, .int (jI (gOd_n (gTr_le T) : Int))), (1, .int (jI (dI T))), (0, .ref x0)] [.ref qn]
  refine zj_astore C (L' := [(9, .ref qn), (8, .ref qs), (7, .ref qb), (6, .ref qp), (5, .ref qu), (4, .ref qa), (3, .int (jI (gOd_n (gTr_bu T) : Int))), (2, .int (jI (gOd_n (gTr_le T) : Int))), (1, .int (jI (dI T))), (0, .ref x0)]) dL_day_55 (by decide) rfl ?_
  refine ij_bipush C dL_day_57 (by decide) ?_
  refine ij_newi C 20 rfl (by decide) ⟨Nat.le_of_ble_eq_true rfl, Nat.le_of_ble_eq_true rfl⟩ dL_day_59 (fun qw => ?_)
  show zJ E 37 7 86 (([IA cy qw 20 (fun _ => 0), LA cy qn 20 (fun _ => 0), LA cy qs 20 (fun _ => 0), LA cy qb 6 (fun _ => 0), LA cy qp 6 (fun _ => 0), LA cy qu 6 (fun _ => 0), LA cy qa 8 (fun _ => 0)] : List va_W) ++ LB cy x0 x1 x2 d0 d1 p0 p1 h0 h1 a b hs sl T U x z y s).flatten 61 [(9, .ref qn), (8, .ref qs), (7, .ref qb), (6, .ref qp), (5, .ref qu), (4, .ref qa), (3, .int (jI (gOd_n (gTr_bu T) : Int))), (2, .int (jI (gOd_n (gTr_le T) : Int))), (1, .int (jI (dI T))), (0, .ref x0)] [.ref qw]
  refine zj_astore C (L' := [(10, .ref qw), (9, .ref qn), (8, .ref qs), (7, .ref qb), (6, .ref qp), (5, .ref qu), (4, .ref qa), (3, .int (jI (gOd_n (gTr_bu T) : Int))), (2, .int (jI (gOd_n (gTr_le T) : Int))), (1, .int (jI (dI T))), (0, .ref x0)]) dL_day_61 (by decide) rfl ?_
  refine zj_aload C dL_day_63 6 rfl ?_
  refine ij_iconst C dL_day_65 ?_
  refine zj_aload_n C dL_day_66 10 rfl ?_
  refine ij_iconst C dL_day_67 ?_
  refine lc_count C ⟨Nat.le_of_ble_eq_true rfl, Nat.le_of_ble_eq_true rfl⟩ ⟨Nat.le_of_ble_eq_true rfl, Nat.le_of_ble_eq_true rfl⟩ hO ([IA cy qw 20 (fun _ => 0), LA cy qn 20 (fun _ => 0), LA cy qs 20 (fun _ => 0), LA cy qb 6 (fun _ => 0), LA cy qp 6 (fun _ => 0), LA cy qu 6 (fun _ => 0), LA cy qa 8 (fun _ => 0)] : List va_W) (jI 0) (Nat.le_of_ble_eq_true rfl) dL_day_68 (vc_0 hG z y) ?_
  refine ij_i2l C ⟨by omega, by omega⟩ dL_day_71 ?_
  refine ij_lastore C 6 (f := (fun _ => 0)) (ws' := (([IA cy qw 20 (fun _ => 0), LA cy qn 20 (fun _ => 0), LA cy qs 20 (fun _ => 0), LA cy qb 6 (fun _ => 0), LA cy qp 6 (fun _ => 0), LA cy qu 6 (fun _ => 0), LA cy qa 8 (iup (fun _ => 0) 0 (cI T))] : List va_W) ++ LB cy x0 x1 x2 d0 d1 p0 p1 h0 h1 a b hs sl T U x z y s).flatten) 0 rfl (by decide) (by decide) rfl dL_day_72 rfl ?_
  refine zj_aload C dL_day_73 6 rfl ?_
  refine ij_iconst C dL_day_75 ?_
  refine zj_aload_n C dL_day_76 10 rfl ?_
  refine ij_iconst C dL_day_77 ?_
  refine lc_count C ⟨Nat.le_of_ble_eq_true rfl, Nat.le_of_ble_eq_true rfl⟩ ⟨Nat.le_of_ble_eq_true rfl, Nat.le_of_ble_eq_true rfl⟩ hO ([IA cy qw 20 (fun _ => 0), LA cy qn 20 (fun _ => 0), LA cy qs 20 (fun _ => 0), LA cy qb 6 (fun _ => 0), LA cy qp 6 (fun _ => 0), LA cy qu 6 (fun _ => 0), LA cy qa 8 (iup (fun _ => 0) 0 (cI T))] : List va_W) (jI 1) (Nat.le_of_ble_eq_true rfl) dL_day_78 (vc_1 hG z y) ?_
  refine ij_i2l C ⟨by omega, by omega⟩ dL_day_81 ?_
  refine ij_lastore C 6 (f := (iup (fun _ => 0) 0 (cI T))) (ws' := (([IA cy qw 20 (fun _ => 0), LA cy qn 20 (fun _ => 0), LA cy qs 20 (fun _ => 0), LA cy qb 6 (fun _ => 0), LA cy qp 6 (fun _ => 0), LA cy qu 6 (fun _ => 0), LA cy qa 8 (iup (iup (fun _ => 0) 0 (cI T)) 1 (lI T))] : List va_W) ++ LB cy x0 x1 x2 d0 d1 p0 p1 h0 h1 a b hs sl T U x z y s).flatten) 1 rfl (by decide) (by decide) rfl dL_day_82 rfl ?_
  refine zj_aload C dL_day_83 6 rfl ?_
  refine ij_iconst C dL_day_85 ?_
  refine zj_aload_n C dL_day_86 10 rfl ?_
  refine ij_iconst C dL_day_87 ?_
  refine lc_count C ⟨Nat.le_of_ble_eq_true rfl, Nat.le_of_ble_eq_true rfl⟩ ⟨Nat.le_of_ble_eq_true rfl, Nat.le_of_ble_eq_true rfl⟩ hO ([IA cy qw 20 (fun _ => 0), LA cy qn 20 (fun _ => 0), LA cy qs 20 (fun _ => 0), LA cy qb 6 (fun _ => 0), LA cy qp 6 (fun _ => 0), LA cy qu 6 (fun _ => 0), LA cy qa 8 (iup (iup (fun _ => 0) 0 (cI T)) 1 (lI T))] : List va_W) (jI 4) (Nat.le_of_ble_eq_true rfl) dL_day_88 (vc_4 hG z y) ?_
  refine ij_i2l C ⟨by omega, by omega⟩ dL_day_91 ?_
  refine ij_lastore C 6 (f := (iup (iup (fun _ => 0) 0 (cI T)) 1 (lI T))) (ws' := (([IA cy qw 20 (fun _ => 0), LA cy qn 20 (fun _ => 0), LA cy qs 20 (fun _ => 0), LA cy qb 6 (fun _ => 0), LA cy qp 6 (fun _ => 0), LA cy qu 6 (fun _ => 0), LA cy qa 8 (iup (iup (iup (fun _ => 0) 0 (cI T)) 1 (lI T)) 2 (uAll T))] : List va_W) ++ LB cy x0 x1 x2 d0 d1 p0 p1 h0 h1 a b hs sl T U x z y s).flatten) 2 rfl (by decide) (by decide) rfl dL_day_92 rfl ?_
  refine ij_iconst C dL_day_93 ?_
  refine zj_istore C (L' := [(11, .int (jI 0)), (10, .ref qw), (9, .ref qn), (8, .ref qs), (7, .ref qb), (6, .ref qp), (5, .ref qu), (4, .ref qa), (3, .int (jI (gOd_n (gTr_bu T) : Int))), (2, .int (jI (gOd_n (gTr_le T) : Int))), (1, .int (jI (dI T))), (0, .ref x0)]) dL_day_94 (by decide) rfl ?_
  show zJ E 37 7 86 (([IA cy qw 20 (fun _ => 0), LA cy qn 20 (fun _ => 0), LA cy qs 20 (fun _ => 0), LA cy qb 6 (fun _ => 0), LA cy qp 6 (fun _ => 0), LA cy qu 6 (fun _ => 0), LA cy qa 8 (iup (iup (iup (fun _ => 0) 0 (cI T)) 1 (lI T)) 2 (uAll T))] : List va_W) ++ LB cy x0 x1 x2 d0 d1 p0 p1 h0 h1 a b hs sl T U x z y s).flatten 96 [(11, .int (jI ((0 : Nat) : Int))), (10, .ref qw), (9, .ref qn), (8, .ref qs), (7, .ref qb), (6, .ref qp), (5, .ref qu), (4, .ref qa), (3, .int (jI (gOd_n (gTr_bu T) : Int))), (2, .int (jI (gOd_n (gTr_le T) : Int))), (1, .int (jI (dI T))), (0, .ref x0)] []
  refine day_a1 C hG hO (fun fu fp fb hf1 => ?_) 6 0 _ _ _ (by omega) (fun j hj => absurd hj (Nat.not_lt_zero j))
  refine zj_lconst C (v := jL 0) dL_day_148 (by decide) ?_
  refine zj_lstore C (L' := [(11, .long (jL 0)), (10, .ref qw), (9, .ref qn), (8, .ref qs), (7, .ref qb), (6, .ref qp), (5, .ref qu), (4, .ref qa), (3, .int (jI (gOd_n (gTr_bu T) : Int))), (2, .int (jI (gOd_n (gTr_le T) : Int))), (1, .int (jI (dI T))), (0, .ref x0)]) dL_day_149 (by decide) rfl ?_
  refine zj_lconst C (v := jL 0) dL_day_151 (by decide) ?_
  refine zj_lstore C (L' := [(13, .long (jL 0)), (11, .long (jL 0)), (10, .ref qw), (9, .ref qn), (8, .ref qs), (7, .ref qb), (6, .ref qp), (5, .ref qu), (4, .ref qa), (3, .int (jI (gOd_n (gTr_bu T) : Int))), (2, .int (jI (gOd_n (gTr_le T) : Int))), (1, .int (jI (dI T))), (0, .ref x0)]) dL_day_152 (by decide) rfl ?_
  refine ij_iconst C dL_day_154 ?_
  refine zj_istore C (L' := [(15, .int (jI 0)), (13, .long (jL 0)), (11, .long (jL 0)), (10, .ref qw), (9, .ref qn), (8, .ref qs), (7, .ref qb), (6, .ref qp), (5, .ref qu), (4, .ref qa), (3, .int (jI (gOd_n (gTr_bu T) : Int))), (2, .int (jI (gOd_n (gTr_le T) : Int))), (1, .int (jI (dI T))), (0, .ref x0)]) dL_day_155 (by decide) rfl ?_
  refine zj_sub (L' := [(15, .int (jI 0)), (13, .long (jL 0)), (11, .long (jL 0)), (10, .ref qw), (9, .ref qn), (8, .ref qs), (7, .ref qb), (6, .ref qp), (5, .ref qu), (4, .ref qa), (3, .int (jI (gOd_n (gTr_bu T) : Int))), (2, .int (jI (gOd_n (gTr_le T) : Int))), (1, .int (jI (dI T))), (0, .ref x0)]) [0, 1, 2, 3, 4, 5, 6, 7, 8, 9, 10, 11, 12, 13] rfl ?_
  show zJ E 37 7 86 (([IA cy qw 20 (fun _ => 0), LA cy qn 20 (fun _ => 0), LA cy qs 20 (fun _ => 0), LA cy qb 6 fb, LA cy qp 6 fp, LA cy qu 6 fu, LA cy qa 8 (iup (iup (iup (fun _ => 0) 0 (cI T)) 1 (lI T)) 2 (uAll T))] : List va_W) ++ LB cy x0 x1 x2 d0 d1 p0 p1 h0 h1 a b hs sl T U x z y s).flatten 157 [(15, .int (jI ((0 : Nat) : Int))), (13, .long (jL 0)), (11, .long (jL (dueS (gTr_bu T) (dI T) 0))), (10, .ref qw), (9, .ref qn), (8, .ref qs), (7, .ref qb), (6, .ref qp), (5, .ref qu), (4, .ref qa), (3, .int (jI (gOd_n (gTr_bu T) : Int))), (2, .int (jI (gOd_n (gTr_le T) : Int))), (1, .int (jI (dI T))), (0, .ref x0)] []
  refine day_a2 C hG hO ?_ (gOd_n (gTr_bu T)) 0 (by omega)
  refine ij_iconst C dL_day_195 ?_
  refine zj_istore C (L' := [(15, .int (jI 0)), (13, .long (jL 0)), (11, .long (jL (inS T))), (10, .ref qw), (9, .ref qn), (8, .ref qs), (7, .ref qb), (6, .ref qp), (5, .ref qu), (4, .ref qa), (3, .int (jI (gOd_n (gTr_bu T) : Int))), (2, .int (jI (gOd_n (gTr_le T) : Int))), (1, .int (jI (dI T))), (0, .ref x0)]) dL_day_196 (by decide) rfl ?_
  refine zj_sub (L' := [(15, .int (jI 0)), (13, .long (jL 0)), (11, .long (jL (inS T))), (10, .ref qw), (9, .ref qn), (8, .ref qs), (7, .ref qb), (6, .ref qp), (5, .ref qu), (4, .ref qa), (3, .int (jI (gOd_n (gTr_bu T) : Int))), (2, .int (jI (gOd_n (gTr_le T) : Int))), (1, .int (jI (dI T))), (0, .ref x0)]) [0, 1, 2, 3, 4, 5, 6, 7, 8, 9, 10, 11, 12, 13] rfl ?_
  show zJ E 37 7 86 (([IA cy qw 20 (fun _ => 0), LA cy qn 20 (fun _ => 0), LA cy qs 20 (fun _ => 0), LA cy qb 6 fb, LA cy qp 6 fp, LA cy qu 6 fu, LA cy qa 8 (iup (iup (iup (fun _ => 0) 0 (cI T)) 1 (lI T)) 2 (uAll T))] : List va_W) ++ LB cy x0 x1 x2 d0 d1 p0 p1 h0 h1 a b hs sl T U x z y s).flatten 198 [(15, .int (jI ((0 : Nat) : Int))), (13, .long (jL (dueS (gTr_le T) (dI T) 0))), (11, .long (jL (inS T))), (10, .ref qw), (9, .ref qn), (8, .ref qs), (7, .ref qb), (6, .ref qp), (5, .ref qu), (4, .ref qa), (3, .int (jI (gOd_n (gTr_bu T) : Int))), (2, .int (jI (gOd_n (gTr_le T) : Int))), (1, .int (jI (dI T))), (0, .ref x0)] []
  refine day_a3 C hG hO (fun fn fw hf3 => ?_) (gOd_n (gTr_le T)) 0 _ _ (by omega) (fun j hj => absurd hj (Nat.not_lt_zero j))
  refine day_a4 C hG hO rfl (fun x_ => ?_)
  show zJ E 37 7 86 (([IA cy qw 20 fw, LA cy qn 20 fn, LA cy qs 20 (fun _ => 0), LA cy qb 6 fb, LA cy qp 6 fp, LA cy qu 6 fu, LA cy qa 8 (iup (iup (iup (fun _ => 0) 0 (cI T)) 1 (lI T)) 2 (uAll T))] : List va_W) ++ LB cy x0 x1 x2 d0 d1 p0 p1 h0 h1 a b hs sl T U x_ z y s).flatten 494 [(26, .long (jL (pI T))), (25, .int (jI (2 + dirI T))), (17, .long (jL (aI T))), (13, .long (jL (wI T))), (10, .ref qw), (9, .ref qn), (8, .ref qs), (7, .ref qb), (6, .ref qp), (5, .ref qu), (4, .ref qa), (3, .int (jI (gOd_n (gTr_bu T) : Int))), (2, .int (jI (gOd_n (gTr_le T) : Int))), (1, .int (jI (dI T))), (0, .ref x0)] []
  refine ij_iconst C dL_day_494 ?_
  refine zj_istore C (L' := [(28, .int (jI 0)), (26, .long (jL (pI T))), (25, .int (jI (2 + dirI T))), (17, .long (jL (aI T))), (13, .long (jL (wI T))), (10, .ref qw), (9, .ref qn), (8, .ref qs), (7, .ref qb), (6, .ref qp), (5, .ref qu), (4, .ref qa), (3, .int (jI (gOd_n (gTr_bu T) : Int))), (2, .int (jI (gOd_n (gTr_le T) : Int))), (1, .int (jI (dI T))), (0, .ref x0)]) dL_day_495 (by decide) rfl ?_
  show zJ E 37 7 86 (([IA cy qw 20 fw, LA cy qn 20 fn, LA cy qs 20 (fun _ => 0), LA cy qb 6 fb, LA cy qp 6 fp, LA cy qu 6 fu, LA cy qa 8 (iup (iup (iup (fun _ => 0) 0 (cI T)) 1 (lI T)) 2 (uAll T))] : List va_W) ++ LB cy x0 x1 x2 d0 d1 p0 p1 h0 h1 a b hs sl T U x_ z y s).flatten 497 [(28, .int (jI ((0 : Nat) : Int))), (26, .long (jL (pI T))), (25, .int (jI (2 + dirI T))), (17, .long (jL (aI T))), (13, .long (jL (wI T))), (10, .ref qw), (9, .ref qn), (8, .ref qs), (7, .ref qb), (6, .ref qp), (5, .ref qu), (4, .ref qa), (3, .int (jI (gOd_n (gTr_bu T) : Int))), (2, .int (jI (gOd_n (gTr_le T) : Int))), (1, .int (jI (dI T))), (0, .ref x0)] []
  obtain ⟨rform, rd, hG1, rend, rpp, rui, -, ⟨S0, sm, hctx, hPI, hXB⟩, huF, hOb, hB, hbuF, hcb⟩ := run_parts hG x_ hDd
  have hOl := hG.1.2.2.1
  obtain ⟨-, -, -, ⟨a1, a2, a3, a4, a5⟩, -⟩ := day_nums hG
  refine day_b C hG hO (fun j hj => (hf3 j hj).1) (fun Lf fs hs1 hs2 => ?_) (dI T + 1).toNat 0 (aI T) _ (by omega) (soP_0 (fun i hi => hG.2.1.2.2.2.2.2 i hi) hOl.2.2 (allowed_int x_ hB hOl).1) ⟨by omega, by omega⟩
  refine zj_aload_n C dL_day_723 15 rfl ?_
  refine ij_iconst C dL_day_724 ?_
  refine lc_count C ⟨Nat.le_of_ble_eq_true rfl, Nat.le_of_ble_eq_true rfl⟩ ⟨Nat.le_of_ble_eq_true rfl, Nat.le_of_ble_eq_true rfl⟩ hO ([IA cy qw 20 fw, LA cy qn 20 fn, LA cy qs 20 fs, LA cy qb 6 fb, LA cy qp 6 fp, LA cy qu 6 fu, LA cy qa 8 (iup (iup (iup (fun _ => 0) 0 (cI T)) 1 (lI T)) 2 (uAll T))] : List va_W) (jI 2) (Nat.le_of_ble_eq_true rfl) dL_day_725 (vc_2 hG z y) ?_
  refine ij_i2l C ⟨by omega, by omega⟩ dL_day_728 ?_
  refine zj_aload_n C dL_day_729 15 rfl ?_
  refine ls_cost C ⟨Nat.le_of_ble_eq_true rfl, Nat.le_of_ble_eq_true rfl⟩ ⟨Nat.le_of_ble_eq_true rfl, Nat.le_of_ble_eq_true rfl⟩ hG hO ([IA cy qw 20 fw, LA cy qn 20 fn, LA cy qs 20 fs, LA cy qb 6 fb, LA cy qp 6 fp, LA cy qu 6 fu, LA cy qa 8 (iup (iup (iup (fun _ => 0) 0 (cI T)) 1 (lI T)) 2 (uAll T))] : List va_W) (Nat.le_of_ble_eq_true rfl) dL_day_730 ?_
  refine ij_lsub C dL_day_733 ?_
  refine ij_el (brB (qI T) (sI T 4)) rfl ?_
  refine zj_lstore C (L' := [(28, .long (jL (brB (qI T) (sI T 4)))), (26, .long (jL (pI T))), (25, .int (jI (2 + dirI T))), (17, .long (jL Lf)), (13, .long (jL (wI T))), (10, .ref qw), (9, .ref qn), (8, .ref qs), (7, .ref qb), (6, .ref qp), (5, .ref qu), (4, .ref qa), (3, .int (jI (gOd_n (gTr_bu T) : Int))), (2, .int (jI (gOd_n (gTr_le T) : Int))), (1, .int (jI (dI T))), (0, .ref x0)]) dL_day_734 (by decide) rfl ?_
  refine ij_iconst C dL_day_736 ?_
  refine zj_istore C (L' := [(30, .int (jI 1)), (28, .long (jL (brB (qI T) (sI T 4)))), (26, .long (jL (pI T))), (25, .int (jI (2 + dirI T))), (17, .long (jL Lf)), (13, .long (jL (wI T))), (10, .ref qw), (9, .ref qn), (8, .ref qs), (7, .ref qb), (6, .ref qp), (5, .ref qu), (4, .ref qa), (3, .int (jI (gOd_n (gTr_bu T) : Int))), (2, .int (jI (gOd_n (gTr_le T) : Int))), (1, .int (jI (dI T))), (0, .ref x0)]) dL_day_737 (by decide) rfl ?_
  refine ij_iconst C dL_day_739 ?_
  refine zj_istore C (L' := [(31, .int (jI 0)), (30, .int (jI 1)), (28, .long (jL (brB (qI T) (sI T 4)))), (26, .long (jL (pI T))), (25, .int (jI (2 + dirI T))), (17, .long (jL Lf)), (13, .long (jL (wI T))), (10, .ref qw), (9, .ref qn), (8, .ref qs), (7, .ref qb), (6, .ref qp), (5, .ref qu), (4, .ref qa), (3, .int (jI (gOd_n (gTr_bu T) : Int))), (2, .int (jI (gOd_n (gTr_le T) : Int))), (1, .int (jI (dI T))), (0, .ref x0)]) dL_day_740 (by decide) rfl ?_
  refine zj_sub (L' := [(31, .int (jI 0)), (30, .int (jI 1)), (28, .long (jL (brB (qI T) (sI T 4)))), (26, .long (jL (pI T))), (25, .int (jI (2 + dirI T))), (13, .long (jL (wI T))), (10, .ref qw), (9, .ref qn), (8, .ref qs), (7, .ref qb), (6, .ref qp), (5, .ref qu), (4, .ref qa), (3, .int (jI (gOd_n (gTr_bu T) : Int))), (2, .int (jI (gOd_n (gTr_le T) : Int))), (1, .int (jI (dI T))), (0, .ref x0)]) [0, 1, 2, 3, 4, 6, 7, 8, 9, 10, 11, 12, 13, 14, 15, 16, 17] rfl ?_
  show zJ E 37 7 86 (([IA cy qw 20 fw, LA cy qn 20 fn, LA cy qs 20 fs, LA cy qb 6 fb, LA cy qp 6 fp, LA cy qu 6 fu, LA cy qa 8 (iup (iup (iup (fun _ => 0) 0 (cI T)) 1 (lI T)) 2 (uAll T))] : List va_W) ++ LB cy x0 x1 x2 d0 d1 p0 p1 h0 h1 a b hs sl T U x_ z y s).flatten 742 [(31, .int (jI ((0 : Nat) : Int))), (30, .int (jI 1)), (28, .long (jL (brB (qI T) (sI T 4)))), (26, .long (jL (pI T))), (25, .int (jI (2 + dirI T))), (13, .long (jL (wI T))), (10, .ref qw), (9, .ref qn), (8, .ref qs), (7, .ref qb), (6, .ref qp), (5, .ref qu), (4, .ref qa), (3, .int (jI (gOd_n (gTr_bu T) : Int))), (2, .int (jI (gOd_n (gTr_le T) : Int))), (1, .int (jI (dI T))), (0, .ref x0)] []
  have hbr := br_int (T := T) hB.2.2.1 (hB.1 4 (by decide))
  have hbr2 : 0 ≤ (brB (qI T) (sI T 4)) ∧ (brB (qI T) (sI T 4)) ≤ 10000 := ⟨hbr.2.1, by have e := hbr.2.2; have e2 : (brB (qI T) (sI T 4)) ≤ qI T := e; omega⟩
  have hpC0 : pC x_ T 0 (iup (iup (iup (fun _ => 0) 0 (cI T)) 1 (lI T)) 2 (uAll T)) fu fp fn := ⟨rfl, rfl, rfl, rfl, rfl, rfl, rfl, fun j hj => ⟨(hf1 j hj).1, (hf1 j hj).2.1⟩, fun j hj => (hf3 j hj).1⟩
  refine day_c2 C hG hO hctx hPI ⟨rl1, rl2⟩ hbr2 ⟨hs1, hs2⟩ (fun j hj => (hf3 j hj).2) (fun fa2 fu2 fp2 fn2 hpC => ?_) (gOd_n (gTr_le T)) 0 0 _ _ _ _ (by omega) (Or.inl ⟨rfl, Nat.zero_le _⟩) rfl hpC0
  refine ij_iconst C dL_day_924 ?_
  refine zj_istore C (L' := [(31, .int (jI 0)), (26, .long (jL (pI T))), (25, .int (jI (2 + dirI T))), (13, .long (jL (wI T))), (10, .ref qw), (9, .ref qn), (8, .ref qs), (7, .ref qb), (6, .ref qp), (5, .ref qu), (4, .ref qa), (3, .int (jI (gOd_n (gTr_bu T) : Int))), (2, .int (jI (gOd_n (gTr_le T) : Int))), (1, .int (jI (dI T))), (0, .ref x0)]) dL_day_925 (by decide) rfl ?_
  refine ij_iconst C dL_day_927 ?_
  refine zj_istore C (L' := [(32, .int (jI 0)), (31, .int (jI 0)), (26, .long (jL (pI T))), (25, .int (jI (2 + dirI T))), (13, .long (jL (wI T))), (10, .ref qw), (9, .ref qn), (8, .ref qs), (7, .ref qb), (6, .ref qp), (5, .ref qu), (4, .ref qa), (3, .int (jI (gOd_n (gTr_bu T) : Int))), (2, .int (jI (gOd_n (gTr_le T) : Int))), (1, .int (jI (dI T))), (0, .ref x0)]) dL_day_928 (by decide) rfl ?_
  show zJ E 37 7 86 (([IA cy qw 20 fw, LA cy qn 20 fn2, LA cy qs 20 fs, LA cy qb 6 fb, LA cy qp 6 fp2, LA cy qu 6 fu2, LA cy qa 8 fa2] : List va_W) ++ LB cy x0 x1 x2 d0 d1 p0 p1 h0 h1 a b hs sl T U x_ z y s).flatten 930 [(32, .int (jI ((0 : Nat) : Int))), (31, .int (jI 0)), (26, .long (jL (pI T))), (25, .int (jI (2 + dirI T))), (13, .long (jL (wI T))), (10, .ref qw), (9, .ref qn), (8, .ref qs), (7, .ref qb), (6, .ref qp), (5, .ref qu), (4, .ref qa), (3, .int (jI (gOd_n (gTr_bu T) : Int))), (2, .int (jI (gOd_n (gTr_le T) : Int))), (1, .int (jI (dI T))), (0, .ref x0)] []
  obtain ⟨⟨XX, hPS⟩, hXP, -⟩ := hPI (runD T) (Nat.le_refl _)
  have hpD0 : pD x_ T 0 fa2 fu2 fb := by
    obtain ⟨c0, c1, c2, c3, c4, c5, c6, c7, c8⟩ := hpC
    obtain ⟨xp1, xp2, ⟨xp3, xp4, xp5⟩⟩ := hXP
    exact ⟨c0, c1, c2, c3.trans xp3.symm, c4, c5, c6.trans xp4.symm, fun j hj => ⟨(c7 j hj).1, (hf1 j hj).2.2.trans (xp1 j hj).1.symm⟩⟩
  refine day_d C hG hO hXB hB rpp rui hOb hcb huF (fun fa3 fu3 fb3 hpD => ?_) (gOd_n (gTr_bu T)) 0 0 0 _ _ _ (by omega) (Or.inl ⟨rfl, Nat.zero_le _⟩) rfl hpD0
  obtain ⟨v1, v2, ⟨v3, v3a, v3b⟩, ⟨v4, v4a, v4b⟩, ⟨v5, v5a, v5b⟩, v6, v7, ⟨v8, v8a, v8b⟩, v9, v10, v11, v12, v13⟩ := end_vals hG x_ hctx (hPI (runD T) (Nat.le_refl _)) (hXB (runE T) (Nat.le_refl _)).1 (hXB (runE T) (Nat.le_refl _)).2
  have hdE : runE T ≤ gOd_n (gTr_bu T) := xdue_le
  obtain ⟨c0, c1, c2, c3, c4, c5, c6, c7⟩ := hpD
  obtain ⟨-, -, -, -, -, -, -, p7, p8⟩ := hpC
  have eX : f_X7_endDay T x_ y = (jI (dI T + 1), runR x_ T, runX x_ T, hist2 y T (jI (dI T + 1))) := by
    rw [X7_endDay, rform]
    have e := jI_is (v := gTr_day (runR x_ T)) rd
    dsimp only
    rw [e]
  have hO1 := LO_op hG hO hG1 (jI (dI T + 1))
  obtain ⟨y1, ey1⟩ : ∃ q, q = hist2 y T (jI (dI T + 1)) := ⟨_, rfl⟩
  rw [← ey1] at eX hO1
  have k0 : cI (runR x_ T) = cI (runB x_ T (runE T)) := rfl
  have k1 : lI (runR x_ T) = lI (runB x_ T (runE T)) := rfl
  have k2 : uAll (runR x_ T) = uAll (runB x_ T (runE T)) := rfl
  obtain ⟨⟨tc1, tc2⟩, ⟨tl1, tl2⟩, -, -, ⟨tu1, tu2⟩, -, -, -, -, ⟨tb1, tb2⟩, ⟨ts1, ts2⟩, -⟩ := GI_r hG1
  have hpz := (day_nums hG).2.2.2.2.2.2.2.2.2
  have hwz := (day_nums hG).1
  have hdz := (day_nums hG).2.2.2.2.2.2.2.2.1
  refine zj_aload_n C dL_day_1086 14 rfl ?_
  refine lc_endDay C ⟨Nat.le_of_ble_eq_true rfl, Nat.le_of_ble_eq_true rfl⟩ ⟨Nat.le_of_ble_eq_true rfl, Nat.le_of_ble_eq_true rfl⟩ hO ([IA cy qw 20 fw, LA cy qn 20 fn2, LA cy qs 20 fs, LA cy qb 6 fb3, LA cy qp 6 fp2, LA cy qu 6 fu3, LA cy qa 8 fa3] : List va_W) (Nat.le_of_ble_eq_true rfl) dL_day_1087 (fun r_ T_ x2_ y_ e_ => ?_)
  cases (eX.symm.trans e_)
  refine zj_iload_n C dL_day_1090 13 rfl ?_
  refine ij_iconst C dL_day_1091 ?_
  refine ij_iadd C dL_day_1092 ?_
  refine ij_icmp_ne C 1160 dL_day_1093 (by decide) ⟨by omega, by omega⟩ ⟨by omega, by omega⟩ (fun h => False.elim (by omega)) (fun _ => ?_)
  refine zj_aload_n C dL_day_1096 14 rfl ?_
  refine ij_iconst C dL_day_1097 ?_
  refine lc_count C ⟨Nat.le_of_ble_eq_true rfl, Nat.le_of_ble_eq_true rfl⟩ ⟨Nat.le_of_ble_eq_true rfl, Nat.le_of_ble_eq_true rfl⟩ hO1 ([IA cy qw 20 fw, LA cy qn 20 fn2, LA cy qs 20 fs, LA cy qb 6 fb3, LA cy qp 6 fp2, LA cy qu 6 fu3, LA cy qa 8 fa3] : List va_W) (jI 0) (Nat.le_of_ble_eq_true rfl) dL_day_1098 (vc_0 hG1 z y1) ?_
  refine ij_i2l C ⟨by omega, by omega⟩ dL_day_1101 ?_
  refine zj_aload C dL_day_1102 10 rfl ?_
  refine ij_iconst C dL_day_1104 ?_
  refine ij_laload C 6 (f := fa3) 0 rfl (by decide) (by decide) rfl dL_day_1105 ?_
  refine ij_lcmp_ne C 1160 dL_day_1106 dL_day_1107 (by decide) ⟨by omega, by omega⟩ ⟨by omega, by omega⟩ (fun h => False.elim (by omega)) (fun _ => ?_)
  refine zj_aload_n C dL_day_1110 14 rfl ?_
  refine ij_iconst C dL_day_1111 ?_
  refine lc_count C ⟨Nat.le_of_ble_eq_true rfl, Nat.le_of_ble_eq_true rfl⟩ ⟨Nat.le_of_ble_eq_true rfl, Nat.le_of_ble_eq_true rfl⟩ hO1 ([IA cy qw 20 fw, LA cy qn 20 fn2, LA cy qs 20 fs, LA cy qb 6 fb3, LA cy qp 6 fp2, LA cy qu 6 fu3, LA cy qa 8 fa3] : List va_W) (jI 1) (Nat.le_of_ble_eq_true rfl) dL_day_1112 (vc_1 hG1 z y1) ?_
  refine ij_i2l C ⟨by omega, by omega⟩ dL_day_1115 ?_
  refine zj_aload C dL_day_1116 10 rfl ?_
  refine ij_iconst C dL_day_1118 ?_
  refine ij_laload C 6 (f := fa3) 1 rfl (by decide) (by decide) rfl dL_day_1119 ?_
  refine ij_lcmp_ne C 1160 dL_day_1120 dL_day_1121 (by decide) ⟨by omega, by omega⟩ ⟨by omega, by omega⟩ (fun h => False.elim (by omega)) (fun _ => ?_)
  refine zj_aload_n C dL_day_1124 14 rfl ?_
  refine ij_iconst C dL_day_1125 ?_
  refine lc_count C ⟨Nat.le_of_ble_eq_true rfl, Nat.le_of_ble_eq_true rfl⟩ ⟨Nat.le_of_ble_eq_true rfl, Nat.le_of_ble_eq_true rfl⟩ hO1 ([IA cy qw 20 fw, LA cy qn 20 fn2, LA cy qs 20 fs, LA cy qb 6 fb3, LA cy qp 6 fp2, LA cy qu 6 fu3, LA cy qa 8 fa3] : List va_W) (jI 4) (Nat.le_of_ble_eq_true rfl) dL_day_1126 (vc_4 hG1 z y1) ?_
  refine ij_i2l C ⟨by omega, by omega⟩ dL_day_1129 ?_
  refine zj_aload C dL_day_1130 10 rfl ?_
  refine ij_iconst C dL_day_1132 ?_
  refine ij_laload C 6 (f := fa3) 2 rfl (by decide) (by decide) rfl dL_day_1133 ?_
  refine ij_lcmp_ne C 1160 dL_day_1134 dL_day_1135 (by decide) ⟨by omega, by omega⟩ ⟨by omega, by omega⟩ (fun h => False.elim (by omega)) (fun _ => ?_)
  refine zj_aload_n C dL_day_1138 14 rfl ?_
  refine ij_bipush C dL_day_1139 (by decide) ?_
  refine lc_count C ⟨Nat.le_of_ble_eq_true rfl, Nat.le_of_ble_eq_true rfl⟩ ⟨Nat.le_of_ble_eq_true rfl, Nat.le_of_ble_eq_true rfl⟩ hO1 ([IA cy qw 20 fw, LA cy qn 20 fn2, LA cy qs 20 fs, LA cy qb 6 fb3, LA cy qp 6 fp2, LA cy qu 6 fu3, LA cy qa 8 fa3] : List va_W) (jI 9) (Nat.le_of_ble_eq_true rfl) dL_day_1141 (vc_9 hG1 z y1) ?_
  refine zj_iload C dL_day_1144 0 rfl ?_
  refine ij_icmp_ne C 1160 dL_day_1146 (by decide) ⟨by omega, by omega⟩ ⟨by omega, by omega⟩ (fun h => False.elim (by omega)) (fun _ => ?_)
  refine zj_aload_n C dL_day_1149 14 rfl ?_
  refine ij_iconst C dL_day_1150 ?_
  refine lc_price C ⟨Nat.le_of_ble_eq_true rfl, Nat.le_of_ble_eq_true rfl⟩ ⟨Nat.le_of_ble_eq_true rfl, Nat.le_of_ble_eq_true rfl⟩ hO1 ([IA cy qw 20 fw, LA cy qn 20 fn2, LA cy qs 20 fs, LA cy qb 6 fb3, LA cy qp 6 fp2, LA cy qu 6 fu3, LA cy qa 8 fa3] : List va_W) (jI 2) (Nat.le_of_ble_eq_true rfl) dL_day_1151 (fun r8_ x8_ e8_ => ?_)
  refine ij_l (lpI (runR x_ T)) (vp_2 hG1 e8_) ?_
  refine zj_lload C dL_day_1154 1 rfl ?_
  refine ij_lcmp_eq C 1162 dL_day_1156 dL_day_1157 (by decide) ⟨by omega, by omega⟩ ⟨by omega, by omega⟩ (fun _ => ?_) (fun h => False.elim (by omega))
  refine ij_iconst C dL_day_1162 ?_
  refine zj_istore C (L' := [(32, .int (jI 0)), (31, .int (jI ((gOd_n (gTr_bu T) : Int) - (runE T : Int)))), (26, .long (jL (pI T))), (25, .int (jI (2 + dirI T))), (13, .long (jL (wI T))), (10, .ref qw), (9, .ref qn), (8, .ref qs), (7, .ref qb), (6, .ref qp), (5, .ref qu), (4, .ref qa), (3, .int (jI (gOd_n (gTr_bu T) : Int))), (2, .int (jI (gOd_n (gTr_le T) : Int))), (1, .int (jI (dI T))), (0, .ref x0)]) dL_day_1163 (by decide) rfl ?_
  refine zj_sub (L' := [(32, .int (jI 0)), (25, .int (jI (2 + dirI T))), (13, .long (jL (wI T))), (10, .ref qw), (9, .ref qn), (8, .ref qs), (7, .ref qb), (6, .ref qp), (5, .ref qu), (4, .ref qa), (3, .int (jI (gOd_n (gTr_bu T) : Int))), (2, .int (jI (gOd_n (gTr_le T) : Int))), (1, .int (jI (dI T))), (0, .ref x0)]) [0, 3, 4, 5, 6, 7, 8, 9, 10, 11, 12, 13, 14, 15] rfl ?_
  show zJ E 37 7 86 (([IA cy qw 20 fw, LA cy qn 20 fn2, LA cy qs 20 fs, LA cy qb 6 fb3, LA cy qp 6 fp2, LA cy qu 6 fu3, LA cy qa 8 fa3] : List va_W) ++ LB cy x0 x1 x2 d0 d1 p0 p1 h0 h1 a b hs sl (runR x_ T) U x8_ z y1 s).flatten 1165 [(32, .int (jI ((0 : Nat) : Int))), (25, .int (jI (2 + dirI T))), (13, .long (jL (wI T))), (10, .ref qw), (9, .ref qn), (8, .ref qs), (7, .ref qb), (6, .ref qp), (5, .ref qu), (4, .ref qa), (3, .int (jI (gOd_n (gTr_bu T) : Int))), (2, .int (jI (gOd_n (gTr_le T) : Int))), (1, .int (jI (dI T))), (0, .ref x0)] []
  refine day_e2 C hG1 hO1 (fun j hj => ?_) ?_ 6 0 (by omega)
  · obtain ⟨g1, g2⟩ := c7 j hj
    exact ⟨g1, (p7 j hj).2.trans (v13 j hj).symm, g2⟩
  refine ij_iconst C dL_day_1231 ?_
  refine zj_istore C (L' := [(32, .int (jI 0)), (25, .int (jI (2 + dirI T))), (13, .long (jL (wI T))), (10, .ref qw), (9, .ref qn), (8, .ref qs), (7, .ref qb), (6, .ref qp), (5, .ref qu), (4, .ref qa), (3, .int (jI (gOd_n (gTr_bu T) : Int))), (2, .int (jI (gOd_n (gTr_le T) : Int))), (1, .int (jI (dI T))), (0, .ref x0)]) dL_day_1232 (by decide) rfl ?_
  refine ij_iconst C dL_day_1234 ?_
  refine zj_istore C (L' := [(33, .int (jI 0)), (32, .int (jI 0)), (25, .int (jI (2 + dirI T))), (13, .long (jL (wI T))), (10, .ref qw), (9, .ref qn), (8, .ref qs), (7, .ref qb), (6, .ref qp), (5, .ref qu), (4, .ref qa), (3, .int (jI (gOd_n (gTr_bu T) : Int))), (2, .int (jI (gOd_n (gTr_le T) : Int))), (1, .int (jI (dI T))), (0, .ref x0)]) dL_day_1235 (by decide) rfl ?_
  refine zj_sub (L' := [(33, .int (jI 0)), (32, .int (jI 0)), (25, .int (jI (2 + dirI T))), (13, .long (jL (wI T))), (10, .ref qw), (9, .ref qn), (8, .ref qs), (7, .ref qb), (6, .ref qp), (5, .ref qu), (4, .ref qa), (3, .int (jI (gOd_n (gTr_bu T) : Int))), (2, .int (jI (gOd_n (gTr_le T) : Int))), (1, .int (jI (dI T))), (0, .ref x0)]) [0, 1, 2, 3, 4, 5, 6, 7, 8, 9, 10, 11, 12, 13, 14] rfl ?_
  obtain ⟨NN, hNN⟩ : ∃ q, q = cN (gTr_le (runP x_ T (runD T)).1) := ⟨_, rfl⟩
  have hN0 : ((NN 0 : Nat) : Int) = 0 := by rw [hNN]; rfl
  show zJ E 37 7 86 (([IA cy qw 20 fw, LA cy qn 20 fn2, LA cy qs 20 fs, LA cy qb 6 fb3, LA cy qp 6 fp2, LA cy qu 6 fu3, LA cy qa 8 fa3] : List va_W) ++ LB cy x0 x1 x2 d0 d1 p0 p1 h0 h1 a b hs sl (runR x_ T) U x8_ z y1 s).flatten 1237 [(33, .int (jI ((0 : Nat) : Int))), (32, .int (jI 0)), (25, .int (jI (2 + dirI T))), (13, .long (jL (wI T))), (10, .ref qw), (9, .ref qn), (8, .ref qs), (7, .ref qb), (6, .ref qp), (5, .ref qu), (4, .ref qa), (3, .int (jI (gOd_n (gTr_bu T) : Int))), (2, .int (jI (gOd_n (gTr_le T) : Int))), (1, .int (jI (dI T))), (0, .ref x0)] []
  rw [← hN0]
  show zJ E 37 7 86 (([IA cy qw 20 fw, LA cy qn 20 fn2, LA cy qs 20 fs, LA cy qb 6 fb3, LA cy qp 6 fp2, LA cy qu 6 fu3, LA cy qa 8 fa3] : List va_W) ++ LB cy x0 x1 x2 d0 d1 p0 p1 h0 h1 a b hs sl (runR x_ T) U x8_ z y1 s).flatten 1237 [(33, .int (jI ((0 : Nat) : Int))), (32, .int (jI ((NN 0 : Nat) : Int))), (25, .int (jI (2 + dirI T))), (13, .long (jL (wI T))), (10, .ref qw), (9, .ref qn), (8, .ref qs), (7, .ref qb), (6, .ref qp), (5, .ref qu), (4, .ref qa), (3, .int (jI (gOd_n (gTr_bu T) : Int))), (2, .int (jI (gOd_n (gTr_le T) : Int))), (1, .int (jI (dI T))), (0, .ref x0)] []
  refine day_e3 C hG1 hO1 (by omega) NN (fun k hk => ?_) ?_ (gOd_n (gTr_le T)) 0 (by omega)
  · have e := p8 k hk
    have e2 := v12 k hk
    refine ⟨by omega, fun q => ?_, fun q => ?_⟩
    · obtain ⟨g1, g2⟩ := filt_get v9 (k := k) (by omega) (by omega)
      have g3 : gOd_ho (gTr_le (runR x_ T)) (cN (gTr_le (runP x_ T (runD T)).1) k) = gOd_ho (gTr_le (runP x_ T (runD T)).1) k := congrArg (fun t => t.1) g2
      have g4 : gOd_sz (gTr_le (runR x_ T)) (cN (gTr_le (runP x_ T (runD T)).1) k) = gOd_sz (gTr_le (runP x_ T (runD T)).1) k := congrArg (fun t => t.2.1) g2
      rw [hNN]
      refine ⟨g1, ?_, ?_, if_pos (by omega)⟩
      · rw [(hf3 k hk).2, ← v11 k]; unfold oH; rw [g3]
      · rw [e]; unfold oS; rw [g4]
    · rw [hNN]; exact if_neg (by omega)
  have hNe := filt_n v9
  rw [v10, ← hNN] at hNe
  refine zj_aload_n C dL_day_1298 13 rfl ?_
  refine ij_bipush C dL_day_1299 (by decide) ?_
  refine lc_count C ⟨Nat.le_of_ble_eq_true rfl, Nat.le_of_ble_eq_true rfl⟩ ⟨Nat.le_of_ble_eq_true rfl, Nat.le_of_ble_eq_true rfl⟩ hO1 ([IA cy qw 20 fw, LA cy qn 20 fn2, LA cy qs 20 fs, LA cy qb 6 fb3, LA cy qp 6 fp2, LA cy qu 6 fu3, LA cy qa 8 fa3] : List va_W) (jI 10) (Nat.le_of_ble_eq_true rfl) dL_day_1301 (vc_10 hG1 z y1) ?_
  refine zj_iload C dL_day_1304 0 rfl ?_
  refine ij_icmp_ne C 1397 dL_day_1306 (by decide) ⟨by omega, by omega⟩ ⟨by omega, by omega⟩ (fun h => False.elim (by omega)) (fun _ => ?_)
  refine zj_aload_n C dL_day_1309 13 rfl ?_
  refine ij_iconst C dL_day_1310 ?_
  refine lc_lastDay C ⟨Nat.le_of_ble_eq_true rfl, Nat.le_of_ble_eq_true rfl⟩ ⟨Nat.le_of_ble_eq_true rfl, Nat.le_of_ble_eq_true rfl⟩ hO1 ([IA cy qw 20 fw, LA cy qn 20 fn2, LA cy qs 20 fs, LA cy qb 6 fb3, LA cy qp 6 fp2, LA cy qu 6 fu3, LA cy qa 8 fa3] : List va_W) (jI 0) (Nat.le_of_ble_eq_true rfl) dL_day_1311 v3 ?_
  refine ij_i2l C ⟨by omega, by omega⟩ dL_day_1314 ?_
  refine zj_aload C dL_day_1315 9 rfl ?_
  refine ij_iconst C dL_day_1317 ?_
  refine ij_laload C 6 (f := fa3) 3 rfl (by decide) (by decide) rfl dL_day_1318 ?_
  refine ij_lcmp_ne C 1397 dL_day_1319 dL_day_1320 (by decide) ⟨by omega, by omega⟩ ⟨by omega, by omega⟩ (fun h => False.elim (by omega)) (fun _ => ?_)
  refine zj_aload_n C dL_day_1323 13 rfl ?_
  refine ij_iconst C dL_day_1324 ?_
  refine lc_lastDay C ⟨Nat.le_of_ble_eq_true rfl, Nat.le_of_ble_eq_true rfl⟩ ⟨Nat.le_of_ble_eq_true rfl, Nat.le_of_ble_eq_true rfl⟩ hO1 ([IA cy qw 20 fw, LA cy qn 20 fn2, LA cy qs 20 fs, LA cy qb 6 fb3, LA cy qp 6 fp2, LA cy qu 6 fu3, LA cy qa 8 fa3] : List va_W) (jI 1) (Nat.le_of_ble_eq_true rfl) dL_day_1325 v4 ?_
  refine ij_i2l C ⟨by omega, by omega⟩ dL_day_1328 ?_
  refine zj_aload C dL_day_1329 9 rfl ?_
  refine ij_iconst C dL_day_1331 ?_
  refine ij_laload C 6 (f := fa3) 4 rfl (by decide) (by decide) rfl dL_day_1332 ?_
  refine ij_lcmp_ne C 1397 dL_day_1333 dL_day_1334 (by decide) ⟨by omega, by omega⟩ ⟨by omega, by omega⟩ (fun h => False.elim (by omega)) (fun _ => ?_)
  refine zj_aload_n C dL_day_1337 13 rfl ?_
  refine ij_iconst C dL_day_1338 ?_
  refine lc_lastDay C ⟨Nat.le_of_ble_eq_true rfl, Nat.le_of_ble_eq_true rfl⟩ ⟨Nat.le_of_ble_eq_true rfl, Nat.le_of_ble_eq_true rfl⟩ hO1 ([IA cy qw 20 fw, LA cy qn 20 fn2, LA cy qs 20 fs, LA cy qb 6 fb3, LA cy qp 6 fp2, LA cy qu 6 fu3, LA cy qa 8 fa3] : List va_W) (jI 2) (Nat.le_of_ble_eq_true rfl) dL_day_1339 v5 ?_
  refine ij_i2l C ⟨by omega, by omega⟩ dL_day_1342 ?_
  refine zj_aload C dL_day_1343 9 rfl ?_
  refine ij_iconst C dL_day_1345 ?_
  refine ij_laload C 6 (f := fa3) 5 rfl (by decide) (by decide) rfl dL_day_1346 ?_
  refine ij_lcmp_ne C 1397 dL_day_1347 dL_day_1348 (by decide) ⟨by omega, by omega⟩ ⟨by omega, by omega⟩ (fun h => False.elim (by omega)) (fun _ => ?_)
  refine zj_aload_n C dL_day_1351 13 rfl ?_
  refine ij_iconst C dL_day_1352 ?_
  refine lc_lastDay C ⟨Nat.le_of_ble_eq_true rfl, Nat.le_of_ble_eq_true rfl⟩ ⟨Nat.le_of_ble_eq_true rfl, Nat.le_of_ble_eq_true rfl⟩ hO1 ([IA cy qw 20 fw, LA cy qn 20 fn2, LA cy qs 20 fs, LA cy qb 6 fb3, LA cy qp 6 fp2, LA cy qu 6 fu3, LA cy qa 8 fa3] : List va_W) (jI 3) (Nat.le_of_ble_eq_true rfl) dL_day_1353 v6 ?_
  refine zj_iload C dL_day_1356 1 rfl ?_
  refine ij_icmp_ne C 1397 dL_day_1358 (by decide) ⟨by omega, by omega⟩ ⟨by omega, by omega⟩ (fun h => False.elim (by omega)) (fun _ => ?_)
  refine zj_aload_n C dL_day_1361 13 rfl ?_
  refine ij_iconst C dL_day_1362 ?_
  refine lc_lastDay C ⟨Nat.le_of_ble_eq_true rfl, Nat.le_of_ble_eq_true rfl⟩ ⟨Nat.le_of_ble_eq_true rfl, Nat.le_of_ble_eq_true rfl⟩ hO1 ([IA cy qw 20 fw, LA cy qn 20 fn2, LA cy qs 20 fs, LA cy qb 6 fb3, LA cy qp 6 fp2, LA cy qu 6 fu3, LA cy qa 8 fa3] : List va_W) (jI 4) (Nat.le_of_ble_eq_true rfl) dL_day_1363 v7 ?_
  refine ij_i2l C ⟨by omega, by omega⟩ dL_day_1366 ?_
  refine zj_lload C dL_day_1367 2 rfl ?_
  refine zj_aload C dL_day_1369 9 rfl ?_
  refine ij_iconst C dL_day_1371 ?_
  refine ij_laload C 6 (f := fa3) 4 rfl (by decide) (by decide) rfl dL_day_1372 ?_
  refine ij_lsub C dL_day_1373 ?_
  refine ij_lcmp_ne C 1397 dL_day_1374 dL_day_1375 (by decide) ⟨by omega, by omega⟩ ⟨by omega, by omega⟩ (fun h => False.elim (by omega)) (fun _ => ?_)
  refine zj_aload_n C dL_day_1378 13 rfl ?_
  refine ij_iconst C dL_day_1379 ?_
  refine lc_lastDay C ⟨Nat.le_of_ble_eq_true rfl, Nat.le_of_ble_eq_true rfl⟩ ⟨Nat.le_of_ble_eq_true rfl, Nat.le_of_ble_eq_true rfl⟩ hO1 ([IA cy qw 20 fw, LA cy qn 20 fn2, LA cy qs 20 fs, LA cy qb 6 fb3, LA cy qp 6 fp2, LA cy qu 6 fu3, LA cy qa 8 fa3] : List va_W) (jI 5) (Nat.le_of_ble_eq_true rfl) dL_day_1380 v8 ?_
  refine ij_i2l C ⟨by omega, by omega⟩ dL_day_1383 ?_
  refine zj_aload C dL_day_1384 9 rfl ?_
  refine ij_bipush C dL_day_1386 (by decide) ?_
  refine ij_laload C 6 (f := fa3) 6 rfl (by decide) (by decide) rfl dL_day_1388 ?_
  refine ij_lcmp_ne C 1397 dL_day_1389 dL_day_1390 (by decide) ⟨by omega, by omega⟩ ⟨by omega, by omega⟩ (fun h => False.elim (by omega)) (fun _ => ?_)
  refine ij_iconst C dL_day_1393 ?_
  refine zj_goto C 1398 dL_day_1394 (by decide) ?_
  refine zj_dropX [IA cy qw 20 fw, LA cy qn 20 fn2, LA cy qs 20 fs, LA cy qb 6 fb3, LA cy qp 6 fp2, LA cy qu 6 fu3, LA cy qa 8 fa3] _ ?_
  exact hret _ _ (some (.int (jI 1))) _ ⟨rfl, _, _, _, hG1, hO1, rfl⟩ (zOk_z (Or.inr rfl)) dL_day_1398
