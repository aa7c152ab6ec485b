/-! act, the whole. Written by wip/p26/law24.py -/
section CMX
variable {E : zE} {cc : ByteArray} {nL : Nat} {R : Room} {cy : Nat → ClassId} {l : Launch} {D : va_G} {k n : Nat} {pc : Nat} {L : List (Nat × Value)} {st : List Value} {x0 x1 x2 d0 d1 p0 p1 h0 h1 : Nat} {a b : Nat → Nat} {hs sl : Nat → Nat → Nat} {T U : zTr} {x : zDd} {z : zPd} {y : zHs} {s : zSl} {Dd c : Int}
set_option maxHeartbeats 4000000 in
set_option maxRecDepth 100000 in
theorem ls_text (C : zO E cc nL "SwingUnitsLaw" R cy l D) (hkn : k ≤ R.cells ∧ n ≤ R.slots) (hR : 10 ≤ R.frames ∧ 290 ≤ R.locals) (hG : GI Dd c T) (hO : LO T z y s) (hD : Dd + 2 ≤ 100000) (hcc : c + 6 ≤ 400) (X : List va_W) (xv yv : Int32) (hroom : (st.map fun v => v.category).sum ≤ 8) (d : decode cc pc = .ok (.invokestatic 106, 3)) (kk : ∀ (T' : zTr) (x' : zDd) (z' : zPd) (y' : zHs), GI (Dd + 1) (c + 6) T' → LO T' z' y' s → zJ E nL k n (X ++ LB cy x0 x1 x2 d0 d1 p0 p1 h0 h1 a b hs sl T' U x' z' y' s).flatten (pc + 3) L (.int (jI 1) :: st)) : zJ E nL k n (X ++ LB cy x0 x1 x2 d0 d1 p0 p1 h0 h1 a b hs sl T U x z y s).flatten pc L (.int yv :: .int xv :: .ref x0 :: st) := by
  refine zj_callMX C X _ (mc := 0) (ms := 0) (st := st) (c_L_text l D cy x0 x1 x2 d0 d1 p0 p1 h0 h1 a b hs sl T U x z y s hG hO hD hcc xv yv) tgv_596 tgv_594 tgv_595 tg_0 hdZ_L_text ⟨rfl, rfl⟩ ⟨Nat.le_trans (Nat.le_of_ble_eq_true rfl) hR.1, Nat.le_trans (Nat.le_of_ble_eq_true rfl) hR.2⟩ hkn rfl rfl hroom d (fun r w h => ?_)
  obtain ⟨rfl, T', x', z', y', g1, g2, rfl⟩ := h
  rw [← List.flatten_append]
  exact kk T' x' z' y' g1 g2
end CMX
section ACTW
variable {E : zE} {cy : Nat → ClassId} {l : Launch} {D : va_G} {x0 x1 x2 d0 d1 p0 p1 h0 h1 : Nat} {a b : Nat → Nat} {hs sl : Nat → Nat → Nat} {T U : zTr} {x : zDd} {z : zPd} {y : zHs} {s : zSl} {Dd c : Int}
set_option maxHeartbeats 4000000 in
set_option maxRecDepth 100000 in
theorem act_sw (C : zO E cL_act 20 "SwingUnitsLaw" rm_act cy l D) (hG : GI Dd c T) (hO : LO T z y s) (hD2 : Dd + 2 ≤ 100000) (hcc : c + 6 ≤ 400) (hret : ∀ (k' n' pc : Nat) (L : List (Nat × Value)) (T' U' : zTr) (x' : zDd) (z' : zPd) (y' : zHs) (s' : zSl), k' ≤ 7 → n' ≤ 86 → GI (Dd + 1) (c + 6) T' → LO T' z' y' s' → decode cL_act pc = .ok (.ireturn, 1) → zJ E 20 k' n' (([] : List va_W) ++ LB cy x0 x1 x2 d0 d1 p0 p1 h0 h1 a b hs sl T' U' x' z' y' s').flatten pc L [.int (jI 1)]) {i : Nat} {hr wh : Int} {xv yv wv : Int32} (hi : i < 6) (hh : 0 ≤ hr ∧ hr ≤ 23) (hwh : (if hr < sI T 0 then dI T else dI T + 1) = wh) (hwr : 0 ≤ wh ∧ wh ≤ 100001) : zJ E 20 0 0 (([] : List va_W) ++ LB cy x0 x1 x2 d0 d1 p0 p1 h0 h1 a b hs sl T U x z y s).flatten 46 [(6, .int (jI (dI T))), (5, .int (jI hr)), (4, .int (jI (i : Int))), (3, .int yv), (2, .int xv), (1, .int wv), (0, .ref x0)] [.int (jI wh)] := by
  have hD : Dd + 1 ≤ 100000 := by omega
  obtain ⟨⟨h1_, h2_, h3_, h4_, h5_⟩, ⟨h6_, h7_⟩, -⟩ := GI_h hG hi
  have ru := (GI_r hG).2.2.2.2.1
  refine zj_istore C (L' := [(7, .int (jI wh)), (6, .int (jI (dI T))), (5, .int (jI hr)), (4, .int (jI (i : Int))), (3, .int yv), (2, .int xv), (1, .int wv), (0, .ref x0)]) dL_act_46 (by decide) rfl ?_
  refine zj_iload_n C dL_act_48 6 rfl ?_
  refine ij_bipush C dL_act_49 (by decide) ?_
  refine ls_up C ⟨Nat.le_of_ble_eq_true rfl, Nat.le_of_ble_eq_true rfl⟩ ⟨Nat.le_of_ble_eq_true rfl, Nat.le_of_ble_eq_true rfl⟩ ⟨by decide, by decide⟩ (Nat.le_of_ble_eq_true rfl) dL_act_51 (fun u_ hu_1 hu_2 => ?_)
  rcases (show u_ = 0 ∨ u_ = 1 ∨ u_ = 2 ∨ u_ = 3 ∨ u_ = 4 ∨ u_ = 5 ∨ u_ = 6 ∨ u_ = 7 ∨ u_ = 8 ∨ u_ = 9 ∨ u_ = 10 ∨ u_ = 11 ∨ u_ = 12 ∨ u_ = 13 ∨ u_ = 14 ∨ u_ = 15 ∨ u_ = 16 by omega) with rfl | rfl | rfl | rfl | rfl | rfl | rfl | rfl | rfl | rfl | rfl | rfl | rfl | rfl | rfl | rfl | rfl
  · skip
    refine zj_tin C 128 dL_act_54 (by decide) (by decide) (off := 74) rfl (by decide) ?_
    show zJ E 20 0 0 (([] : List va_W) ++ LB cy x0 x1 x2 d0 d1 p0 p1 h0 h1 a b hs sl T U x z y s).flatten 128 [(7, .int (jI wh)), (6, .int (jI (dI T))), (5, .int (jI hr)), (4, .int (jI (i : Int))), (3, .int yv), (2, .int xv), (1, .int wv), (0, .ref x0)] []
    refine ij_iconst C dL_act_128 ?_
    refine zj_iload_n C dL_act_129 4 rfl ?_
    refine zj_iload_n C dL_act_130 4 rfl ?_
    refine ij_bipush C dL_act_131 (by decide) ?_
    refine zj_ishr C dL_act_133 (fun v133 => ?_)
    refine ij_iconst C dL_act_134 ?_
    refine ls_up C ⟨Nat.le_of_ble_eq_true rfl, Nat.le_of_ble_eq_true rfl⟩ ⟨Nat.le_of_ble_eq_true rfl, Nat.le_of_ble_eq_true rfl⟩ ⟨by decide, by decide⟩ (Nat.le_of_ble_eq_true rfl) dL_act_135 (fun u11_ hu11_1 hu11_2 => ?_)
    refine ij_if_ne C 146 dL_act_138 (by decide) ⟨by omega, by omega⟩ (fun hb => ?_) (fun hb => ?_)
    · skip
      refine ij_sipush C dL_act_146 (by decide) ?_
      refine ls_up C ⟨Nat.le_of_ble_eq_true rfl, Nat.le_of_ble_eq_true rfl⟩ ⟨Nat.le_of_ble_eq_true rfl, Nat.le_of_ble_eq_true rfl⟩ ⟨by decide, by decide⟩ (Nat.le_of_ble_eq_true rfl) dL_act_149 (fun u12_ hu12_1 hu12_2 => ?_)
      refine ij_iadd C dL_act_152 ?_
      refine zj_istore C (L' := [(8, .int (jI (1 + u12_))), (7, .int (jI wh)), (6, .int (jI (dI T))), (5, .int (jI hr)), (4, .int (jI (i : Int))), (3, .int yv), (2, .int xv), (1, .int wv), (0, .ref x0)]) dL_act_153 (by decide) rfl ?_
      refine zj_sub (L' := [(8, .int (jI (1 + u12_))), (7, .int (jI wh)), (6, .int (jI (dI T))), (5, .int (jI hr)), (4, .int (jI (i : Int))), (3, .int yv), (2, .int xv), (0, .ref x0)]) [0, 1, 2, 3, 4, 5, 6, 8] rfl ?_
      exact act_buy C hG hO hD hcc hret hi hh hwh hwr ⟨by omega, by omega⟩
    · skip
      refine zj_ldc C dL_act_141 tgv_372 ?_
      refine ij_i 100000 (by decide) ?_
      refine zj_goto C 149 dL_act_143 (by decide) ?_
      refine ls_up C ⟨Nat.le_of_ble_eq_true rfl, Nat.le_of_ble_eq_true rfl⟩ ⟨Nat.le_of_ble_eq_true rfl, Nat.le_of_ble_eq_true rfl⟩ ⟨by decide, by decide⟩ (Nat.le_of_ble_eq_true rfl) dL_act_149 (fun u13_ hu13_1 hu13_2 => ?_)
      refine ij_iadd C dL_act_152 ?_
      refine zj_istore C (L' := [(8, .int (jI (1 + u13_))), (7, .int (jI wh)), (6, .int (jI (dI T))), (5, .int (jI hr)), (4, .int (jI (i : Int))), (3, .int yv), (2, .int xv), (1, .int wv), (0, .ref x0)]) dL_act_153 (by decide) rfl ?_
      refine zj_sub (L' := [(8, .int (jI (1 + u13_))), (7, .int (jI wh)), (6, .int (jI (dI T))), (5, .int (jI hr)), (4, .int (jI (i : Int))), (3, .int yv), (2, .int xv), (0, .ref x0)]) [0, 1, 2, 3, 4, 5, 6, 8] rfl ?_
      exact act_buy C hG hO hD hcc hret hi hh hwh hwr ⟨by omega, by omega⟩
  · skip
    refine zj_tin C 128 dL_act_54 (by decide) (by decide) (off := 74) rfl (by decide) ?_
    show zJ E 20 0 0 (([] : List va_W) ++ LB cy x0 x1 x2 d0 d1 p0 p1 h0 h1 a b hs sl T U x z y s).flatten 128 [(7, .int (jI wh)), (6, .int (jI (dI T))), (5, .int (jI hr)), (4, .int (jI (i : Int))), (3, .int yv), (2, .int xv), (1, .int wv), (0, .ref x0)] []
    refine ij_iconst C dL_act_128 ?_
    refine zj_iload_n C dL_act_129 4 rfl ?_
    refine zj_iload_n C dL_act_130 4 rfl ?_
    refine ij_bipush C dL_act_131 (by decide) ?_
    refine zj_ishr C dL_act_133 (fun v133 => ?_)
    refine ij_iconst C dL_act_134 ?_
    refine ls_up C ⟨Nat.le_of_ble_eq_true rfl, Nat.le_of_ble_eq_true rfl⟩ ⟨Nat.le_of_ble_eq_true rfl, Nat.le_of_ble_eq_true rfl⟩ ⟨by decide, by decide⟩ (Nat.le_of_ble_eq_true rfl) dL_act_135 (fun u11_ hu11_1 hu11_2 => ?_)
    refine ij_if_ne C 146 dL_act_138 (by decide) ⟨by omega, by omega⟩ (fun hb => ?_) (fun hb => ?_)
    · skip
      refine ij_sipush C dL_act_146 (by decide) ?_
      refine ls_up C ⟨Nat.le_of_ble_eq_true rfl, Nat.le_of_ble_eq_true rfl⟩ ⟨Nat.le_of_ble_eq_true rfl, Nat.le_of_ble_eq_true rfl⟩ ⟨by decide, by decide⟩ (Nat.le_of_ble_eq_true rfl) dL_act_149 (fun u12_ hu12_1 hu12_2 => ?_)
      refine ij_iadd C dL_act_152 ?_
      refine zj_istore C (L' := [(8, .int (jI (1 + u12_))), (7, .int (jI wh)), (6, .int (jI (dI T))), (5, .int (jI hr)), (4, .int (jI (i : Int))), (3, .int yv), (2, .int xv), (1, .int wv), (0, .ref x0)]) dL_act_153 (by decide) rfl ?_
      refine zj_sub (L' := [(8, .int (jI (1 + u12_))), (7, .int (jI wh)), (6, .int (jI (dI T))), (5, .int (jI hr)), (4, .int (jI (i : Int))), (3, .int yv), (2, .int xv), (0, .ref x0)]) [0, 1, 2, 3, 4, 5, 6, 8] rfl ?_
      exact act_buy C hG hO hD hcc hret hi hh hwh hwr ⟨by omega, by omega⟩
    · skip
      refine zj_ldc C dL_act_141 tgv_372 ?_
      refine ij_i 100000 (by decide) ?_
      refine zj_goto C 149 dL_act_143 (by decide) ?_
      refine ls_up C ⟨Nat.le_of_ble_eq_true rfl, Nat.le_of_ble_eq_true rfl⟩ ⟨Nat.le_of_ble_eq_true rfl, Nat.le_of_ble_eq_true rfl⟩ ⟨by decide, by decide⟩ (Nat.le_of_ble_eq_true rfl) dL_act_149 (fun u13_ hu13_1 hu13_2 => ?_)
      refine ij_iadd C dL_act_152 ?_
      refine zj_istore C (L' := [(8, .int (jI (1 + u13_))), (7, .int (jI wh)), (6, .int (jI (dI T))), (5, .int (jI hr)), (4, .int (jI (i : Int))), (3, .int yv), (2, .int xv), (1, .int wv), (0, .ref x0)]) dL_act_153 (by decide) rfl ?_
      refine zj_sub (L' := [(8, .int (jI (1 + u13_))), (7, .int (jI wh)), (6, .int (jI (dI T))), (5, .int (jI hr)), (4, .int (jI (i : Int))), (3, .int yv), (2, .int xv), (0, .ref x0)]) [0, 1, 2, 3, 4, 5, 6, 8] rfl ?_
      exact act_buy C hG hO hD hcc hret hi hh hwh hwr ⟨by omega, by omega⟩
  · skip
    refine zj_tin C 128 dL_act_54 (by decide) (by decide) (off := 74) rfl (by decide) ?_
    show zJ E 20 0 0 (([] : List va_W) ++ LB cy x0 x1 x2 d0 d1 p0 p1 h0 h1 a b hs sl T U x z y s).flatten 128 [(7, .int (jI wh)), (6, .int (jI (dI T))), (5, .int (jI hr)), (4, .int (jI (i : Int))), (3, .int yv), (2, .int xv), (1, .int wv), (0, .ref x0)] []
    refine ij_iconst C dL_act_128 ?_
    refine zj_iload_n C dL_act_129 4 rfl ?_
    refine zj_iload_n C dL_act_130 4 rfl ?_
    refine ij_bipush C dL_act_131 (by decide) ?_
    refine zj_ishr C dL_act_133 (fun v133 => ?_)
    refine ij_iconst C dL_act_134 ?_
    refine ls_up C ⟨Nat.le_of_ble_eq_true rfl, Nat.le_of_ble_eq_true rfl⟩ ⟨Nat.le_of_ble_eq_true rfl, Nat.le_of_ble_eq_true rfl⟩ ⟨by decide, by decide⟩ (Nat.le_of_ble_eq_true rfl) dL_act_135 (fun u11_ hu11_1 hu11_2 => ?_)
    refine ij_if_ne C 146 dL_act_138 (by decide) ⟨by omega, by omega⟩ (fun hb => ?_) (fun hb => ?_)
    · skip
      refine ij_sipush C dL_act_146 (by decide) ?_
      refine ls_up C ⟨Nat.le_of_ble_eq_true rfl, Nat.le_of_ble_eq_true rfl⟩ ⟨Nat.le_of_ble_eq_true rfl, Nat.le_of_ble_eq_true rfl⟩ ⟨by decide, by decide⟩ (Nat.le_of_ble_eq_true rfl) dL_act_149 (fun u12_ hu12_1 hu12_2 => ?_)
      refine ij_iadd C dL_act_152 ?_
      refine zj_istore C (L' := [(8, .int (jI (1 + u12_))), (7, .int (jI wh)), (6, .int (jI (dI T))), (5, .int (jI hr)), (4, .int (jI (i : Int))), (3, .int yv), (2, .int xv), (1, .int wv), (0, .ref x0)]) dL_act_153 (by decide) rfl ?_
      refine zj_sub (L' := [(8, .int (jI (1 + u12_))), (7, .int (jI wh)), (6, .int (jI (dI T))), (5, .int (jI hr)), (4, .int (jI (i : Int))), (3, .int yv), (2, .int xv), (0, .ref x0)]) [0, 1, 2, 3, 4, 5, 6, 8] rfl ?_
      exact act_buy C hG hO hD hcc hret hi hh hwh hwr ⟨by omega, by omega⟩
    · skip
      refine zj_ldc C dL_act_141 tgv_372 ?_
      refine ij_i 100000 (by decide) ?_
      refine zj_goto C 149 dL_act_143 (by decide) ?_
      refine ls_up C ⟨Nat.le_of_ble_eq_true rfl, Nat.le_of_ble_eq_true rfl⟩ ⟨Nat.le_of_ble_eq_true rfl, Nat.le_of_ble_eq_true rfl⟩ ⟨by decide, by decide⟩ (Nat.le_of_ble_eq_true rfl) dL_act_149 (fun u13_ hu13_1 hu13_2 => ?_)
      refine ij_iadd C dL_act_152 ?_
      refine zj_istore C (L' := [(8, .int (jI (1 + u13_))), (7, .int (jI wh)), (6, .int (jI (dI T))), (5, .int (jI hr)), (4, .int (jI (i : Int))), (3, .int yv), (2, .int xv), (1, .int wv), (0, .ref x0)]) dL_act_153 (by decide) rfl ?_
      refine zj_sub (L' := [(8, .int (jI (1 + u13_))), (7, .int (jI wh)), (6, .int (jI (dI T))), (5, .int (jI hr)), (4, .int (jI (i : Int))), (3, .int yv), (2, .int xv), (0, .ref x0)]) [0, 1, 2, 3, 4, 5, 6, 8] rfl ?_
      exact act_buy C hG hO hD hcc hret hi hh hwh hwr ⟨by omega, by omega⟩
  · skip
    refine zj_tin C 239 dL_act_54 (by decide) (by decide) (off := 185) rfl (by decide) ?_
    show zJ E 20 0 0 (([] : List va_W) ++ LB cy x0 x1 x2 d0 d1 p0 p1 h0 h1 a b hs sl T U x z y s).flatten 239 [(7, .int (jI wh)), (6, .int (jI (dI T))), (5, .int (jI hr)), (4, .int (jI (i : Int))), (3, .int yv), (2, .int xv), (1, .int wv), (0, .ref x0)] []
    refine zj_aload_n C dL_act_239 7 rfl ?_
    refine zj_iload C dL_act_240 3 rfl ?_
    refine ls_free C ⟨Nat.le_of_ble_eq_true rfl, Nat.le_of_ble_eq_true rfl⟩ ⟨Nat.le_of_ble_eq_true rfl, Nat.le_of_ble_eq_true rfl⟩ hG hO ([] : List va_W) i hi (Nat.le_of_ble_eq_true rfl) dL_act_242 ?_
    refine zj_istore C (L' := [(8, .int (jI (uU T i - hS (gTr_le T) i))), (7, .int (jI wh)), (6, .int (jI (dI T))), (5, .int (jI hr)), (4, .int (jI (i : Int))), (3, .int yv), (2, .int xv), (1, .int wv), (0, .ref x0)]) dL_act_245 (by decide) rfl ?_
    refine ij_iconst C dL_act_247 ?_
    refine zj_iload_n C dL_act_248 5 rfl ?_
    refine zj_iload C dL_act_249 0 rfl ?_
    refine zj_iload C dL_act_251 0 rfl ?_
    refine ij_iconst C dL_act_253 ?_
    refine ij_icmp_le C 261 dL_act_254 (by decide) ⟨by omega, by omega⟩ ⟨by decide, by decide⟩ (fun hb => ?_) (fun hb => ?_)
    · skip
      refine ij_iconst C dL_act_261 ?_
      refine ij_iadd C dL_act_262 ?_
      refine ls_up C ⟨Nat.le_of_ble_eq_true rfl, Nat.le_of_ble_eq_true rfl⟩ ⟨Nat.le_of_ble_eq_true rfl, Nat.le_of_ble_eq_true rfl⟩ ⟨by omega, by omega⟩ (Nat.le_of_ble_eq_true rfl) dL_act_263 (fun u11_ hu11_1 hu11_2 => ?_)
      refine ij_iadd C dL_act_266 ?_
      refine zj_istore C (L' := [(9, .int (jI (1 + u11_))), (8, .int (jI (uU T i - hS (gTr_le T) i))), (7, .int (jI wh)), (6, .int (jI (dI T))), (5, .int (jI hr)), (4, .int (jI (i : Int))), (3, .int yv), (2, .int xv), (1, .int wv), (0, .ref x0)]) dL_act_267 (by decide) rfl ?_
      refine zj_sub (L' := [(9, .int (jI (1 + u11_))), (8, .int (jI (uU T i - hS (gTr_le T) i))), (7, .int (jI wh)), (6, .int (jI (dI T))), (5, .int (jI hr)), (4, .int (jI (i : Int))), (3, .int yv), (2, .int xv), (0, .ref x0)]) [0, 1, 2, 3, 4, 5, 6, 7, 9] rfl ?_
      exact act_leave C hG hO hD hcc hret hi hh hwh hwr ⟨by omega, by omega⟩
    · skip
      refine ij_iconst C dL_act_257 ?_
      refine zj_goto C 262 dL_act_258 (by decide) ?_
      refine ij_iadd C dL_act_262 ?_
      refine ij_ei (uU T i - hS (gTr_le T) i) (by omega) ?_
      refine ls_up C ⟨Nat.le_of_ble_eq_true rfl, Nat.le_of_ble_eq_true rfl⟩ ⟨Nat.le_of_ble_eq_true rfl, Nat.le_of_ble_eq_true rfl⟩ ⟨by omega, by omega⟩ (Nat.le_of_ble_eq_true rfl) dL_act_263 (fun u12_ hu12_1 hu12_2 => ?_)
      refine ij_iadd C dL_act_266 ?_
      refine zj_istore C (L' := [(9, .int (jI (1 + u12_))), (8, .int (jI (uU T i - hS (gTr_le T) i))), (7, .int (jI wh)), (6, .int (jI (dI T))), (5, .int (jI hr)), (4, .int (jI (i : Int))), (3, .int yv), (2, .int xv), (1, .int wv), (0, .ref x0)]) dL_act_267 (by decide) rfl ?_
      refine zj_sub (L' := [(9, .int (jI (1 + u12_))), (8, .int (jI (uU T i - hS (gTr_le T) i))), (7, .int (jI wh)), (6, .int (jI (dI T))), (5, .int (jI hr)), (4, .int (jI (i : Int))), (3, .int yv), (2, .int xv), (0, .ref x0)]) [0, 1, 2, 3, 4, 5, 6, 7, 9] rfl ?_
      exact act_leave C hG hO hD hcc hret hi hh hwh hwr ⟨by omega, by omega⟩
  · skip
    refine zj_tin C 239 dL_act_54 (by decide) (by decide) (off := 185) rfl (by decide) ?_
    show zJ E 20 0 0 (([] : List va_W) ++ LB cy x0 x1 x2 d0 d1 p0 p1 h0 h1 a b hs sl T U x z y s).flatten 239 [(7, .int (jI wh)), (6, .int (jI (dI T))), (5, .int (jI hr)), (4, .int (jI (i : Int))), (3, .int yv), (2, .int xv), (1, .int wv), (0, .ref x0)] []
    refine zj_aload_n C dL_act_239 7 rfl ?_
    refine zj_iload C dL_act_240 3 rfl ?_
    refine ls_free C ⟨Nat.le_of_ble_eq_true rfl, Nat.le_of_ble_eq_true rfl⟩ ⟨Nat.le_of_ble_eq_true rfl, Nat.le_of_ble_eq_true rfl⟩ hG hO ([] : List va_W) i hi (Nat.le_of_ble_eq_true rfl) dL_act_242 ?_
    refine zj_istore C (L' := [(8, .int (jI (uU T i - hS (gTr_le T) i))), (7, .int (jI wh)), (6, .int (jI (dI T))), (5, .int (jI hr)), (4, .int (jI (i : Int))), (3, .int yv), (2, .int xv), (1, .int wv), (0, .ref x0)]) dL_act_245 (by decide) rfl ?_
    refine ij_iconst C dL_act_247 ?_
    refine zj_iload_n C dL_act_248 5 rfl ?_
    refine zj_iload C dL_act_249 0 rfl ?_
    refine zj_iload C dL_act_251 0 rfl ?_
    refine ij_iconst C dL_act_253 ?_
    refine ij_icmp_le C 261 dL_act_254 (by decide) ⟨by omega, by omega⟩ ⟨by decide, by decide⟩ (fun hb => ?_) (fun hb => ?_)
    · skip
      refine ij_iconst C dL_act_261 ?_
      refine ij_iadd C dL_act_262 ?_
      refine ls_up C ⟨Nat.le_of_ble_eq_true rfl, Nat.le_of_ble_eq_true rfl⟩ ⟨Nat.le_of_ble_eq_true rfl, Nat.le_of_ble_eq_true rfl⟩ ⟨by omega, by omega⟩ (Nat.le_of_ble_eq_true rfl) dL_act_263 (fun u11_ hu11_1 hu11_2 => ?_)
      refine ij_iadd C dL_act_266 ?_
      refine zj_istore C (L' := [(9, .int (jI (1 + u11_))), (8, .int (jI (uU T i - hS (gTr_le T) i))), (7, .int (jI wh)), (6, .int (jI (dI T))), (5, .int (jI hr)), (4, .int (jI (i : Int))), (3, .int yv), (2, .int xv), (1, .int wv), (0, .ref x0)]) dL_act_267 (by decide) rfl ?_
      refine zj_sub (L' := [(9, .int (jI (1 + u11_))), (8, .int (jI (uU T i - hS (gTr_le T) i))), (7, .int (jI wh)), (6, .int (jI (dI T))), (5, .int (jI hr)), (4, .int (jI (i : Int))), (3, .int yv), (2, .int xv), (0, .ref x0)]) [0, 1, 2, 3, 4, 5, 6, 7, 9] rfl ?_
      exact act_leave C hG hO hD hcc hret hi hh hwh hwr ⟨by omega, by omega⟩
    · skip
      refine ij_iconst C dL_act_257 ?_
      refine zj_goto C 262 dL_act_258 (by decide) ?_
      refine ij_iadd C dL_act_262 ?_
      refine ij_ei (uU T i - hS (gTr_le T) i) (by omega) ?_
      refine ls_up C ⟨Nat.le_of_ble_eq_true rfl, Nat.le_of_ble_eq_true rfl⟩ ⟨Nat.le_of_ble_eq_true rfl, Nat.le_of_ble_eq_true rfl⟩ ⟨by omega, by omega⟩ (Nat.le_of_ble_eq_true rfl) dL_act_263 (fun u12_ hu12_1 hu12_2 => ?_)
      refine ij_iadd C dL_act_266 ?_
      refine zj_istore C (L' := [(9, .int (jI (1 + u12_))), (8, .int (jI (uU T i - hS (gTr_le T) i))), (7, .int (jI wh)), (6, .int (jI (dI T))), (5, .int (jI hr)), (4, .int (jI (i : Int))), (3, .int yv), (2, .int xv), (1, .int wv), (0, .ref x0)]) dL_act_267 (by decide) rfl ?_
      refine zj_sub (L' := [(9, .int (jI (1 + u12_))), (8, .int (jI (uU T i - hS (gTr_le T) i))), (7, .int (jI wh)), (6, .int (jI (dI T))), (5, .int (jI hr)), (4, .int (jI (i : Int))), (3, .int yv), (2, .int xv), (0, .ref x0)]) [0, 1, 2, 3, 4, 5, 6, 7, 9] rfl ?_
      exact act_leave C hG hO hD hcc hret hi hh hwh hwr ⟨by omega, by omega⟩
  · skip
    refine zj_tin C 239 dL_act_54 (by decide) (by decide) (off := 185) rfl (by decide) ?_
    show zJ E 20 0 0 (([] : List va_W) ++ LB cy x0 x1 x2 d0 d1 p0 p1 h0 h1 a b hs sl T U x z y s).flatten 239 [(7, .int (jI wh)), (6, .int (jI (dI T))), (5, .int (jI hr)), (4, .int (jI (i : Int))), (3, .int yv), (2, .int xv), (1, .int wv), (0, .ref x0)] []
    refine zj_aload_n C dL_act_239 7 rfl ?_
    refine zj_iload C dL_act_240 3 rfl ?_
    refine ls_free C ⟨Nat.le_of_ble_eq_true rfl, Nat.le_of_ble_eq_true rfl⟩ ⟨Nat.le_of_ble_eq_true rfl, Nat.le_of_ble_eq_true rfl⟩ hG hO ([] : List va_W) i hi (Nat.le_of_ble_eq_true rfl) dL_act_242 ?_
    refine zj_istore C (L' := [(8, .int (jI (uU T i - hS (gTr_le T) i))), (7, .int (jI wh)), (6, .int (jI (dI T))), (5, .int (jI hr)), (4, .int (jI (i : Int))), (3, .int yv), (2, .int xv), (1, .int wv), (0, .ref x0)]) dL_act_245 (by decide) rfl ?_
    refine ij_iconst C dL_act_247 ?_
    refine zj_iload_n C dL_act_248 5 rfl ?_
    refine zj_iload C dL_act_249 0 rfl ?_
    refine zj_iload C dL_act_251 0 rfl ?_
    refine ij_iconst C dL_act_253 ?_
    refine ij_icmp_le C 261 dL_act_254 (by decide) ⟨by omega, by omega⟩ ⟨by decide, by decide⟩ (fun hb => ?_) (fun hb => ?_)
    · skip
      refine ij_iconst C dL_act_261 ?_
      refine ij_iadd C dL_act_262 ?_
      refine ls_up C ⟨Nat.le_of_ble_eq_true rfl, Nat.le_of_ble_eq_true rfl⟩ ⟨Nat.le_of_ble_eq_true rfl, Nat.le_of_ble_eq_true rfl⟩ ⟨by omega, by omega⟩ (Nat.le_of_ble_eq_true rfl) dL_act_263 (fun u11_ hu11_1 hu11_2 => ?_)
      refine ij_iadd C dL_act_266 ?_
      refine zj_istore C (L' := [(9, .int (jI (1 + u11_))), (8, .int (jI (uU T i - hS (gTr_le T) i))), (7, .int (jI wh)), (6, .int (jI (dI T))), (5, .int (jI hr)), (4, .int (jI (i : Int))), (3, .int yv), (2, .int xv), (1, .int wv), (0, .ref x0)]) dL_act_267 (by decide) rfl ?_
      refine zj_sub (L' := [(9, .int (jI (1 + u11_))), (8, .int (jI (uU T i - hS (gTr_le T) i))), (7, .int (jI wh)), (6, .int (jI (dI T))), (5, .int (jI hr)), (4, .int (jI (i : Int))), (3, .int yv), (2, .int xv), (0, .ref x0)]) [0, 1, 2, 3, 4, 5, 6, 7, 9] rfl ?_
      exact act_leave C hG hO hD hcc hret hi hh hwh hwr ⟨by omega, by omega⟩
    · skip
      refine ij_iconst C dL_act_257 ?_
      refine zj_goto C 262 dL_act_258 (by decide) ?_
      refine ij_iadd C dL_act_262 ?_
      refine ij_ei (uU T i - hS (gTr_le T) i) (by omega) ?_
      refine ls_up C ⟨Nat.le_of_ble_eq_true rfl, Nat.le_of_ble_eq_true rfl⟩ ⟨Nat.le_of_ble_eq_true rfl, Nat.le_of_ble_eq_true rfl⟩ ⟨by omega, by omega⟩ (Nat.le_of_ble_eq_true rfl) dL_act_263 (fun u12_ hu12_1 hu12_2 => ?_)
      refine ij_iadd C dL_act_266 ?_
      refine zj_istore C (L' := [(9, .int (jI (1 + u12_))), (8, .int (jI (uU T i - hS (gTr_le T) i))), (7, .int (jI wh)), (6, .int (jI (dI T))), (5, .int (jI hr)), (4, .int (jI (i : Int))), (3, .int yv), (2, .int xv), (1, .int wv), (0, .ref x0)]) dL_act_267 (by decide) rfl ?_
      refine zj_sub (L' := [(9, .int (jI (1 + u12_))), (8, .int (jI (uU T i - hS (gTr_le T) i))), (7, .int (jI wh)), (6, .int (jI (dI T))), (5, .int (jI hr)), (4, .int (jI (i : Int))), (3, .int yv), (2, .int xv), (0, .ref x0)]) [0, 1, 2, 3, 4, 5, 6, 7, 9] rfl ?_
      exact act_leave C hG hO hD hcc hret hi hh hwh hwr ⟨by omega, by omega⟩
  · skip
    refine zj_tin C 417 dL_act_54 (by decide) (by decide) (off := 363) rfl (by decide) ?_
    show zJ E 20 0 0 (([] : List va_W) ++ LB cy x0 x1 x2 d0 d1 p0 p1 h0 h1 a b hs sl T U x z y s).flatten 417 [(7, .int (jI wh)), (6, .int (jI (dI T))), (5, .int (jI hr)), (4, .int (jI (i : Int))), (3, .int yv), (2, .int xv), (1, .int wv), (0, .ref x0)] []
    refine zj_aload_n C dL_act_417 7 rfl ?_
    refine zj_iload C dL_act_418 3 rfl ?_
    refine ls_free C ⟨Nat.le_of_ble_eq_true rfl, Nat.le_of_ble_eq_true rfl⟩ ⟨Nat.le_of_ble_eq_true rfl, Nat.le_of_ble_eq_true rfl⟩ hG hO ([] : List va_W) i hi (Nat.le_of_ble_eq_true rfl) dL_act_420 ?_
    refine zj_istore C (L' := [(8, .int (jI (uU T i - hS (gTr_le T) i))), (7, .int (jI wh)), (6, .int (jI (dI T))), (5, .int (jI hr)), (4, .int (jI (i : Int))), (3, .int yv), (2, .int xv), (1, .int wv), (0, .ref x0)]) dL_act_423 (by decide) rfl ?_
    refine ij_iconst C dL_act_425 ?_
    refine zj_iload_n C dL_act_426 5 rfl ?_
    refine zj_iload C dL_act_427 0 rfl ?_
    refine ij_iconst C dL_act_429 ?_
    refine ij_iadd C dL_act_430 ?_
    refine ls_up C ⟨Nat.le_of_ble_eq_true rfl, Nat.le_of_ble_eq_true rfl⟩ ⟨Nat.le_of_ble_eq_true rfl, Nat.le_of_ble_eq_true rfl⟩ ⟨by omega, by omega⟩ (Nat.le_of_ble_eq_true rfl) dL_act_431 (fun u11_ hu11_1 hu11_2 => ?_)
    refine ij_iadd C dL_act_434 ?_
    refine zj_istore C (L' := [(9, .int (jI (1 + u11_))), (8, .int (jI (uU T i - hS (gTr_le T) i))), (7, .int (jI wh)), (6, .int (jI (dI T))), (5, .int (jI hr)), (4, .int (jI (i : Int))), (3, .int yv), (2, .int xv), (1, .int wv), (0, .ref x0)]) dL_act_435 (by decide) rfl ?_
    refine zj_sub (L' := [(9, .int (jI (1 + u11_))), (8, .int (jI (uU T i - hS (gTr_le T) i))), (7, .int (jI wh)), (6, .int (jI (dI T))), (5, .int (jI hr)), (4, .int (jI (i : Int))), (3, .int yv), (2, .int xv), (0, .ref x0)]) [0, 1, 2, 3, 4, 5, 6, 7, 9] rfl ?_
    exact act_kind C hG hO hD hcc hret hi hh hwh hwr ⟨by omega, by omega⟩
  · skip
    refine zj_tin C 683 dL_act_54 (by decide) (by decide) (off := 629) rfl (by decide) ?_
    show zJ E 20 0 0 (([] : List va_W) ++ LB cy x0 x1 x2 d0 d1 p0 p1 h0 h1 a b hs sl T U x z y s).flatten 683 [(7, .int (jI wh)), (6, .int (jI (dI T))), (5, .int (jI hr)), (4, .int (jI (i : Int))), (3, .int yv), (2, .int xv), (1, .int wv), (0, .ref x0)] []
    refine ij_iconst C dL_act_683 ?_
    refine zj_iload_n C dL_act_684 4 rfl ?_
    refine zj_iload_n C dL_act_685 4 rfl ?_
    refine ij_bipush C dL_act_686 (by decide) ?_
    refine zj_ishr C dL_act_688 (fun v688 => ?_)
    refine ij_iconst C dL_act_689 ?_
    refine ls_up C ⟨Nat.le_of_ble_eq_true rfl, Nat.le_of_ble_eq_true rfl⟩ ⟨Nat.le_of_ble_eq_true rfl, Nat.le_of_ble_eq_true rfl⟩ ⟨by decide, by decide⟩ (Nat.le_of_ble_eq_true rfl) dL_act_690 (fun u11_ hu11_1 hu11_2 => ?_)
    refine ij_if_ne C 702 dL_act_693 (by decide) ⟨by omega, by omega⟩ (fun hb => ?_) (fun hb => ?_)
    · skip
      refine ij_sipush C dL_act_702 (by decide) ?_
      refine ls_up C ⟨Nat.le_of_ble_eq_true rfl, Nat.le_of_ble_eq_true rfl⟩ ⟨Nat.le_of_ble_eq_true rfl, Nat.le_of_ble_eq_true rfl⟩ ⟨by decide, by decide⟩ (Nat.le_of_ble_eq_true rfl) dL_act_705 (fun u12_ hu12_1 hu12_2 => ?_)
      refine ij_iadd C dL_act_708 ?_
      refine zj_istore C (L' := [(8, .int (jI (1 + u12_))), (7, .int (jI wh)), (6, .int (jI (dI T))), (5, .int (jI hr)), (4, .int (jI (i : Int))), (3, .int yv), (2, .int xv), (1, .int wv), (0, .ref x0)]) dL_act_709 (by decide) rfl ?_
      refine zj_sub (L' := [(8, .int (jI (1 + u12_))), (7, .int (jI wh)), (6, .int (jI (dI T))), (5, .int (jI hr)), (4, .int (jI (i : Int))), (3, .int yv), (2, .int xv), (0, .ref x0)]) [0, 1, 2, 3, 4, 5, 6, 8] rfl ?_
      exact act_quote C hG hO hD hcc hret hi hh hwh hwr ⟨by omega, by omega⟩
    · skip
      refine ij_sipush C dL_act_696 (by decide) ?_
      refine zj_goto C 705 dL_act_699 (by decide) ?_
      refine ls_up C ⟨Nat.le_of_ble_eq_true rfl, Nat.le_of_ble_eq_true rfl⟩ ⟨Nat.le_of_ble_eq_true rfl, Nat.le_of_ble_eq_true rfl⟩ ⟨by decide, by decide⟩ (Nat.le_of_ble_eq_true rfl) dL_act_705 (fun u13_ hu13_1 hu13_2 => ?_)
      refine ij_iadd C dL_act_708 ?_
      refine zj_istore C (L' := [(8, .int (jI (1 + u13_))), (7, .int (jI wh)), (6, .int (jI (dI T))), (5, .int (jI hr)), (4, .int (jI (i : Int))), (3, .int yv), (2, .int xv), (1, .int wv), (0, .ref x0)]) dL_act_709 (by decide) rfl ?_
      refine zj_sub (L' := [(8, .int (jI (1 + u13_))), (7, .int (jI wh)), (6, .int (jI (dI T))), (5, .int (jI hr)), (4, .int (jI (i : Int))), (3, .int yv), (2, .int xv), (0, .ref x0)]) [0, 1, 2, 3, 4, 5, 6, 8] rfl ?_
      exact act_quote C hG hO hD hcc hret hi hh hwh hwr ⟨by omega, by omega⟩
  · skip
    refine zj_tin C 745 dL_act_54 (by decide) (by decide) (off := 691) rfl (by decide) ?_
    show zJ E 20 0 0 (([] : List va_W) ++ LB cy x0 x1 x2 d0 d1 p0 p1 h0 h1 a b hs sl T U x z y s).flatten 745 [(7, .int (jI wh)), (6, .int (jI (dI T))), (5, .int (jI hr)), (4, .int (jI (i : Int))), (3, .int yv), (2, .int xv), (1, .int wv), (0, .ref x0)] []
    refine zj_iload_n C dL_act_745 4 rfl ?_
    refine ij_iconst C dL_act_746 ?_
    refine ls_up C ⟨Nat.le_of_ble_eq_true rfl, Nat.le_of_ble_eq_true rfl⟩ ⟨Nat.le_of_ble_eq_true rfl, Nat.le_of_ble_eq_true rfl⟩ ⟨by decide, by decide⟩ (Nat.le_of_ble_eq_true rfl) dL_act_747 (fun u11_ hu11_1 hu11_2 => ?_)
    refine ij_if_ne C 766 dL_act_750 (by decide) ⟨by omega, by omega⟩ (fun hb => ?_) (fun hb => ?_)
    · skip
      refine ij_iconst C dL_act_766 ?_
      refine zj_iload_n C dL_act_767 4 rfl ?_
      refine ij_iconst C dL_act_768 ?_
      refine zj_ishr C dL_act_769 (fun v769 => ?_)
      refine ij_bipush C dL_act_770 (by decide) ?_
      refine ls_up C ⟨Nat.le_of_ble_eq_true rfl, Nat.le_of_ble_eq_true rfl⟩ ⟨Nat.le_of_ble_eq_true rfl, Nat.le_of_ble_eq_true rfl⟩ ⟨by decide, by decide⟩ (Nat.le_of_ble_eq_true rfl) dL_act_772 (fun u12_ hu12_1 hu12_2 => ?_)
      refine ij_isub C dL_act_775 ?_
      refine zj_istore C (L' := [(8, .int (jI ((-1) - u12_))), (7, .int (jI wh)), (6, .int (jI (dI T))), (5, .int (jI hr)), (4, .int (jI (i : Int))), (3, .int yv), (2, .int xv), (1, .int wv), (0, .ref x0)]) dL_act_776 (by decide) rfl ?_
      refine zj_sub (L' := [(8, .int (jI ((-1) - u12_))), (7, .int (jI wh)), (6, .int (jI (dI T))), (5, .int (jI hr)), (4, .int (jI (i : Int))), (3, .int yv), (2, .int xv), (0, .ref x0)]) [0, 1, 2, 3, 4, 5, 6, 8] rfl ?_
      exact act_trade C hG hO hD hcc hret hi hh hwh hwr ⟨by omega, by omega⟩ (by omega)
    · skip
      refine ij_iconst C dL_act_753 ?_
      refine zj_iload_n C dL_act_754 4 rfl ?_
      refine ij_iconst C dL_act_755 ?_
      refine zj_ishr C dL_act_756 (fun v756 => ?_)
      refine ij_bipush C dL_act_757 (by decide) ?_
      refine ls_up C ⟨Nat.le_of_ble_eq_true rfl, Nat.le_of_ble_eq_true rfl⟩ ⟨Nat.le_of_ble_eq_true rfl, Nat.le_of_ble_eq_true rfl⟩ ⟨by decide, by decide⟩ (Nat.le_of_ble_eq_true rfl) dL_act_759 (fun u13_ hu13_1 hu13_2 => ?_)
      refine ij_iadd C dL_act_762 ?_
      refine zj_goto C 776 dL_act_763 (by decide) ?_
      refine zj_istore C (L' := [(8, .int (jI (1 + u13_))), (7, .int (jI wh)), (6, .int (jI (dI T))), (5, .int (jI hr)), (4, .int (jI (i : Int))), (3, .int yv), (2, .int xv), (1, .int wv), (0, .ref x0)]) dL_act_776 (by decide) rfl ?_
      refine zj_sub (L' := [(8, .int (jI (1 + u13_))), (7, .int (jI wh)), (6, .int (jI (dI T))), (5, .int (jI hr)), (4, .int (jI (i : Int))), (3, .int yv), (2, .int xv), (0, .ref x0)]) [0, 1, 2, 3, 4, 5, 6, 8] rfl ?_
      exact act_trade C hG hO hD hcc hret hi hh hwh hwr ⟨by omega, by omega⟩ (by omega)
  · skip
    refine zj_tin C 959 dL_act_54 (by decide) (by decide) (off := 905) rfl (by decide) ?_
    show zJ E 20 0 0 (([] : List va_W) ++ LB cy x0 x1 x2 d0 d1 p0 p1 h0 h1 a b hs sl T U x z y s).flatten 959 [(7, .int (jI wh)), (6, .int (jI (dI T))), (5, .int (jI hr)), (4, .int (jI (i : Int))), (3, .int yv), (2, .int xv), (1, .int wv), (0, .ref x0)] []
    refine zj_aload_n C dL_act_959 7 rfl ?_
    refine ls_day C ⟨Nat.le_of_ble_eq_true rfl, Nat.le_of_ble_eq_true rfl⟩ ⟨Nat.le_of_ble_eq_true rfl, Nat.le_of_ble_eq_true rfl⟩ hG hO hD ([] : List va_W) (Nat.le_of_ble_eq_true rfl) dL_act_960 (fun T1 x1_ y1 hG1 hO1 => ?_)
    exact hret _ _ _ _ _ _ _ _ _ _ (by decide) (by decide) (GI_wk hG1 (by omega) (by omega)) hO1 dL_act_963
  · skip
    refine zj_tin C 959 dL_act_54 (by decide) (by decide) (off := 905) rfl (by decide) ?_
    show zJ E 20 0 0 (([] : List va_W) ++ LB cy x0 x1 x2 d0 d1 p0 p1 h0 h1 a b hs sl T U x z y s).flatten 959 [(7, .int (jI wh)), (6, .int (jI (dI T))), (5, .int (jI hr)), (4, .int (jI (i : Int))), (3, .int yv), (2, .int xv), (1, .int wv), (0, .ref x0)] []
    refine zj_aload_n C dL_act_959 7 rfl ?_
    refine ls_day C ⟨Nat.le_of_ble_eq_true rfl, Nat.le_of_ble_eq_true rfl⟩ ⟨Nat.le_of_ble_eq_true rfl, Nat.le_of_ble_eq_true rfl⟩ hG hO hD ([] : List va_W) (Nat.le_of_ble_eq_true rfl) dL_act_960 (fun T1 x1_ y1 hG1 hO1 => ?_)
    exact hret _ _ _ _ _ _ _ _ _ _ (by decide) (by decide) (GI_wk hG1 (by omega) (by omega)) hO1 dL_act_963
  · skip
    refine zj_tin C 959 dL_act_54 (by decide) (by decide) (off := 905) rfl (by decide) ?_
    show zJ E 20 0 0 (([] : List va_W) ++ LB cy x0 x1 x2 d0 d1 p0 p1 h0 h1 a b hs sl T U x z y s).flatten 959 [(7, .int (jI wh)), (6, .int (jI (dI T))), (5, .int (jI hr)), (4, .int (jI (i : Int))), (3, .int yv), (2, .int xv), (1, .int wv), (0, .ref x0)] []
    refine zj_aload_n C dL_act_959 7 rfl ?_
    refine ls_day C ⟨Nat.le_of_ble_eq_true rfl, Nat.le_of_ble_eq_true rfl⟩ ⟨Nat.le_of_ble_eq_true rfl, Nat.le_of_ble_eq_true rfl⟩ hG hO hD ([] : List va_W) (Nat.le_of_ble_eq_true rfl) dL_act_960 (fun T1 x1_ y1 hG1 hO1 => ?_)
    exact hret _ _ _ _ _ _ _ _ _ _ (by decide) (by decide) (GI_wk hG1 (by omega) (by omega)) hO1 dL_act_963
  · skip
    refine zj_tin C 964 dL_act_54 (by decide) (by decide) (off := 910) rfl (by decide) ?_
    show zJ E 20 0 0 (([] : List va_W) ++ LB cy x0 x1 x2 d0 d1 p0 p1 h0 h1 a b hs sl T U x z y s).flatten 964 [(7, .int (jI wh)), (6, .int (jI (dI T))), (5, .int (jI hr)), (4, .int (jI (i : Int))), (3, .int yv), (2, .int xv), (1, .int wv), (0, .ref x0)] []
    refine ij_iconst C dL_act_964 ?_
    refine zj_iload_n C dL_act_965 4 rfl ?_
    refine ij_sipush C dL_act_966 (by decide) ?_
    refine ls_up C ⟨Nat.le_of_ble_eq_true rfl, Nat.le_of_ble_eq_true rfl⟩ ⟨Nat.le_of_ble_eq_true rfl, Nat.le_of_ble_eq_true rfl⟩ ⟨by decide, by decide⟩ (Nat.le_of_ble_eq_true rfl) dL_act_969 (fun u11_ hu11_1 hu11_2 => ?_)
    refine ij_iadd C dL_act_972 ?_
    refine zj_istore C (L' := [(8, .int (jI (1 + u11_))), (7, .int (jI wh)), (6, .int (jI (dI T))), (5, .int (jI hr)), (4, .int (jI (i : Int))), (3, .int yv), (2, .int xv), (1, .int wv), (0, .ref x0)]) dL_act_973 (by decide) rfl ?_
    refine zj_sub (L' := [(8, .int (jI (1 + u11_))), (7, .int (jI wh)), (6, .int (jI (dI T))), (5, .int (jI hr)), (4, .int (jI (i : Int))), (3, .int yv), (2, .int xv), (0, .ref x0)]) [0, 1, 2, 3, 4, 5, 6, 8] rfl ?_
    exact act_income C hG hO hD hcc hret hi hh hwh hwr ⟨by omega, by omega⟩
  · skip
    refine zj_tin C 1062 dL_act_54 (by decide) (by decide) (off := 1008) rfl (by decide) ?_
    show zJ E 20 0 0 (([] : List va_W) ++ LB cy x0 x1 x2 d0 d1 p0 p1 h0 h1 a b hs sl T U x z y s).flatten 1062 [(7, .int (jI wh)), (6, .int (jI (dI T))), (5, .int (jI hr)), (4, .int (jI (i : Int))), (3, .int yv), (2, .int xv), (1, .int wv), (0, .ref x0)] []
    refine zj_aload_n C dL_act_1062 7 rfl ?_
    refine ls_pay C ⟨Nat.le_of_ble_eq_true rfl, Nat.le_of_ble_eq_true rfl⟩ ⟨Nat.le_of_ble_eq_true rfl, Nat.le_of_ble_eq_true rfl⟩ hG hO ([] : List va_W) (Nat.le_of_ble_eq_true rfl) dL_act_1063 (fun T1 x1_ y1 hG1 hO1 => ?_)
    exact hret _ _ _ _ _ _ _ _ _ _ (by decide) (by decide) (GI_wk (GI_D hG1 (by omega) (by omega)) (by omega) (by omega)) hO1 dL_act_1066
  · skip
    refine zj_tin C 1067 dL_act_54 (by decide) (by decide) (off := 1013) rfl (by decide) ?_
    show zJ E 20 0 0 (([] : List va_W) ++ LB cy x0 x1 x2 d0 d1 p0 p1 h0 h1 a b hs sl T U x z y s).flatten 1067 [(7, .int (jI wh)), (6, .int (jI (dI T))), (5, .int (jI hr)), (4, .int (jI (i : Int))), (3, .int yv), (2, .int xv), (1, .int wv), (0, .ref x0)] []
    refine zj_iload_n C dL_act_1067 5 rfl ?_
    refine ij_iconst C dL_act_1068 ?_
    refine ls_up C ⟨Nat.le_of_ble_eq_true rfl, Nat.le_of_ble_eq_true rfl⟩ ⟨Nat.le_of_ble_eq_true rfl, Nat.le_of_ble_eq_true rfl⟩ ⟨by decide, by decide⟩ (Nat.le_of_ble_eq_true rfl) dL_act_1069 (fun k_ hk_1 hk_2 => ?_)
    rcases (show k_ = 0 ∨ k_ = 1 ∨ k_ = 2 ∨ k_ = 3 ∨ k_ = 4 by omega) with rfl | rfl | rfl | rfl | rfl
    · skip
      have zq := zGi0
      refine zj_istore C (L' := [(8, .int (jI 0)), (7, .int (jI wh)), (6, .int (jI (dI T))), (5, .int (jI hr)), (4, .int (jI (i : Int))), (3, .int yv), (2, .int xv), (1, .int wv), (0, .ref x0)]) dL_act_1072 (by decide) rfl ?_
      refine zj_iload C dL_act_1074 0 rfl ?_
      refine ij_if_ne C 1088 dL_act_1076 (by decide) ⟨by decide, by decide⟩ (fun h => False.elim (by omega)) (fun _ => ?_)
      refine zj_iload_n C dL_act_1079 5 rfl ?_
      refine ij_bipush C dL_act_1080 (by decide) ?_
      refine ls_up C ⟨Nat.le_of_ble_eq_true rfl, Nat.le_of_ble_eq_true rfl⟩ ⟨Nat.le_of_ble_eq_true rfl, Nat.le_of_ble_eq_true rfl⟩ ⟨by decide, by decide⟩ (Nat.le_of_ble_eq_true rfl) dL_act_1082 (fun u12_ hu12_1 hu12_2 => ?_)
      refine zj_goto C 1125 dL_act_1085 (by decide) ?_
      refine zj_sub (L' := [(8, .int (jI 0)), (7, .int (jI wh)), (6, .int (jI (dI T))), (5, .int (jI hr)), (4, .int (jI (i : Int))), (3, .int yv), (2, .int xv), (0, .ref x0)]) [0, 1, 2, 3, 4, 5, 6, 8] rfl ?_
      exact act_set C hG hO hD hcc hret hi hh hwh hwr (k := 0) (by decide) ⟨by omega, by omega⟩ (by omega)
    · skip
      have zq := zGi1
      refine zj_istore C (L' := [(8, .int (jI 1)), (7, .int (jI wh)), (6, .int (jI (dI T))), (5, .int (jI hr)), (4, .int (jI (i : Int))), (3, .int yv), (2, .int xv), (1, .int wv), (0, .ref x0)]) dL_act_1072 (by decide) rfl ?_
      refine zj_iload C dL_act_1074 0 rfl ?_
      refine ij_if_ne C 1088 dL_act_1076 (by decide) ⟨by decide, by decide⟩ (fun _ => ?_) (fun h => False.elim (by omega))
      refine zj_iload C dL_act_1088 0 rfl ?_
      refine ij_iconst C dL_act_1090 ?_
      refine ij_icmp_ne C 1103 dL_act_1091 (by decide) ⟨by decide, by decide⟩ ⟨by decide, by decide⟩ (fun _ => ?_) (fun h => False.elim (by omega))
      refine zj_iload C dL_act_1103 0 rfl ?_
      refine ij_iconst C dL_act_1105 ?_
      refine ij_icmp_ne C 1118 dL_act_1106 (by decide) ⟨by decide, by decide⟩ ⟨by decide, by decide⟩ (fun _ => ?_) (fun h => False.elim (by omega))
      refine zj_iload_n C dL_act_1118 5 rfl ?_
      refine ij_sipush C dL_act_1119 (by decide) ?_
      refine ls_up C ⟨Nat.le_of_ble_eq_true rfl, Nat.le_of_ble_eq_true rfl⟩ ⟨Nat.le_of_ble_eq_true rfl, Nat.le_of_ble_eq_true rfl⟩ ⟨by decide, by decide⟩ (Nat.le_of_ble_eq_true rfl) dL_act_1122 (fun u13_ hu13_1 hu13_2 => ?_)
      refine zj_sub (L' := [(8, .int (jI 1)), (7, .int (jI wh)), (6, .int (jI (dI T))), (5, .int (jI hr)), (4, .int (jI (i : Int))), (3, .int yv), (2, .int xv), (0, .ref x0)]) [0, 1, 2, 3, 4, 5, 6, 8] rfl ?_
      exact act_set C hG hO hD hcc hret hi hh hwh hwr (k := 1) (by decide) ⟨by omega, by omega⟩ (by omega)
    · skip
      have zq := zGi2
      refine zj_istore C (L' := [(8, .int (jI 2)), (7, .int (jI wh)), (6, .int (jI (dI T))), (5, .int (jI hr)), (4, .int (jI (i : Int))), (3, .int yv), (2, .int xv), (1, .int wv), (0, .ref x0)]) dL_act_1072 (by decide) rfl ?_
      refine zj_iload C dL_act_1074 0 rfl ?_
      refine ij_if_ne C 1088 dL_act_1076 (by decide) ⟨by decide, by decide⟩ (fun _ => ?_) (fun h => False.elim (by omega))
      refine zj_iload C dL_act_1088 0 rfl ?_
      refine ij_iconst C dL_act_1090 ?_
      refine ij_icmp_ne C 1103 dL_act_1091 (by decide) ⟨by decide, by decide⟩ ⟨by decide, by decide⟩ (fun h => False.elim (by omega)) (fun _ => ?_)
      refine zj_iload_n C dL_act_1094 5 rfl ?_
      refine ij_bipush C dL_act_1095 (by decide) ?_
      refine ls_up C ⟨Nat.le_of_ble_eq_true rfl, Nat.le_of_ble_eq_true rfl⟩ ⟨Nat.le_of_ble_eq_true rfl, Nat.le_of_ble_eq_true rfl⟩ ⟨by decide, by decide⟩ (Nat.le_of_ble_eq_true rfl) dL_act_1097 (fun u14_ hu14_1 hu14_2 => ?_)
      refine zj_goto C 1125 dL_act_1100 (by decide) ?_
      refine zj_sub (L' := [(8, .int (jI 2)), (7, .int (jI wh)), (6, .int (jI (dI T))), (5, .int (jI hr)), (4, .int (jI (i : Int))), (3, .int yv), (2, .int xv), (0, .ref x0)]) [0, 1, 2, 3, 4, 5, 6, 8] rfl ?_
      exact act_set C hG hO hD hcc hret hi hh hwh hwr (k := 2) (by decide) ⟨by omega, by omega⟩ (by omega)
    · skip
      have zq := zGi3
      refine zj_istore C (L' := [(8, .int (jI 3)), (7, .int (jI wh)), (6, .int (jI (dI T))), (5, .int (jI hr)), (4, .int (jI (i : Int))), (3, .int yv), (2, .int xv), (1, .int wv), (0, .ref x0)]) dL_act_1072 (by decide) rfl ?_
      refine zj_iload C dL_act_1074 0 rfl ?_
      refine ij_if_ne C 1088 dL_act_1076 (by decide) ⟨by decide, by decide⟩ (fun _ => ?_) (fun h => False.elim (by omega))
      refine zj_iload C dL_act_1088 0 rfl ?_
      refine ij_iconst C dL_act_1090 ?_
      refine ij_icmp_ne C 1103 dL_act_1091 (by decide) ⟨by decide, by decide⟩ ⟨by decide, by decide⟩ (fun _ => ?_) (fun h => False.elim (by omega))
      refine zj_iload C dL_act_1103 0 rfl ?_
      refine ij_iconst C dL_act_1105 ?_
      refine ij_icmp_ne C 1118 dL_act_1106 (by decide) ⟨by decide, by decide⟩ ⟨by decide, by decide⟩ (fun _ => ?_) (fun h => False.elim (by omega))
      refine zj_iload_n C dL_act_1118 5 rfl ?_
      refine ij_sipush C dL_act_1119 (by decide) ?_
      refine ls_up C ⟨Nat.le_of_ble_eq_true rfl, Nat.le_of_ble_eq_true rfl⟩ ⟨Nat.le_of_ble_eq_true rfl, Nat.le_of_ble_eq_true rfl⟩ ⟨by decide, by decide⟩ (Nat.le_of_ble_eq_true rfl) dL_act_1122 (fun u15_ hu15_1 hu15_2 => ?_)
      refine zj_sub (L' := [(8, .int (jI 3)), (7, .int (jI wh)), (6, .int (jI (dI T))), (5, .int (jI hr)), (4, .int (jI (i : Int))), (3, .int yv), (2, .int xv), (0, .ref x0)]) [0, 1, 2, 3, 4, 5, 6, 8] rfl ?_
      exact act_set C hG hO hD hcc hret hi hh hwh hwr (k := 3) (by decide) ⟨by omega, by omega⟩ (by omega)
    · skip
      have zq := zGi4
      refine zj_istore C (L' := [(8, .int (jI 4)), (7, .int (jI wh)), (6, .int (jI (dI T))), (5, .int (jI hr)), (4, .int (jI (i : Int))), (3, .int yv), (2, .int xv), (1, .int wv), (0, .ref x0)]) dL_act_1072 (by decide) rfl ?_
      refine zj_iload C dL_act_1074 0 rfl ?_
      refine ij_if_ne C 1088 dL_act_1076 (by decide) ⟨by decide, by decide⟩ (fun _ => ?_) (fun h => False.elim (by omega))
      refine zj_iload C dL_act_1088 0 rfl ?_
      refine ij_iconst C dL_act_1090 ?_
      refine ij_icmp_ne C 1103 dL_act_1091 (by decide) ⟨by decide, by decide⟩ ⟨by decide, by decide⟩ (fun _ => ?_) (fun h => False.elim (by omega))
      refine zj_iload C dL_act_1103 0 rfl ?_
      refine ij_iconst C dL_act_1105 ?_
      refine ij_icmp_ne C 1118 dL_act_1106 (by decide) ⟨by decide, by decide⟩ ⟨by decide, by decide⟩ (fun h => False.elim (by omega)) (fun _ => ?_)
      refine zj_iload_n C dL_act_1109 5 rfl ?_
      refine ij_bipush C dL_act_1110 (by decide) ?_
      refine ls_up C ⟨Nat.le_of_ble_eq_true rfl, Nat.le_of_ble_eq_true rfl⟩ ⟨Nat.le_of_ble_eq_true rfl, Nat.le_of_ble_eq_true rfl⟩ ⟨by decide, by decide⟩ (Nat.le_of_ble_eq_true rfl) dL_act_1112 (fun u16_ hu16_1 hu16_2 => ?_)
      refine zj_goto C 1125 dL_act_1115 (by decide) ?_
      refine zj_sub (L' := [(8, .int (jI 4)), (7, .int (jI wh)), (6, .int (jI (dI T))), (5, .int (jI hr)), (4, .int (jI (i : Int))), (3, .int yv), (2, .int xv), (0, .ref x0)]) [0, 1, 2, 3, 4, 5, 6, 8] rfl ?_
      exact act_set C hG hO hD hcc hret hi hh hwh hwr (k := 4) (by decide) ⟨by omega, by omega⟩ (by omega)
  · skip
    refine zj_tout C 1171 dL_act_54 (Or.inr (by decide)) (by decide) ?_
    show zJ E 20 0 0 (([] : List va_W) ++ LB cy x0 x1 x2 d0 d1 p0 p1 h0 h1 a b hs sl T U x z y s).flatten 1171 [(7, .int (jI wh)), (6, .int (jI (dI T))), (5, .int (jI hr)), (4, .int (jI (i : Int))), (3, .int yv), (2, .int xv), (1, .int wv), (0, .ref x0)] []
    refine zj_aload_n C dL_act_1171 7 rfl ?_
    refine zj_iload_n C dL_act_1172 5 rfl ?_
    refine zj_iload_n C dL_act_1173 4 rfl ?_
    refine ls_text C ⟨Nat.le_of_ble_eq_true rfl, Nat.le_of_ble_eq_true rfl⟩ ⟨Nat.le_of_ble_eq_true rfl, Nat.le_of_ble_eq_true rfl⟩ hG hO hD2 hcc ([] : List va_W) xv yv (Nat.le_of_ble_eq_true rfl) dL_act_1174 (fun T1 x1_ z1 y1 hG1 hO1 => ?_)
    exact hret _ _ _ _ _ _ _ _ _ _ (by decide) (by decide) hG1 hO1 dL_act_1177
  · skip
    refine zj_tout C 1171 dL_act_54 (Or.inr (by decide)) (by decide) ?_
    show zJ E 20 0 0 (([] : List va_W) ++ LB cy x0 x1 x2 d0 d1 p0 p1 h0 h1 a b hs sl T U x z y s).flatten 1171 [(7, .int (jI wh)), (6, .int (jI (dI T))), (5, .int (jI hr)), (4, .int (jI (i : Int))), (3, .int yv), (2, .int xv), (1, .int wv), (0, .ref x0)] []
    refine zj_aload_n C dL_act_1171 7 rfl ?_
    refine zj_iload_n C dL_act_1172 5 rfl ?_
    refine zj_iload_n C dL_act_1173 4 rfl ?_
    refine ls_text C ⟨Nat.le_of_ble_eq_true rfl, Nat.le_of_ble_eq_true rfl⟩ ⟨Nat.le_of_ble_eq_true rfl, Nat.le_of_ble_eq_true rfl⟩ hG hO hD2 hcc ([] : List va_W) xv yv (Nat.le_of_ble_eq_true rfl) dL_act_1174 (fun T1 x1_ z1 y1 hG1 hO1 => ?_)
    exact hret _ _ _ _ _ _ _ _ _ _ (by decide) (by decide) hG1 hO1 dL_act_1177
set_option maxHeartbeats 4000000 in
set_option maxRecDepth 100000 in
theorem c_L_act (l : Launch) (D : va_G) (cy : Nat → ClassId) (x0 x1 x2 d0 d1 p0 p1 h0 h1 : Nat) (a b : Nat → Nat) (hs sl : Nat → Nat → Nat) (T U : zTr) (x : zDd) (z : zPd) (y : zHs) (s : zSl) {Dd c : Int} (hG : GI Dd c T) (hO : LO T z y s) (hD2 : Dd + 2 ≤ 100000) (hcc : c + 6 ≤ 400) (wv xv yv : Int32) : zM l yL_act (zW yL_act cL_act 20 (Option.some Jvm.ClassFile.FieldType.boolean)) rm_act D cy [.ref x0, .int wv, .int xv, .int yv] (LB cy x0 x1 x2 d0 d1 p0 p1 h0 h1 a b hs sl T U x z y s).flatten (fun r w => r = some (.int (jI 1)) ∧ ∃ T' U' x' z' y' s', GI (Dd + 1) (c + 6) T' ∧ LO T' z' y' s' ∧ w = (LB cy x0 x1 x2 d0 d1 p0 p1 h0 h1 a b hs sl T' U' x' z' y' s').flatten) 7 86 := by
  refine zM_of rfl (Nat.le_of_ble_eq_true rfl) (fun E C hret => ?_)
  have C : zO E cL_act 20 "SwingUnitsLaw" rm_act cy l D := C
  have hret' : ∀ (k' n' pc : Nat) (L : List (Nat × Value)) (T' U' : zTr) (x' : zDd) (z' : zPd) (y' : zHs) (s' : zSl), k' ≤ 7 → n' ≤ 86 → GI (Dd + 1) (c + 6) T' → LO T' z' y' s' → decode cL_act pc = .ok (.ireturn, 1) → zJ E 20 k' n' (([] : List va_W) ++ LB cy x0 x1 x2 d0 d1 p0 p1 h0 h1 a b hs sl T' U' x' z' y' s').flatten pc L [.int (jI 1)] := fun k' n' pc L T' U' x' z' y' s' q1 q2 g1 g2 d => zj_wide q1 q2 (hret pc L (some (.int (jI 1))) _ ⟨rfl, T', U', x', z', y', s', g1, g2, rfl⟩ (zOk_z (Or.inr rfl)) d)
  have rd := (GI_r hG).2.2.2.2.2.2.2.2.1
  have rs := (GI_s hG).1
  show zJ E 20 0 0 (([] : List va_W) ++ LB cy x0 x1 x2 d0 d1 p0 p1 h0 h1 a b hs sl T U x z y s).flatten 0 [(0, .ref x0), (1, .int wv), (2, .int xv), (3, .int yv)] []
  refine zj_iload_n C dL_act_0 2 rfl ?_
  refine ij_bipush C dL_act_1 (by decide) ?_
  refine ls_up C ⟨Nat.le_of_ble_eq_true rfl, Nat.le_of_ble_eq_true rfl⟩ ⟨Nat.le_of_ble_eq_true rfl, Nat.le_of_ble_eq_true rfl⟩ ⟨by decide, by decide⟩ (Nat.le_of_ble_eq_true rfl) dL_act_3 (fun u1_ hu1_1 hu1_2 => ?_)
  refine zj_istore C (L' := [(4, .int (jI u1_)), (0, .ref x0), (1, .int wv), (2, .int xv), (3, .int yv)]) dL_act_6 (by decide) rfl ?_
  refine zj_iload_n C dL_act_8 3 rfl ?_
  refine ij_iconst C dL_act_9 ?_
  refine zj_ishr C dL_act_10 (fun v10 => ?_)
  refine ij_bipush C dL_act_11 (by decide) ?_
  refine ls_up C ⟨Nat.le_of_ble_eq_true rfl, Nat.le_of_ble_eq_true rfl⟩ ⟨Nat.le_of_ble_eq_true rfl, Nat.le_of_ble_eq_true rfl⟩ ⟨by decide, by decide⟩ (Nat.le_of_ble_eq_true rfl) dL_act_13 (fun u2_ hu2_1 hu2_2 => ?_)
  refine zj_istore C (L' := [(5, .int (jI u2_)), (4, .int (jI u1_)), (0, .ref x0), (1, .int wv), (2, .int xv), (3, .int yv)]) dL_act_16 (by decide) rfl ?_
  refine zj_aload_n C dL_act_18 2 rfl ?_
  refine ij_bipush C dL_act_19 (by decide) ?_
  refine lc_count C ⟨Nat.le_of_ble_eq_true rfl, Nat.le_of_ble_eq_true rfl⟩ ⟨Nat.le_of_ble_eq_true rfl, Nat.le_of_ble_eq_true rfl⟩ hO ([] : List va_W) (jI 8) (Nat.le_of_ble_eq_true rfl) dL_act_21 (vc_8 hG z y) ?_
  refine zj_istore C (L' := [(6, .int (jI (dI T))), (5, .int (jI u2_)), (4, .int (jI u1_)), (0, .ref x0), (1, .int wv), (2, .int xv), (3, .int yv)]) dL_act_24 (by decide) rfl ?_
  obtain ⟨i, hii⟩ : ∃ i : Nat, u1_ = (i : Int) := ⟨(u1_).toNat, by omega⟩
  subst hii
  have hi : i < 6 := by omega
  refine zj_iload C dL_act_26 1 rfl ?_
  refine zj_aload_n C dL_act_28 3 rfl ?_
  refine ij_bipush C dL_act_29 (by decide) ?_
  refine lc_count C ⟨Nat.le_of_ble_eq_true rfl, Nat.le_of_ble_eq_true rfl⟩ ⟨Nat.le_of_ble_eq_true rfl, Nat.le_of_ble_eq_true rfl⟩ hO ([] : List va_W) (jI 12) (Nat.le_of_ble_eq_true rfl) dL_act_31 (vc_12 hG z y) ?_
  refine ij_icmp_ge C 42 dL_act_34 (by decide) ⟨by omega, by omega⟩ ⟨by omega, by omega⟩ (fun hb => ?_) (fun hb => ?_)
  · skip
    refine zj_iload C dL_act_42 0 rfl ?_
    refine ij_iconst C dL_act_44 ?_
    refine ij_iadd C dL_act_45 ?_
    refine zj_sub (L' := [(6, .int (jI (dI T))), (5, .int (jI u2_)), (4, .int (jI (i : Int))), (3, .int yv), (2, .int xv), (1, .int wv), (0, .ref x0)]) [0, 1, 2, 6, 5, 4, 3] rfl ?_
    exact act_sw C hG hO hD2 hcc hret' hi ⟨by omega, by omega⟩ (if_neg (by omega)) ⟨by omega, by omega⟩
  · skip
    refine zj_iload C dL_act_37 0 rfl ?_
    refine zj_goto C 46 dL_act_39 (by decide) ?_
    refine zj_sub (L' := [(6, .int (jI (dI T))), (5, .int (jI u2_)), (4, .int (jI (i : Int))), (3, .int yv), (2, .int xv), (1, .int wv), (0, .ref x0)]) [0, 1, 2, 6, 5, 4, 3] rfl ?_
    exact act_sw C hG hO hD2 hcc hret' hi ⟨by omega, by omega⟩ (if_pos (by omega)) ⟨by omega, by omega⟩
end ACTW
