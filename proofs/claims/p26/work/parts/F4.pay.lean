/-! pay: a payment, holder by holder. Written by wip/p26/law4.py -/
abbrev rm_pay : Room := { frames := 8, cells := 2, slots := 12, locals := 192 }
section PAY
variable {E : zE} {cy : Nat → ClassId} {l : Launch} {D : va_G} {x0 x1 x2 d0 d1 p0 p1 h0 h1 : Nat} {a b : Nat → Nat} {hs sl : Nat → Nat → Nat} {T U : zTr} {x : zDd} {z : zPd} {y : zHs} {s : zSl} {Dd c : Int}
set_option maxHeartbeats 4000000 in
set_option maxRecDepth 100000 in
theorem pay_l (C : zO E cL_pay 12 "SwingUnitsLaw" rm_pay cy l D) (hG : GI Dd c T) (hO : LO T z y s) {q7 q8 : Nat} (kk : ∀ f7 f8 : Nat → Int, (∀ j, j < 6 → f7 j = gtI T j + inI T j ∧ f8 j = enI T j + eeI T j) → zJ E 12 2 12 (([LA cy q8 6 f8, LA cy q7 6 f7] : List va_W) ++ LB cy x0 x1 x2 d0 d1 p0 p1 h0 h1 a b hs sl T U x z y s).flatten 189 [(11, .int (jI (6 : Int))), (9, .long (jL (isum (gtI T) 6))), (8, .ref q8), (7, .ref q7), (5, .long (jL (egI T))), (3, .long (jL (iI T))), (2, .int (jI (poI T))), (1, .int (jI (cI T))), (0, .ref x0)] []) : ∀ (m i : Nat) (f7 f8 : Nat → Int), i + m = 6 → (∀ j, j < i → f7 j = gtI T j + inI T j ∧ f8 j = enI T j + eeI T j) → zJ E 12 2 12 (([LA cy q8 6 f8, LA cy q7 6 f7] : List va_W) ++ LB cy x0 x1 x2 d0 d1 p0 p1 h0 h1 a b hs sl T U x z y s).flatten 69 [(11, .int (jI (i : Int))), (9, .long (jL (isum (gtI T) i))), (8, .ref q8), (7, .ref q7), (5, .long (jL (egI T))), (3, .long (jL (iI T))), (2, .int (jI (poI T))), (1, .int (jI (cI T))), (0, .ref x0)] [] := by
  obtain ⟨r1, r2, r3, r4, r5⟩ := egI_r hG
  have rp := (GI_r hG).2.2.2.2.2.2.1
  have rc := (GI_r hG).1
  intro m
  induction m with
  | zero =>
    intro i f7 f8 hi hf
    have ei : i = 6 := by omega
    subst ei
    refine zj_iload C dL_pay_69 0 rfl ?_
    refine ij_bipush C dL_pay_71 (by decide) ?_
    refine ij_icmp_ge C 189 dL_pay_73 (by decide) ⟨by omega, by omega⟩ ⟨by decide, by decide⟩ (fun _ => ?_) (fun h => False.elim (by omega))
    exact kk f7 f8 hf
  | succ m ih =>
    intro i f7 f8 hi hf
    have h6 : i < 6 := by omega
    obtain ⟨g1, g2, g3, g4, g5, g6, g7⟩ := r3 i h6
    obtain ⟨⟨u1, u2, u3, u4, u5⟩, -, -, -, ⟨n1, n2⟩, ⟨e1, e2⟩, -⟩ := GI_h hG h6
    have ru := (GI_r hG).2.2.2.2.1
    have gpo : gtI T i ≤ isum (gtI T) 6 := isum_ge 6 i h6 (fun j hj => (r3 j hj).2.2.2.2.1)
    have al1 : isum (gtI T) (i + 1) = isum (gtI T) i + gtI T i := rfl
    refine zj_iload C dL_pay_69 0 rfl ?_
    refine ij_bipush C dL_pay_71 (by decide) ?_
    refine ij_icmp_ge C 189 dL_pay_73 (by decide) ⟨by omega, by omega⟩ ⟨by decide, by decide⟩ (fun h => False.elim (by omega)) (fun _ => ?_)
    refine zj_aload C dL_pay_76 3 rfl ?_
    refine zj_iload C dL_pay_78 0 rfl ?_
    refine zj_aload_n C dL_pay_80 8 rfl ?_
    refine zj_iload C dL_pay_81 0 rfl ?_
    refine ij_iconst C dL_pay_83 ?_
    refine lc_ofHolder C ⟨Nat.le_of_ble_eq_true rfl, Nat.le_of_ble_eq_true rfl⟩ ⟨Nat.le_of_ble_eq_true rfl, Nat.le_of_ble_eq_true rfl⟩ hO ([LA cy q8 6 f8, LA cy q7 6 f7] : List va_W) (jI (i : Int)) (jI 0) (Nat.le_of_ble_eq_true rfl) dL_pay_84 (vh_0 hG h6) ?_
    refine ij_i2l C ⟨by omega, by omega⟩ dL_pay_87 ?_
    refine zj_lload_n C dL_pay_88 5 rfl ?_
    refine ij_lmul C dL_pay_89 ?_
    refine zj_ldc2 C dL_pay_90 tgv_471 ?_
    refine ij_l 1000 (by decide) ?_
    refine ij_ldiv C ⟨by omega, by omega⟩ ⟨by decide, by decide⟩ dL_pay_93 ?_
    refine ij_el (gtI T i) rfl ?_
    refine ij_lastore C 1 (f := f7) (ws' := (([LA cy q8 6 f8, LA cy q7 6 (iup f7 i (gtI T i))] : List va_W) ++ LB cy x0 x1 x2 d0 d1 p0 p1 h0 h1 a b hs sl T U x z y s).flatten) i rfl (by omega) (by decide) rfl dL_pay_94 rfl ?_
    refine zj_aload C dL_pay_95 2 rfl ?_
    refine zj_iload C dL_pay_97 0 rfl ?_
    refine zj_aload_n C dL_pay_99 8 rfl ?_
    refine zj_iload C dL_pay_100 0 rfl ?_
    refine ij_iconst C dL_pay_102 ?_
    refine lc_ofHolder C ⟨Nat.le_of_ble_eq_true rfl, Nat.le_of_ble_eq_true rfl⟩ ⟨Nat.le_of_ble_eq_true rfl, Nat.le_of_ble_eq_true rfl⟩ hO ([LA cy q8 6 f8, LA cy q7 6 (iup f7 i (gtI T i))] : List va_W) (jI (i : Int)) (jI 2) (Nat.le_of_ble_eq_true rfl) dL_pay_103 (vh_2 hG h6) ?_
    refine ij_i2l C ⟨by omega, by omega⟩ dL_pay_106 ?_
    refine zj_lload C dL_pay_107 4 rfl ?_
    refine ij_lmul C dL_pay_109 ?_
    refine zj_ldc2 C dL_pay_110 tgv_471 ?_
    refine ij_l 1000 (by decide) ?_
    refine ij_ldiv C ⟨by omega, by omega⟩ ⟨by decide, by decide⟩ dL_pay_113 ?_
    refine ij_lastore C 0 (f := f8) (ws' := (([LA cy q8 6 (iup f8 i (((uN T i) * (egI T)) / 1000)), LA cy q7 6 (iup f7 i (gtI T i))] : List va_W) ++ LB cy x0 x1 x2 d0 d1 p0 p1 h0 h1 a b hs sl T U x z y s).flatten) i rfl (by omega) (by decide) rfl dL_pay_114 rfl ?_
    refine zj_aload C dL_pay_115 2 rfl ?_
    refine zj_iload C dL_pay_117 0 rfl ?_
    refine ij_laload C 0 (f := (iup f8 i (((uN T i) * (egI T)) / 1000))) i rfl (by omega) (by decide) rfl dL_pay_119 ?_
    refine ij_el (((uN T i) * (egI T)) / 1000) (iup_s _ _ _) ?_
    refine zj_aload C dL_pay_120 3 rfl ?_
    refine zj_iload C dL_pay_122 0 rfl ?_
    refine ij_laload C 1 (f := (iup f7 i (gtI T i))) i rfl (by omega) (by decide) rfl dL_pay_124 ?_
    refine ij_el (gtI T i) (iup_s _ _ _) ?_
    have J : ∀ f9 : Nat → Int, f9 i = enI T i → (∀ j, j ≠ i → f9 j = f8 j) → zJ E 12 2 12 (([LA cy q8 6 f9, LA cy q7 6 (iup f7 i (gtI T i))] : List va_W) ++ LB cy x0 x1 x2 d0 d1 p0 p1 h0 h1 a b hs sl T U x z y s).flatten 139 [(11, .int (jI (i : Int))), (9, .long (jL (isum (gtI T) i))), (8, .ref q8), (7, .ref q7), (5, .long (jL (egI T))), (3, .long (jL (iI T))), (2, .int (jI (poI T))), (1, .int (jI (cI T))), (0, .ref x0)] [] := by
      intro f9 hf9 hf8
      refine zj_lload C dL_pay_139 1 rfl ?_
      refine zj_aload C dL_pay_141 3 rfl ?_
      refine zj_iload C dL_pay_143 0 rfl ?_
      refine ij_laload C 1 (f := (iup f7 i (gtI T i))) i rfl (by omega) (by decide) rfl dL_pay_145 ?_
      refine ij_el (gtI T i) (iup_s _ _ _) ?_
      refine ij_ladd C dL_pay_146 ?_
      refine ij_el (isum (gtI T) (i + 1)) rfl ?_
      refine zj_lstore C (L' := [(9, .long (jL (isum (gtI T) (i + 1)))), (11, .int (jI (i : Int))), (8, .ref q8), (7, .ref q7), (5, .long (jL (egI T))), (3, .long (jL (iI T))), (2, .int (jI (poI T))), (1, .int (jI (cI T))), (0, .ref x0)]) dL_pay_147 (by decide) rfl ?_
      refine zj_aload C dL_pay_149 3 rfl ?_
      refine zj_iload C dL_pay_151 1 rfl ?_
      refine zj_dup2 C dL_pay_153 rfl rfl ?_
      refine ij_laload C 1 (f := (iup f7 i (gtI T i))) i rfl (by omega) (by decide) rfl dL_pay_154 ?_
      refine ij_el (gtI T i) (iup_s _ _ _) ?_
      refine zj_aload_n C dL_pay_155 8 rfl ?_
      refine zj_iload C dL_pay_156 1 rfl ?_
      refine ij_bipush C dL_pay_158 (by decide) ?_
      refine lc_ofHolder C ⟨Nat.le_of_ble_eq_true rfl, Nat.le_of_ble_eq_true rfl⟩ ⟨Nat.le_of_ble_eq_true rfl, Nat.le_of_ble_eq_true rfl⟩ hO ([LA cy q8 6 f9, LA cy q7 6 (iup f7 i (gtI T i))] : List va_W) (jI (i : Int)) (jI 6) (Nat.le_of_ble_eq_true rfl) dL_pay_160 (vh_6 hG h6) ?_
      refine ij_i2l C ⟨by omega, by omega⟩ dL_pay_163 ?_
      refine ij_ladd C dL_pay_164 ?_
      refine ij_lastore C 1 (f := (iup f7 i (gtI T i))) (ws' := (([LA cy q8 6 f9, LA cy q7 6 (iup (iup f7 i (gtI T i)) i ((gtI T i) + (inI T i)))] : List va_W) ++ LB cy x0 x1 x2 d0 d1 p0 p1 h0 h1 a b hs sl T U x z y s).flatten) i rfl (by omega) (by decide) rfl dL_pay_165 rfl ?_
      refine zj_aload C dL_pay_166 2 rfl ?_
      refine zj_iload C dL_pay_168 1 rfl ?_
      refine zj_dup2 C dL_pay_170 rfl rfl ?_
      refine ij_laload C 0 (f := f9) i rfl (by omega) (by decide) rfl dL_pay_171 ?_
      refine ij_el (enI T i) hf9 ?_
      refine zj_aload_n C dL_pay_172 8 rfl ?_
      refine zj_iload C dL_pay_173 1 rfl ?_
      refine ij_bipush C dL_pay_175 (by decide) ?_
      refine lc_ofHolder C ⟨Nat.le_of_ble_eq_true rfl, Nat.le_of_ble_eq_true rfl⟩ ⟨Nat.le_of_ble_eq_true rfl, Nat.le_of_ble_eq_true rfl⟩ hO ([LA cy q8 6 f9, LA cy q7 6 (iup (iup f7 i (gtI T i)) i ((gtI T i) + (inI T i)))] : List va_W) (jI (i : Int)) (jI 7) (Nat.le_of_ble_eq_true rfl) dL_pay_177 (vh_7 hG h6) ?_
      refine ij_i2l C ⟨by omega, by omega⟩ dL_pay_180 ?_
      refine ij_ladd C dL_pay_181 ?_
      refine ij_lastore C 0 (f := f9) (ws' := (([LA cy q8 6 (iup f9 i ((enI T i) + (eeI T i))), LA cy q7 6 (iup (iup f7 i (gtI T i)) i ((gtI T i) + (inI T i)))] : List va_W) ++ LB cy x0 x1 x2 d0 d1 p0 p1 h0 h1 a b hs sl T U x z y s).flatten) i rfl (by omega) (by decide) rfl dL_pay_182 rfl ?_
      refine ij_iinc C (j := 1) (L2 := [(11, .int (jI ((i + 1 : Nat) : Int))), (9, .long (jL (isum (gtI T) (i + 1)))), (8, .ref q8), (7, .ref q7), (5, .long (jL (egI T))), (3, .long (jL (iI T))), (2, .int (jI (poI T))), (1, .int (jI (cI T))), (0, .ref x0)]) ((i + 1 : Nat) : Int) (by omega) dL_pay_183 rfl (by decide) rfl ?_
      refine zj_goto C 69 dL_pay_186 (by decide) ?_
      refine zj_sub (L' := [(11, .int (jI ((i + 1 : Nat) : Int))), (9, .long (jL (isum (gtI T) (i + 1)))), (8, .ref q8), (7, .ref q7), (5, .long (jL (egI T))), (3, .long (jL (iI T))), (2, .int (jI (poI T))), (1, .int (jI (cI T))), (0, .ref x0)]) [0, 1, 2, 3, 4, 5, 6, 7, 8] rfl ?_
      refine ih (i + 1) _ _ (by omega) (fun j hj => ?_)
      unfold iup
      by_cases ej : j = i
      · subst ej
        rw [if_pos rfl, if_pos rfl]
        exact ⟨rfl, rfl⟩
      · rw [if_neg ej, if_neg ej, if_neg ej, hf8 j ej]
        exact hf j (by omega)
    refine ij_lcmp_le C 139 dL_pay_125 dL_pay_126 (by decide) ⟨by omega, by omega⟩ ⟨by omega, by omega⟩ (fun hb => ?_) (fun hb => ?_)
    · skip
      refine J _ ?_ (fun j hj => iup_n _ _ hj)
      rw [iup_s]
      unfold enI
      rw [if_neg (by omega)]
    · skip
      refine zj_aload C dL_pay_129 2 rfl ?_
      refine zj_iload C dL_pay_131 0 rfl ?_
      refine zj_aload C dL_pay_133 3 rfl ?_
      refine zj_iload C dL_pay_135 0 rfl ?_
      refine ij_laload C 1 (f := (iup f7 i (gtI T i))) i rfl (by omega) (by decide) rfl dL_pay_137 ?_
      refine ij_el (gtI T i) (iup_s _ _ _) ?_
      refine ij_lastore C 0 (f := (iup f8 i (((uN T i) * (egI T)) / 1000))) (ws' := (([LA cy q8 6 (iup (iup f8 i (((uN T i) * (egI T)) / 1000)) i (gtI T i)), LA cy q7 6 (iup f7 i (gtI T i))] : List va_W) ++ LB cy x0 x1 x2 d0 d1 p0 p1 h0 h1 a b hs sl T U x z y s).flatten) i rfl (by omega) (by decide) rfl dL_pay_138 rfl ?_
      refine J _ ?_ (fun j hj => by rw [iup_n _ _ hj, iup_n _ _ hj])
      rw [iup_s]
      unfold enI
      rw [if_pos (by omega)]
set_option maxHeartbeats 4000000 in
set_option maxRecDepth 100000 in
theorem pay_c (C : zO E cL_pay 12 "SwingUnitsLaw" rm_pay cy l D) (hG : GI Dd c T) (hO : LO T z y s) {q7 q8 : Nat} {al eg ii po ca : Int} {f7 f8 : Nat → Int} (hf : ∀ j, j < 6 → f7 j = inI T j ∧ f8 j = eeI T j ∧ uN T j = 0) (kk : zJ E 12 2 12 (([LA cy q8 6 f8, LA cy q7 6 f7] : List va_W) ++ LB cy x0 x1 x2 d0 d1 p0 p1 h0 h1 a b hs sl T U x z y s).flatten 314 [(11, .int (jI (6 : Int))), (9, .long (jL al)), (8, .ref q8), (7, .ref q7), (5, .long (jL eg)), (3, .long (jL ii)), (2, .int (jI po)), (1, .int (jI ca)), (0, .ref x0)] []) : ∀ (m i : Nat), i + m = 6 → zJ E 12 2 12 (([LA cy q8 6 f8, LA cy q7 6 f7] : List va_W) ++ LB cy x0 x1 x2 d0 d1 p0 p1 h0 h1 a b hs sl T U x z y s).flatten 253 [(11, .int (jI (i : Int))), (9, .long (jL al)), (8, .ref q8), (7, .ref q7), (5, .long (jL eg)), (3, .long (jL ii)), (2, .int (jI po)), (1, .int (jI ca)), (0, .ref x0)] [] := by
  intro m
  induction m with
  | zero =>
    intro i hi
    have ei : i = 6 := by omega
    subst ei
    refine zj_iload C dL_pay_253 0 rfl ?_
    refine ij_bipush C dL_pay_255 (by decide) ?_
    refine ij_icmp_ge C 314 dL_pay_257 (by decide) ⟨by omega, by omega⟩ ⟨by decide, by decide⟩ (fun _ => ?_) (fun h => False.elim (by omega))
    exact kk
  | succ m ih =>
    intro i hi
    have h6 : i < 6 := by omega
    obtain ⟨a1, a2, a3⟩ := hf i h6
    obtain ⟨⟨u1, u2, u3, u4, u5⟩, -, -, -, ⟨n1, n2⟩, ⟨e1, e2⟩, -⟩ := GI_h hG h6
    refine zj_iload C dL_pay_253 0 rfl ?_
    refine ij_bipush C dL_pay_255 (by decide) ?_
    refine ij_icmp_ge C 314 dL_pay_257 (by decide) ⟨by omega, by omega⟩ ⟨by decide, by decide⟩ (fun h => False.elim (by omega)) (fun _ => ?_)
    refine zj_aload_n C dL_pay_260 8 rfl ?_
    refine zj_iload C dL_pay_261 0 rfl ?_
    refine ij_bipush C dL_pay_263 (by decide) ?_
    refine lc_ofHolder C ⟨Nat.le_of_ble_eq_true rfl, Nat.le_of_ble_eq_true rfl⟩ ⟨Nat.le_of_ble_eq_true rfl, Nat.le_of_ble_eq_true rfl⟩ hO ([LA cy q8 6 f8, LA cy q7 6 f7] : List va_W) (jI (i : Int)) (jI 6) (Nat.le_of_ble_eq_true rfl) dL_pay_265 (vh_6 hG h6) ?_
    refine ij_i2l C ⟨by omega, by omega⟩ dL_pay_268 ?_
    refine zj_aload C dL_pay_269 3 rfl ?_
    refine zj_iload C dL_pay_271 0 rfl ?_
    refine ij_laload C 1 (f := f7) i rfl (by omega) (by decide) rfl dL_pay_273 ?_
    refine ij_lcmp_ne C 306 dL_pay_274 dL_pay_275 (by decide) ⟨by omega, by omega⟩ ⟨by omega, by omega⟩ (fun h => False.elim (by omega)) (fun _ => ?_)
    refine zj_aload_n C dL_pay_278 8 rfl ?_
    refine zj_iload C dL_pay_279 0 rfl ?_
    refine ij_bipush C dL_pay_281 (by decide) ?_
    refine lc_ofHolder C ⟨Nat.le_of_ble_eq_true rfl, Nat.le_of_ble_eq_true rfl⟩ ⟨Nat.le_of_ble_eq_true rfl, Nat.le_of_ble_eq_true rfl⟩ hO ([LA cy q8 6 f8, LA cy q7 6 f7] : List va_W) (jI (i : Int)) (jI 7) (Nat.le_of_ble_eq_true rfl) dL_pay_283 (vh_7 hG h6) ?_
    refine ij_i2l C ⟨by omega, by omega⟩ dL_pay_286 ?_
    refine zj_aload C dL_pay_287 2 rfl ?_
    refine zj_iload C dL_pay_289 0 rfl ?_
    refine ij_laload C 0 (f := f8) i rfl (by omega) (by decide) rfl dL_pay_291 ?_
    refine ij_lcmp_ne C 306 dL_pay_292 dL_pay_293 (by decide) ⟨by omega, by omega⟩ ⟨by omega, by omega⟩ (fun h => False.elim (by omega)) (fun _ => ?_)
    refine zj_aload_n C dL_pay_296 8 rfl ?_
    refine zj_iload C dL_pay_297 0 rfl ?_
    refine ij_iconst C dL_pay_299 ?_
    refine lc_ofHolder C ⟨Nat.le_of_ble_eq_true rfl, Nat.le_of_ble_eq_true rfl⟩ ⟨Nat.le_of_ble_eq_true rfl, Nat.le_of_ble_eq_true rfl⟩ hO ([LA cy q8 6 f8, LA cy q7 6 f7] : List va_W) (jI (i : Int)) (jI 2) (Nat.le_of_ble_eq_true rfl) dL_pay_300 (vh_2 hG h6) ?_
    refine ij_if_eq C 308 dL_pay_303 (by decide) ⟨by omega, by omega⟩ (fun _ => ?_) (fun h => False.elim (by omega))
    refine ij_iinc C (j := 0) (L2 := [(11, .int (jI ((i + 1 : Nat) : Int))), (9, .long (jL al)), (8, .ref q8), (7, .ref q7), (5, .long (jL eg)), (3, .long (jL ii)), (2, .int (jI po)), (1, .int (jI ca)), (0, .ref x0)]) ((i + 1 : Nat) : Int) (by omega) dL_pay_308 rfl (by decide) rfl ?_
    refine zj_goto C 253 dL_pay_311 (by decide) ?_
    refine zj_sub (L' := [(11, .int (jI ((i + 1 : Nat) : Int))), (9, .long (jL al)), (8, .ref q8), (7, .ref q7), (5, .long (jL eg)), (3, .long (jL ii)), (2, .int (jI po)), (1, .int (jI ca)), (0, .ref x0)]) [0, 1, 2, 3, 4, 5, 6, 7, 8] rfl ?_
    exact ih (i + 1) (by omega)
end PAY
set_option maxHeartbeats 4000000 in
set_option maxRecDepth 100000 in
theorem c_L_pay (l : Launch) (D : va_G) (cy : Nat → ClassId) (x0 x1 x2 d0 d1 p0 p1 h0 h1 : Nat) (a b : Nat → Nat) (hs sl : Nat → Nat → Nat) (T U : zTr) (x : zDd) (z : zPd) (y : zHs) (s : zSl) {Dd c : Int} (hG : GI Dd c T) (hO : LO T z y s) : zM l yL_pay (zW yL_pay cL_pay 12 (Option.some Jvm.ClassFile.FieldType.boolean)) rm_pay D cy [.ref x0] (LB cy x0 x1 x2 d0 d1 p0 p1 h0 h1 a b hs sl T U x z y s).flatten (fun r w => r = some (.int (jI 1)) ∧ ∃ T' x' y', GI Dd c T' ∧ LO T' z y' s ∧ w = (LB cy x0 x1 x2 d0 d1 p0 p1 h0 h1 a b hs sl T' U x' z y' s).flatten) 2 12 := by
  refine zM_of rfl (Nat.le_of_ble_eq_true rfl) (fun E C hret => ?_)
  have C : zO E cL_pay 12 "SwingUnitsLaw" rm_pay cy l D := C
  obtain ⟨⟨rc1, rc2⟩, -, -, -, ⟨ru1, ru2⟩, ⟨rn1, rn2⟩, ⟨rp1, rp2⟩, ⟨re1, re2⟩, -⟩ := GI_r hG
  obtain ⟨r1, r2, r3, r4, r5⟩ := egI_r hG
  show zJ E 12 0 0 (([] : List va_W) ++ LB cy x0 x1 x2 d0 d1 p0 p1 h0 h1 a b hs sl T U x z y s).flatten 0 [(0, .ref x0)] []
  refine zj_aload_n C dL_pay_0 0 rfl ?_
  refine ij_iconst C dL_pay_1 ?_
  refine lc_count C ⟨Nat.le_of_ble_eq_true rfl, Nat.le_of_ble_eq_true rfl⟩ ⟨Nat.le_of_ble_eq_true rfl, Nat.le_of_ble_eq_true rfl⟩ hO ([] : List va_W) (jI 0) (Nat.le_of_ble_eq_true rfl) dL_pay_2 (vc_0 hG z y) ?_
  refine zj_istore_n C (L' := [(1, .int (jI (cI T))), (0, .ref x0)]) dL_pay_5 rfl (by decide) rfl ?_
  refine zj_aload_n C dL_pay_6 1 rfl ?_
  refine ij_bipush C dL_pay_7 (by decide) ?_
  refine lc_count C ⟨Nat.le_of_ble_eq_true rfl, Nat.le_of_ble_eq_true rfl⟩ ⟨Nat.le_of_ble_eq_true rfl, Nat.le_of_ble_eq_true rfl⟩ hO ([] : List va_W) (jI 6) (Nat.le_of_ble_eq_true rfl) dL_pay_9 (vc_6 hG z y) ?_
  refine zj_istore_n C (L' := [(2, .int (jI (poI T))), (1, .int (jI (cI T))), (0, .ref x0)]) dL_pay_12 rfl (by decide) rfl ?_
  refine zj_aload_n C dL_pay_13 2 rfl ?_
  refine ij_iconst C dL_pay_14 ?_
  refine lc_price C ⟨Nat.le_of_ble_eq_true rfl, Nat.le_of_ble_eq_true rfl⟩ ⟨Nat.le_of_ble_eq_true rfl, Nat.le_of_ble_eq_true rfl⟩ hO ([] : List va_W) (jI 3) (Nat.le_of_ble_eq_true rfl) dL_pay_15 (fun r1_ x1_ e1_ => ?_)
  refine ij_l (iI T) (vp_3 hG e1_) ?_
  refine zj_lstore_n C (L' := [(3, .long (jL (iI T))), (2, .int (jI (poI T))), (1, .int (jI (cI T))), (0, .ref x0)]) dL_pay_18 rfl (by decide) rfl ?_
  refine zj_aload_n C dL_pay_19 3 rfl ?_
  refine ij_iconst C dL_pay_20 ?_
  refine lc_count C ⟨Nat.le_of_ble_eq_true rfl, Nat.le_of_ble_eq_true rfl⟩ ⟨Nat.le_of_ble_eq_true rfl, Nat.le_of_ble_eq_true rfl⟩ hO ([] : List va_W) (jI 5) (Nat.le_of_ble_eq_true rfl) dL_pay_21 (vc_5 hG z y) ?_
  have J : zJ E 12 0 0 (([] : List va_W) ++ LB cy x0 x1 x2 d0 d1 p0 p1 h0 h1 a b hs sl T U x1_ z y s).flatten 49 [(3, .long (jL (iI T))), (2, .int (jI (poI T))), (1, .int (jI (cI T))), (0, .ref x0)] [.long (jL (egI T))] := by
    refine zj_lstore C (L' := [(5, .long (jL (egI T))), (3, .long (jL (iI T))), (2, .int (jI (poI T))), (1, .int (jI (cI T))), (0, .ref x0)]) dL_pay_49 (by decide) rfl ?_
    refine ij_bipush C dL_pay_51 (by decide) ?_
    refine ij_newl C 6 rfl (by decide) ⟨Nat.le_of_ble_eq_true rfl, Nat.le_of_ble_eq_true rfl⟩ dL_pay_53 (fun q7 => ?_)
    show zJ E 12 1 6 (([LA cy q7 6 (fun _ => 0)] : List va_W) ++ LB cy x0 x1 x2 d0 d1 p0 p1 h0 h1 a b hs sl T U x1_ z y s).flatten 55 [(5, .long (jL (egI T))), (3, .long (jL (iI T))), (2, .int (jI (poI T))), (1, .int (jI (cI T))), (0, .ref x0)] [.ref q7]
    refine zj_astore C (L' := [(7, .ref q7), (5, .long (jL (egI T))), (3, .long (jL (iI T))), (2, .int (jI (poI T))), (1, .int (jI (cI T))), (0, .ref x0)]) dL_pay_55 (by decide) rfl ?_
    refine ij_bipush C dL_pay_57 (by decide) ?_
    refine ij_newl C 6 rfl (by decide) ⟨Nat.le_of_ble_eq_true rfl, Nat.le_of_ble_eq_true rfl⟩ dL_pay_59 (fun q8 => ?_)
    show zJ E 12 2 12 (([LA cy q8 6 (fun _ => 0), LA cy q7 6 (fun _ => 0)] : List va_W) ++ LB cy x0 x1 x2 d0 d1 p0 p1 h0 h1 a b hs sl T U x1_ z y s).flatten 61 [(7, .ref q7), (5, .long (jL (egI T))), (3, .long (jL (iI T))), (2, .int (jI (poI T))), (1, .int (jI (cI T))), (0, .ref x0)] [.ref q8]
    refine zj_astore C (L' := [(8, .ref q8), (7, .ref q7), (5, .long (jL (egI T))), (3, .long (jL (iI T))), (2, .int (jI (poI T))), (1, .int (jI (cI T))), (0, .ref x0)]) dL_pay_61 (by decide) rfl ?_
    refine zj_lconst C (v := jL 0) dL_pay_63 (by decide) ?_
    refine zj_lstore C (L' := [(9, .long (jL 0)), (8, .ref q8), (7, .ref q7), (5, .long (jL (egI T))), (3, .long (jL (iI T))), (2, .int (jI (poI T))), (1, .int (jI (cI T))), (0, .ref x0)]) dL_pay_64 (by decide) rfl ?_
    refine ij_iconst C dL_pay_66 ?_
    refine zj_istore C (L' := [(11, .int (jI 0)), (9, .long (jL 0)), (8, .ref q8), (7, .ref q7), (5, .long (jL (egI T))), (3, .long (jL (iI T))), (2, .int (jI (poI T))), (1, .int (jI (cI T))), (0, .ref x0)]) dL_pay_67 (by decide) rfl ?_
    refine zj_sub (L' := [(11, .int (jI 0)), (9, .long (jL 0)), (8, .ref q8), (7, .ref q7), (5, .long (jL (egI T))), (3, .long (jL (iI T))), (2, .int (jI (poI T))), (1, .int (jI (cI T))), (0, .ref x0)]) [0, 1, 2, 3, 4, 5, 6, 7, 8] rfl ?_
    show zJ E 12 2 12 (([LA cy q8 6 (fun _ => 0), LA cy q7 6 (fun _ => 0)] : List va_W) ++ LB cy x0 x1 x2 d0 d1 p0 p1 h0 h1 a b hs sl T U x1_ z y s).flatten 69 [(11, .int (jI ((0 : Nat) : Int))), (9, .long (jL (isum (gtI T) 0))), (8, .ref q8), (7, .ref q7), (5, .long (jL (egI T))), (3, .long (jL (iI T))), (2, .int (jI (poI T))), (1, .int (jI (cI T))), (0, .ref x0)] []
    refine pay_l C hG hO (fun f7 f8 hf => ?_) 6 0 _ _ (by omega) (fun j hj => absurd hj (Nat.not_lt_zero j))
    obtain ⟨T1, y1, eX, hG1, hO1, -, s1, s2, s3, s4, s5⟩ := pay_7 hG hO
    obtain ⟨⟨tc1, tc2⟩, -, -, -, -, -, ⟨tp1, tp2⟩, -⟩ := GI_r hG1
    refine zj_aload_n C dL_pay_189 8 rfl ?_
    refine lc_pay C ⟨Nat.le_of_ble_eq_true rfl, Nat.le_of_ble_eq_true rfl⟩ ⟨Nat.le_of_ble_eq_true rfl, Nat.le_of_ble_eq_true rfl⟩ hO ([LA cy q8 6 f8, LA cy q7 6 f7] : List va_W) (Nat.le_of_ble_eq_true rfl) dL_pay_190 (fun r_ T_ y_ e_ => ?_)
    cases (eX.symm.trans e_)
    refine ij_i2l C ⟨by omega, by omega⟩ dL_pay_193 ?_
    refine zj_lload C dL_pay_194 1 rfl ?_
    refine ij_lcmp_ne C 248 dL_pay_196 dL_pay_197 (by decide) ⟨by omega, by omega⟩ ⟨by omega, by omega⟩ (fun h => False.elim (by omega)) (fun _ => ?_)
    refine zj_aload_n C dL_pay_200 8 rfl ?_
    refine ij_iconst C dL_pay_201 ?_
    refine lc_count C ⟨Nat.le_of_ble_eq_true rfl, Nat.le_of_ble_eq_true rfl⟩ ⟨Nat.le_of_ble_eq_true rfl, Nat.le_of_ble_eq_true rfl⟩ hO1 ([LA cy q8 6 f8, LA cy q7 6 f7] : List va_W) (jI 0) (Nat.le_of_ble_eq_true rfl) dL_pay_202 (vc_0 hG1 z y1) ?_
    refine ij_i2l C ⟨by omega, by omega⟩ dL_pay_205 ?_
    refine zj_iload_n C dL_pay_206 7 rfl ?_
    refine ij_i2l C ⟨by omega, by omega⟩ dL_pay_207 ?_
    refine zj_lload C dL_pay_208 1 rfl ?_
    refine ij_lsub C dL_pay_210 ?_
    refine ij_lcmp_ne C 248 dL_pay_211 dL_pay_212 (by decide) ⟨by omega, by omega⟩ ⟨by omega, by omega⟩ (fun h => False.elim (by omega)) (fun _ => ?_)
    refine zj_aload_n C dL_pay_215 8 rfl ?_
    refine ij_bipush C dL_pay_216 (by decide) ?_
    refine lc_count C ⟨Nat.le_of_ble_eq_true rfl, Nat.le_of_ble_eq_true rfl⟩ ⟨Nat.le_of_ble_eq_true rfl, Nat.le_of_ble_eq_true rfl⟩ hO1 ([LA cy q8 6 f8, LA cy q7 6 f7] : List va_W) (jI 6) (Nat.le_of_ble_eq_true rfl) dL_pay_218 (vc_6 hG1 z y1) ?_
    refine ij_i2l C ⟨by omega, by omega⟩ dL_pay_221 ?_
    refine zj_iload_n C dL_pay_222 6 rfl ?_
    refine ij_i2l C ⟨by omega, by omega⟩ dL_pay_223 ?_
    refine zj_lload C dL_pay_224 1 rfl ?_
    refine ij_lsub C dL_pay_226 ?_
    refine ij_lcmp_ne C 248 dL_pay_227 dL_pay_228 (by decide) ⟨by omega, by omega⟩ ⟨by omega, by omega⟩ (fun h => False.elim (by omega)) (fun _ => ?_)
    refine zj_aload_n C dL_pay_231 8 rfl ?_
    refine ij_bipush C dL_pay_232 (by decide) ?_
    refine lc_count C ⟨Nat.le_of_ble_eq_true rfl, Nat.le_of_ble_eq_true rfl⟩ ⟨Nat.le_of_ble_eq_true rfl, Nat.le_of_ble_eq_true rfl⟩ hO1 ([LA cy q8 6 f8, LA cy q7 6 f7] : List va_W) (jI 7) (Nat.le_of_ble_eq_true rfl) dL_pay_234 (vc_7 hG1 z y1) ?_
    refine ij_if_ne C 248 dL_pay_237 (by decide) ⟨by omega, by omega⟩ (fun h => False.elim (by omega)) (fun _ => ?_)
    refine zj_aload_n C dL_pay_240 8 rfl ?_
    refine ij_iconst C dL_pay_241 ?_
    refine lc_count C ⟨Nat.le_of_ble_eq_true rfl, Nat.le_of_ble_eq_true rfl⟩ ⟨Nat.le_of_ble_eq_true rfl, Nat.le_of_ble_eq_true rfl⟩ hO1 ([LA cy q8 6 f8, LA cy q7 6 f7] : List va_W) (jI 5) (Nat.le_of_ble_eq_true rfl) dL_pay_242 (vc_5 hG1 z y1) ?_
    refine ij_if_eq C 250 dL_pay_245 (by decide) ⟨by omega, by omega⟩ (fun _ => ?_) (fun h => False.elim (by omega))
    refine ij_iconst C dL_pay_250 ?_
    refine zj_istore C (L' := [(11, .int (jI 0)), (9, .long (jL (isum (gtI T) 6))), (8, .ref q8), (7, .ref q7), (5, .long (jL (egI T))), (3, .long (jL (iI T))), (2, .int (jI (poI T))), (1, .int (jI (cI T))), (0, .ref x0)]) dL_pay_251 (by decide) rfl ?_
    refine zj_sub (L' := [(11, .int (jI 0)), (9, .long (jL (isum (gtI T) 6))), (8, .ref q8), (7, .ref q7), (5, .long (jL (egI T))), (3, .long (jL (iI T))), (2, .int (jI (poI T))), (1, .int (jI (cI T))), (0, .ref x0)]) [0, 1, 2, 3, 4, 5, 6, 7, 8] rfl ?_
    show zJ E 12 2 12 (([LA cy q8 6 f8, LA cy q7 6 f7] : List va_W) ++ LB cy x0 x1 x2 d0 d1 p0 p1 h0 h1 a b hs sl T1 U x1_ z y1 s).flatten 253 [(11, .int (jI ((0 : Nat) : Int))), (9, .long (jL (isum (gtI T) 6))), (8, .ref q8), (7, .ref q7), (5, .long (jL (egI T))), (3, .long (jL (iI T))), (2, .int (jI (poI T))), (1, .int (jI (cI T))), (0, .ref x0)] []
    refine pay_c C hG1 hO1 (fun j hj => ?_) ?_ 6 0 (by omega)
    · obtain ⟨a1, a2, a3⟩ := s5 j hj
      obtain ⟨b1, b2⟩ := hf j hj
      exact ⟨by omega, by omega, a3⟩
    show zJ E 12 2 12 (([LA cy q8 6 f8, LA cy q7 6 f7] : List va_W) ++ LB cy x0 x1 x2 d0 d1 p0 p1 h0 h1 a b hs sl T1 U x1_ z y1 s).flatten 314 [(11, .int (jI (6 : Int))), (9, .long (jL (isum (gtI T) 6))), (8, .ref q8), (7, .ref q7), (5, .long (jL (egI T))), (3, .long (jL (iI T))), (2, .int (jI (poI T))), (1, .int (jI (cI T))), (0, .ref x0)] []
    refine ij_iconst C dL_pay_314 ?_
    refine zj_dropX [LA cy q8 6 f8, LA cy q7 6 f7] _ ?_
    exact hret _ _ (some (.int (jI 1))) _ ⟨rfl, _, _, _, hG1, hO1, rfl⟩ (zOk_z (Or.inr rfl)) dL_pay_315
  refine ij_if_ne C 31 dL_pay_24 (by decide) ⟨by omega, by omega⟩ (fun hb => ?_) (fun hb => ?_)
  · skip
    have em : egI T = 1000 * evI T / uNew T := if_neg (by omega)
    refine zj_ldc2 C dL_pay_31 tgv_471 ?_
    refine ij_l 1000 (by decide) ?_
    refine zj_aload_n C dL_pay_34 3 rfl ?_
    refine ij_bipush C dL_pay_35 (by decide) ?_
    refine lc_count C ⟨Nat.le_of_ble_eq_true rfl, Nat.le_of_ble_eq_true rfl⟩ ⟨Nat.le_of_ble_eq_true rfl, Nat.le_of_ble_eq_true rfl⟩ hO ([] : List va_W) (jI 7) (Nat.le_of_ble_eq_true rfl) dL_pay_37 (vc_7 hG z y) ?_
    refine ij_i2l C ⟨by omega, by omega⟩ dL_pay_40 ?_
    refine ij_lmul C dL_pay_41 ?_
    refine zj_aload_n C dL_pay_42 3 rfl ?_
    refine ij_iconst C dL_pay_43 ?_
    refine lc_count C ⟨Nat.le_of_ble_eq_true rfl, Nat.le_of_ble_eq_true rfl⟩ ⟨Nat.le_of_ble_eq_true rfl, Nat.le_of_ble_eq_true rfl⟩ hO ([] : List va_W) (jI 5) (Nat.le_of_ble_eq_true rfl) dL_pay_44 (vc_5 hG z y) ?_
    refine ij_i2l C ⟨by omega, by omega⟩ dL_pay_47 ?_
    refine ij_ldiv C ⟨by omega, by omega⟩ ⟨by omega, by omega⟩ dL_pay_48 ?_
    refine ij_el (egI T) em.symm ?_
    exact J
  · skip
    have em : egI T = 0 := if_pos (by omega)
    refine zj_lconst C (v := jL 0) dL_pay_27 (by decide) ?_
    refine ij_el (egI T) em.symm ?_
    refine zj_goto C 49 dL_pay_28 (by decide) ?_
    exact J
