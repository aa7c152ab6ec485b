/-! text. Written by wip/p26/law23.py -/
section TXT
variable {E : zE} {cy : Nat → ClassId} {l : Launch} {D : va_G} {x0 x1 x2 d0 d1 p0 p1 h0 h1 : Nat} {a b : Nat → Nat} {hs sl : Nat → Nat → Nat} {T U : zTr} {x : zDd} {z : zPd} {y : zHs} {s : zSl} {Dd c : Int}
set_option maxHeartbeats 4000000 in
set_option maxRecDepth 100000 in
theorem text_b (C : zO E cL_text 17 "SwingUnitsLaw" rm_2 cy l D) (hG : GI Dd c T) (hO : LO T z y s) (hD : Dd + 2 ≤ 100000) (hcc : c + 6 ≤ 400) (hret : ∀ (L : List (Nat × Value)) (T' : zTr) (x' : zDd) (z' : zPd) (y' : zHs), GI (Dd + 1) (c + 6) T' → LO T' z' y' s → zJ E 17 0 0 (([] : List va_W) ++ LB cy x0 x1 x2 d0 d1 p0 p1 h0 h1 a b hs sl T' U x' z' y' s).flatten 533 L [.int (jI 1)]) {wh am hr ot un qu ic : Int} (hR : txR wh am hr ot un qu ic) : zJ E 17 0 0 (([] : List va_W) ++ LB cy x0 x1 x2 d0 d1 p0 p1 h0 h1 a b hs sl T U x z y s).flatten 86 [(9, .int (jI ic)), (8, .int (jI qu)), (7, .int (jI un)), (6, .int (jI ot)), (5, .int (jI hr)), (4, .int (jI am)), (3, .int (jI wh)), (0, .ref x0)] [] := by
  have hR0 := hR
  obtain ⟨⟨r1, r1b⟩, ⟨r2, r2b⟩, ⟨r3, r3b⟩, ⟨r4, r4b⟩, ⟨r5, r5b⟩, ⟨r6, r6b⟩, ⟨r7, r7b⟩⟩ := hR0
  have hpr := prI_r T
  obtain ⟨z1, ez1⟩ : ∃ q, q = sPd_n z 0 := ⟨_, rfl⟩
  have eW : f_X7_wipe z = (nI (gPd_n z), z1) := by rw [ez1]; rfl
  have n1 : gPd_n z1 = 0 := by rw [ez1]
  have hO1 : LO T z1 y s := by rw [ez1]; obtain ⟨q1, q2, q3, q4, q5⟩ := hO; exact ⟨q1, q2, q3, Nat.zero_le _, q5⟩
  refine zj_aload_n C dL_text_86 7 rfl ?_
  refine lc_wipe C ⟨Nat.le_of_ble_eq_true rfl, Nat.le_of_ble_eq_true rfl⟩ ⟨Nat.le_of_ble_eq_true rfl, Nat.le_of_ble_eq_true rfl⟩ hO ([] : List va_W)  (Nat.le_of_ble_eq_true rfl) dL_text_87 (fun r_ z_ e_ => ?_)
  cases (eW.symm.trans e_)
  refine zj_pop C dL_text_90 rfl ?_
  refine zj_aload_n C dL_text_91 7 rfl ?_
  refine ij_bipush C dL_text_92 (by decide) ?_
  refine ij_bipush C dL_text_94 (by decide) ?_
  refine zj_iload_n C dL_text_96 6 rfl ?_
  refine ij_iadd C dL_text_97 ?_
  refine ij_bipush C dL_text_98 (by decide) ?_
  refine ij_bipush C dL_text_100 (by decide) ?_
  refine zj_iload C dL_text_102 5 rfl ?_
  refine ij_sipush C dL_text_104 (by decide) ?_
  refine ij_idiv C ⟨by omega, by omega⟩ ⟨by decide, by decide⟩ dL_text_107 ?_
  refine ij_iadd C dL_text_108 ?_
  refine ij_bipush C dL_text_109 (by decide) ?_
  refine zj_iload C dL_text_111 5 rfl ?_
  refine ij_bipush C dL_text_113 (by decide) ?_
  refine ij_idiv C ⟨by omega, by omega⟩ ⟨by decide, by decide⟩ dL_text_115 ?_
  refine ij_bipush C dL_text_116 (by decide) ?_
  refine ij_irem C ⟨by omega, by omega⟩ ⟨by decide, by decide⟩ dL_text_118 ?_
  refine ij_iadd C dL_text_119 ?_
  refine ij_bipush C dL_text_120 (by decide) ?_
  refine zj_iload C dL_text_122 5 rfl ?_
  refine ij_bipush C dL_text_124 (by decide) ?_
  refine ij_idiv C ⟨by omega, by omega⟩ ⟨by decide, by decide⟩ dL_text_126 ?_
  refine ij_bipush C dL_text_127 (by decide) ?_
  refine ij_irem C ⟨by omega, by omega⟩ ⟨by decide, by decide⟩ dL_text_129 ?_
  refine ij_iadd C dL_text_130 ?_
  refine ij_bipush C dL_text_131 (by decide) ?_
  refine zj_iload C dL_text_133 5 rfl ?_
  refine ij_bipush C dL_text_135 (by decide) ?_
  refine ij_irem C ⟨by omega, by omega⟩ ⟨by decide, by decide⟩ dL_text_137 ?_
  refine ij_iadd C dL_text_138 ?_
  refine ij_bipush C dL_text_139 (by decide) ?_
  refine ls_type8 C ⟨Nat.le_of_ble_eq_true rfl, Nat.le_of_ble_eq_true rfl⟩ ⟨Nat.le_of_ble_eq_true rfl, Nat.le_of_ble_eq_true rfl⟩ hO1 (by rw [n1]; decide) ([] : List va_W) 98 (48 + wh) 58 (48 + (am / 1000)) (48 + ((am / 100) % 10)) (48 + ((am / 10) % 10)) (48 + (am % 10)) 64 ⟨by omega, by omega⟩ ⟨by omega, by omega⟩ ⟨by omega, by omega⟩ ⟨by omega, by omega⟩ ⟨by omega, by omega⟩ ⟨by omega, by omega⟩ ⟨by omega, by omega⟩ ⟨by omega, by omega⟩ (Nat.le_of_ble_eq_true rfl) dL_text_141 (fun z2 gg1 => ?_)
  obtain ⟨n2, k2, ⟨e1_0, e1_1, e1_2, e1_3, e1_4, e1_5, e1_6, e1_7⟩, hO2⟩ := gg1
  rw [n1] at n2 k2 e1_0 e1_1 e1_2 e1_3 e1_4 e1_5 e1_6 e1_7
  have n2 : gPd_n z2 = 8 := n2
  refine ij_if_eq C 282 dL_text_144 (by decide) ⟨by decide, by decide⟩ (fun h => False.elim (by omega)) (fun _ => ?_)
  refine zj_aload_n C dL_text_147 7 rfl ?_
  refine ij_bipush C dL_text_148 (by decide) ?_
  refine zj_iload C dL_text_150 4 rfl ?_
  refine ij_bipush C dL_text_152 (by decide) ?_
  refine ij_idiv C ⟨by omega, by omega⟩ ⟨by decide, by decide⟩ dL_text_154 ?_
  refine ij_iadd C dL_text_155 ?_
  refine ij_bipush C dL_text_156 (by decide) ?_
  refine zj_iload C dL_text_158 4 rfl ?_
  refine ij_bipush C dL_text_160 (by decide) ?_
  refine ij_irem C ⟨by omega, by omega⟩ ⟨by decide, by decide⟩ dL_text_162 ?_
  refine ij_iadd C dL_text_163 ?_
  refine ij_bipush C dL_text_164 (by decide) ?_
  refine ij_bipush C dL_text_166 (by decide) ?_
  refine ij_bipush C dL_text_168 (by decide) ?_
  refine zj_iload C dL_text_170 3 rfl ?_
  refine ij_iadd C dL_text_172 ?_
  refine ij_bipush C dL_text_173 (by decide) ?_
  refine ij_bipush C dL_text_175 (by decide) ?_
  refine zj_iload C dL_text_177 2 rfl ?_
  refine ij_bipush C dL_text_179 (by decide) ?_
  refine ij_idiv C ⟨by omega, by omega⟩ ⟨by decide, by decide⟩ dL_text_181 ?_
  refine ij_iadd C dL_text_182 ?_
  refine ij_bipush C dL_text_183 (by decide) ?_
  refine zj_iload C dL_text_185 2 rfl ?_
  refine ij_bipush C dL_text_187 (by decide) ?_
  refine ij_irem C ⟨by omega, by omega⟩ ⟨by decide, by decide⟩ dL_text_189 ?_
  refine ij_iadd C dL_text_190 ?_
  refine ls_type8 C ⟨Nat.le_of_ble_eq_true rfl, Nat.le_of_ble_eq_true rfl⟩ ⟨Nat.le_of_ble_eq_true rfl, Nat.le_of_ble_eq_true rfl⟩ hO2 (by rw [n2]; decide) ([] : List va_W) (48 + (hr / 10)) (48 + (hr % 10)) 59 108 (48 + ot) 58 (48 + (un / 10)) (48 + (un % 10)) ⟨by omega, by omega⟩ ⟨by omega, by omega⟩ ⟨by omega, by omega⟩ ⟨by omega, by omega⟩ ⟨by omega, by omega⟩ ⟨by omega, by omega⟩ ⟨by omega, by omega⟩ ⟨by omega, by omega⟩ (Nat.le_of_ble_eq_true rfl) dL_text_191 (fun z3 gg2 => ?_)
  obtain ⟨n3, k3, ⟨e2_0, e2_1, e2_2, e2_3, e2_4, e2_5, e2_6, e2_7⟩, hO3⟩ := gg2
  rw [n2] at n3 k3 e2_0 e2_1 e2_2 e2_3 e2_4 e2_5 e2_6 e2_7
  have n3 : gPd_n z3 = 16 := n3
  refine ij_if_eq C 282 dL_text_194 (by decide) ⟨by decide, by decide⟩ (fun h => False.elim (by omega)) (fun _ => ?_)
  refine zj_aload_n C dL_text_197 7 rfl ?_
  refine ij_bipush C dL_text_198 (by decide) ?_
  refine ij_bipush C dL_text_200 (by decide) ?_
  refine ij_bipush C dL_text_202 (by decide) ?_
  refine ij_bipush C dL_text_204 (by decide) ?_
  refine ij_bipush C dL_text_206 (by decide) ?_
  refine zj_iload C dL_text_208 1 rfl ?_
  refine ij_bipush C dL_text_210 (by decide) ?_
  refine ij_idiv C ⟨by omega, by omega⟩ ⟨by decide, by decide⟩ dL_text_212 ?_
  refine ij_iadd C dL_text_213 ?_
  refine ij_bipush C dL_text_214 (by decide) ?_
  refine zj_iload C dL_text_216 1 rfl ?_
  refine ij_bipush C dL_text_218 (by decide) ?_
  refine ij_idiv C ⟨by omega, by omega⟩ ⟨by decide, by decide⟩ dL_text_220 ?_
  refine ij_bipush C dL_text_221 (by decide) ?_
  refine ij_irem C ⟨by omega, by omega⟩ ⟨by decide, by decide⟩ dL_text_223 ?_
  refine ij_iadd C dL_text_224 ?_
  refine ij_bipush C dL_text_225 (by decide) ?_
  refine zj_iload C dL_text_227 1 rfl ?_
  refine ij_bipush C dL_text_229 (by decide) ?_
  refine ij_irem C ⟨by omega, by omega⟩ ⟨by decide, by decide⟩ dL_text_231 ?_
  refine ij_iadd C dL_text_232 ?_
  refine ij_bipush C dL_text_233 (by decide) ?_
  refine ls_type8 C ⟨Nat.le_of_ble_eq_true rfl, Nat.le_of_ble_eq_true rfl⟩ ⟨Nat.le_of_ble_eq_true rfl, Nat.le_of_ble_eq_true rfl⟩ hO3 (by rw [n3]; decide) ([] : List va_W) 59 100 59 113 (48 + (qu / 100)) (48 + ((qu / 10) % 10)) (48 + (qu % 10)) 59 ⟨by omega, by omega⟩ ⟨by omega, by omega⟩ ⟨by omega, by omega⟩ ⟨by omega, by omega⟩ ⟨by omega, by omega⟩ ⟨by omega, by omega⟩ ⟨by omega, by omega⟩ ⟨by omega, by omega⟩ (Nat.le_of_ble_eq_true rfl) dL_text_235 (fun z4 gg3 => ?_)
  obtain ⟨n4, k4, ⟨e3_0, e3_1, e3_2, e3_3, e3_4, e3_5, e3_6, e3_7⟩, hO4⟩ := gg3
  rw [n3] at n4 k4 e3_0 e3_1 e3_2 e3_3 e3_4 e3_5 e3_6 e3_7
  have n4 : gPd_n z4 = 24 := n4
  refine ij_if_eq C 282 dL_text_238 (by decide) ⟨by decide, by decide⟩ (fun h => False.elim (by omega)) (fun _ => ?_)
  refine zj_aload_n C dL_text_241 7 rfl ?_
  refine ij_bipush C dL_text_242 (by decide) ?_
  refine ij_bipush C dL_text_244 (by decide) ?_
  refine zj_iload C dL_text_246 0 rfl ?_
  refine ij_bipush C dL_text_248 (by decide) ?_
  refine ij_idiv C ⟨by omega, by omega⟩ ⟨by decide, by decide⟩ dL_text_250 ?_
  refine ij_iadd C dL_text_251 ?_
  refine ij_bipush C dL_text_252 (by decide) ?_
  refine zj_iload C dL_text_254 0 rfl ?_
  refine ij_bipush C dL_text_256 (by decide) ?_
  refine ij_irem C ⟨by omega, by omega⟩ ⟨by decide, by decide⟩ dL_text_258 ?_
  refine ij_iadd C dL_text_259 ?_
  refine ij_bipush C dL_text_260 (by decide) ?_
  refine ij_bipush C dL_text_262 (by decide) ?_
  refine ij_iconst C dL_text_264 ?_
  refine ij_iconst C dL_text_265 ?_
  refine ij_iconst C dL_text_266 ?_
  refine ls_type5 C ⟨Nat.le_of_ble_eq_true rfl, Nat.le_of_ble_eq_true rfl⟩ ⟨Nat.le_of_ble_eq_true rfl, Nat.le_of_ble_eq_true rfl⟩ hO4 (by rw [n4]; decide) ([] : List va_W) 105 (48 + (ic / 10)) (48 + (ic % 10)) 59 112 ⟨by omega, by omega⟩ ⟨by omega, by omega⟩ ⟨by omega, by omega⟩ ⟨by omega, by omega⟩ ⟨by omega, by omega⟩ (Nat.le_of_ble_eq_true rfl) dL_text_267 (fun z5 gg4 => ?_)
  obtain ⟨n5, k5, ⟨e4_0, e4_1, e4_2, e4_3, e4_4⟩, hO5⟩ := gg4
  rw [n4] at n5 k5 e4_0 e4_1 e4_2 e4_3 e4_4
  have n5 : gPd_n z5 = 29 := n5
  refine ij_if_eq C 282 dL_text_270 (by decide) ⟨by decide, by decide⟩ (fun h => False.elim (by omega)) (fun _ => ?_)
  refine zj_aload_n C dL_text_273 7 rfl ?_
  have hTX : TXn (gPd_sg z5) wh am hr ot un qu ic := ⟨((k5 0 (by decide)).trans ((k4 0 (by decide)).trans ((k3 0 (by decide)).trans e1_0))), ((k5 1 (by decide)).trans ((k4 1 (by decide)).trans ((k3 1 (by decide)).trans e1_1))), ((k5 2 (by decide)).trans ((k4 2 (by decide)).trans ((k3 2 (by decide)).trans e1_2))), ((k5 3 (by decide)).trans ((k4 3 (by decide)).trans ((k3 3 (by decide)).trans e1_3))), ((k5 4 (by decide)).trans ((k4 4 (by decide)).trans ((k3 4 (by decide)).trans e1_4))), ((k5 5 (by decide)).trans ((k4 5 (by decide)).trans ((k3 5 (by decide)).trans e1_5))), ((k5 6 (by decide)).trans ((k4 6 (by decide)).trans ((k3 6 (by decide)).trans e1_6))), ((k5 7 (by decide)).trans ((k4 7 (by decide)).trans ((k3 7 (by decide)).trans e1_7))), ((k5 8 (by decide)).trans ((k4 8 (by decide)).trans e2_0)), ((k5 9 (by decide)).trans ((k4 9 (by decide)).trans e2_1)), ((k5 10 (by decide)).trans ((k4 10 (by decide)).trans e2_2)), ((k5 11 (by decide)).trans ((k4 11 (by decide)).trans e2_3)), ((k5 12 (by decide)).trans ((k4 12 (by decide)).trans e2_4)), ((k5 13 (by decide)).trans ((k4 13 (by decide)).trans e2_5)), ((k5 14 (by decide)).trans ((k4 14 (by decide)).trans e2_6)), ((k5 15 (by decide)).trans ((k4 15 (by decide)).trans e2_7)), ((k5 16 (by decide)).trans e3_0), ((k5 17 (by decide)).trans e3_1), ((k5 18 (by decide)).trans e3_2), ((k5 19 (by decide)).trans e3_3), ((k5 20 (by decide)).trans e3_4), ((k5 21 (by decide)).trans e3_5), ((k5 22 (by decide)).trans e3_6), ((k5 23 (by decide)).trans e3_7), e4_0, e4_1, e4_2, e4_3, e4_4⟩
  obtain ⟨z6, eF, pF⟩ := fault_t hTX hR n5 rfl
  have eFa : f_X7_fault z5 = (jI (-6), z6) := by unfold f_X7_fault; rw [eF]
  have hO6 : LO T z6 y s := by obtain ⟨q1, q2, q3, q4, q5⟩ := hO5; exact ⟨q1, q2, q3, by rw [pF.1]; decide, by rw [pF.2.1]; exact q5⟩
  refine lc_fault C ⟨Nat.le_of_ble_eq_true rfl, Nat.le_of_ble_eq_true rfl⟩ ⟨Nat.le_of_ble_eq_true rfl, Nat.le_of_ble_eq_true rfl⟩ hO5 ([] : List va_W)  (Nat.le_of_ble_eq_true rfl) dL_text_274 (fun r_ z_ e_ => ?_)
  cases (eFa.symm.trans e_)
  refine ij_bipush C dL_text_277 (by decide) ?_
  refine ij_icmp_eq C 284 dL_text_279 (by decide) ⟨by decide, by decide⟩ ⟨by decide, by decide⟩ (fun _ => ?_) (fun h => False.elim (by omega))
  refine zj_aload_n C dL_text_284 7 rfl ?_
  refine ls_print C ⟨Nat.le_of_ble_eq_true rfl, Nat.le_of_ble_eq_true rfl⟩ ⟨Nat.le_of_ble_eq_true rfl, Nat.le_of_ble_eq_true rfl⟩ hG hO6 ([] : List va_W) (Nat.le_of_ble_eq_true rfl) dL_text_285 (fun x1_ => ?_)
  refine zj_lstore C (L' := [(10, .long (jL (prI T))), (9, .int (jI ic)), (8, .int (jI qu)), (7, .int (jI un)), (6, .int (jI ot)), (5, .int (jI hr)), (4, .int (jI am)), (3, .int (jI wh)), (0, .ref x0)]) dL_text_288 (by decide) rfl ?_
  refine zj_aload_n C dL_text_290 8 rfl ?_
  obtain ⟨n, x7_, T7, z7, eC, hC, nz7, sz7⟩ := carry_t hTX hR x1_ hG hcc (by omega) pF.1 pF.2.1 x1_ y
  have hn6 := hC.1
  have hGc := chT_GI hR x1_ hG hcc (by omega) n hn6
  have hG7 := TE_GI hC.2.2.2 hGc
  obtain ⟨y7, ey7⟩ : ∃ q, q = hist2 y T (jI (n : Int)) := ⟨_, rfl⟩
  have hO7 : LO T7 z7 y7 s := by rw [ey7]; obtain ⟨q1, q2, q3, q4, q5⟩ := LO_mk hO6 hG7 (HO_hist (LO_HO hO6) (GI_oN hG) (jI (n : Int))); exact ⟨q1, q2, q3, by omega, by rw [sz7]; exact hO5.2.2.2.2⟩
  have hH7 : HL y7 [T] := by rw [ey7]; exact op_HL (LO_HO hO6) (HL_nil y) (by decide) ⟨by omega, by omega⟩
  rw [← ey7] at eC
  refine lc_carryOut C ⟨Nat.le_of_ble_eq_true rfl, Nat.le_of_ble_eq_true rfl⟩ ⟨Nat.le_of_ble_eq_true rfl, Nat.le_of_ble_eq_true rfl⟩ hO6 ([] : List va_W)  (carry_hP hTX hR hG hcc (by omega) pF.1 pF.2.1 x1_) (Nat.le_of_ble_eq_true rfl) dL_text_291 (fun r_ T_ x_ z_ y_ e_ => ?_)
  cases (eC.symm.trans e_)
  have hpr7 := prI_r T7
  obtain ⟨T8, y8, r8, eU, hr8, hT8, hG8, hO8, -⟩ := undo_sp hO7 hH7 hG
  have epr8 : prI T8 = prI T := TE_prI hT8 hG8 hG
  refine zj_istore C (L' := [(12, .int (jI (n : Int))), (10, .long (jL (prI T))), (9, .int (jI ic)), (8, .int (jI qu)), (7, .int (jI un)), (6, .int (jI ot)), (5, .int (jI hr)), (4, .int (jI am)), (3, .int (jI wh)), (0, .ref x0)]) dL_text_294 (by decide) rfl ?_
  refine zj_iload C dL_text_296 0 rfl ?_
  refine ij_if_lt C 310 dL_text_298 (by decide) ⟨by omega, by omega⟩ (fun h => False.elim (by omega)) (fun _ => ?_)
  refine zj_aload_n C dL_text_301 9 rfl ?_
  refine ij_bipush C dL_text_302 (by decide) ?_
  refine lc_count C ⟨Nat.le_of_ble_eq_true rfl, Nat.le_of_ble_eq_true rfl⟩ ⟨Nat.le_of_ble_eq_true rfl, Nat.le_of_ble_eq_true rfl⟩ hO7 ([] : List va_W) (jI 17) (Nat.le_of_ble_eq_true rfl) dL_text_304 (vc_17 hG7 z7 y7) ?_
  refine ij_if_eq C 312 dL_text_307 (by decide) ⟨by omega, by omega⟩ (fun _ => ?_) (fun h => False.elim (by omega))
  refine zj_aload_n C dL_text_312 9 rfl ?_
  refine ls_print C ⟨Nat.le_of_ble_eq_true rfl, Nat.le_of_ble_eq_true rfl⟩ ⟨Nat.le_of_ble_eq_true rfl, Nat.le_of_ble_eq_true rfl⟩ hG7 hO7 ([] : List va_W) (Nat.le_of_ble_eq_true rfl) dL_text_313 (fun x2_ => ?_)
  refine zj_lstore C (L' := [(13, .long (jL (prI T7))), (12, .int (jI (n : Int))), (10, .long (jL (prI T))), (9, .int (jI ic)), (8, .int (jI qu)), (7, .int (jI un)), (6, .int (jI ot)), (5, .int (jI hr)), (4, .int (jI am)), (3, .int (jI wh)), (0, .ref x0)]) dL_text_316 (by decide) rfl ?_
  refine zj_aload_n C dL_text_318 10 rfl ?_
  refine lc_undo C ⟨Nat.le_of_ble_eq_true rfl, Nat.le_of_ble_eq_true rfl⟩ ⟨Nat.le_of_ble_eq_true rfl, Nat.le_of_ble_eq_true rfl⟩ hO7 ([] : List va_W)  (Nat.le_of_ble_eq_true rfl) dL_text_319 (fun r_ T_ y_ e_ => ?_)
  cases (eU.symm.trans e_)
  refine ij_if_lt C 335 dL_text_322 (by decide) ⟨by omega, by omega⟩ (fun h => False.elim (by omega)) (fun _ => ?_)
  refine zj_aload_n C dL_text_325 10 rfl ?_
  refine ls_print C ⟨Nat.le_of_ble_eq_true rfl, Nat.le_of_ble_eq_true rfl⟩ ⟨Nat.le_of_ble_eq_true rfl, Nat.le_of_ble_eq_true rfl⟩ hG8 hO8 ([] : List va_W) (Nat.le_of_ble_eq_true rfl) dL_text_326 (fun x3_ => ?_)
  refine ij_el (prI T) epr8 ?_
  refine zj_lload C dL_text_329 2 rfl ?_
  refine ij_lcmp_eq C 337 dL_text_331 dL_text_332 (by decide) ⟨by omega, by omega⟩ ⟨by omega, by omega⟩ (fun _ => ?_) (fun h => False.elim (by omega))
  refine ij_iconst C dL_text_337 ?_
  refine zj_istore C (L' := [(15, .int (jI 0)), (13, .long (jL (prI T7))), (12, .int (jI (n : Int))), (10, .long (jL (prI T))), (9, .int (jI ic)), (8, .int (jI qu)), (7, .int (jI un)), (6, .int (jI ot)), (5, .int (jI hr)), (4, .int (jI am)), (3, .int (jI wh)), (0, .ref x0)]) dL_text_338 (by decide) rfl ?_
  refine zj_sub (L' := [(15, .int (jI 0)), (13, .long (jL (prI T7))), (12, .int (jI (n : Int))), (9, .int (jI ic)), (8, .int (jI qu)), (7, .int (jI un)), (6, .int (jI ot)), (5, .int (jI hr)), (4, .int (jI am)), (3, .int (jI wh)), (0, .ref x0)]) [0, 1, 2, 4, 5, 6, 7, 8, 9, 10, 11] rfl ?_
  have t0 : TE T8 (chT wh am hr ot un qu ic x1_ T 0) := hT8
  have j0 : ∀ j : Nat, j < 0 → 0 ≤ (opT wh am hr ot un qu ic x1_ (chT wh am hr ot un qu ic x1_ T j) j).1.toInt := fun j hj => absurd hj (Nat.not_lt_zero j)
  have hGE0 : GI (dK Dd 0) c T8 := hG8
  have hCk := chT_GI hR x1_ hG hcc (by omega) 0 (by decide)
  obtain ⟨s0_1, s0_2⟩ := op_TE (wh := wh) (am := am) (hr := hr) (ot := ot) (un := un) (qu := qu) (ic := ic) t0 hGE0 hCk (by unfold dK; split <;> omega) (by unfold dK; split <;> omega) x3_ x1_ (k := 0) (by decide)
  obtain ⟨q0_, E1, eo0, hq0, hGE1, hn0⟩ := op_sp hR x3_ (k := 0) (by decide) hGE0 (by omega) (by omega)
  rw [eo0] at s0_1 s0_2
  have s0_1 := (congrArg Int32.toInt s0_1).symm.trans (jI_t hq0)
  obtain ⟨y9, ey9⟩ : ∃ q, q = hist2 y8 T8 (jI q0_) := ⟨_, rfl⟩
  have xe0 : f_X7_buy T8 y8 (jI wh) (jI am) (jI hr) = (jI q0_, E1, y9) := by
    have e1 : f_X6_orderToBuy T8 (jI wh) (jI am) (jI hr) = (jI q0_, E1) := eo0
    rw [X7_buy, e1, ey9]
  have hOE1 : LO E1 z7 y9 s := by rw [ey9]; exact LO_op hGE0 hO8 hGE1 (jI q0_)
  refine zj_aload_n C dL_text_340 10 rfl ?_
  refine zj_iload_n C dL_text_341 9 rfl ?_
  refine zj_iload C dL_text_342 8 rfl ?_
  refine zj_iload C dL_text_344 7 rfl ?_
  refine lc_buy C ⟨Nat.le_of_ble_eq_true rfl, Nat.le_of_ble_eq_true rfl⟩ ⟨Nat.le_of_ble_eq_true rfl, Nat.le_of_ble_eq_true rfl⟩ hO8 ([] : List va_W) (jI wh) (jI am) (jI hr) (Nat.le_of_ble_eq_true rfl) dL_text_346 (fun r_ T_ y_ e_ => ?_)
  cases (xe0.symm.trans e_)
  refine ij_if_lt C 356 dL_text_349 (by decide) ⟨by omega, by omega⟩ (fun hb => ?_) (fun hb => ?_)
  · skip
    have eE := hn0 (by omega)
    have hL : cRes wh am hr ot un qu ic x1_ T 0 E1 := ⟨by decide, j0, fun _ => by rw [s0_1]; omega, by rw [eE]; exact t0⟩
    obtain ⟨hnk, hTn⟩ := cRes_uni hC hL
    have epn : prI E1 = prI T7 := (TE_prI hTn hG7 hGE1).symm
    refine ij_iconst C dL_text_356 ?_
    refine zj_istore C (L' := [(16, .int (jI 0)), (15, .int (jI 0)), (13, .long (jL (prI T7))), (12, .int (jI (n : Int))), (9, .int (jI ic)), (8, .int (jI qu)), (7, .int (jI un)), (6, .int (jI ot)), (5, .int (jI hr)), (4, .int (jI am)), (3, .int (jI wh)), (0, .ref x0)]) dL_text_357 (by decide) rfl ?_
    refine zj_iload C dL_text_359 0 rfl ?_
    refine ij_if_eq C 367 dL_text_361 (by decide) ⟨by decide, by decide⟩ (fun _ => ?_) (fun h => False.elim (by omega))
    refine zj_iload C dL_text_367 0 rfl ?_
    refine ij_if_eq C 388 dL_text_369 (by decide) ⟨by decide, by decide⟩ (fun _ => ?_) (fun h => False.elim (by omega))
    refine ij_iconst C dL_text_388 ?_
    refine zj_istore C (L' := [(16, .int (jI 0)), (15, .int (jI 0)), (13, .long (jL (prI T7))), (12, .int (jI (n : Int))), (9, .int (jI ic)), (8, .int (jI qu)), (7, .int (jI un)), (6, .int (jI ot)), (5, .int (jI hr)), (4, .int (jI am)), (3, .int (jI wh)), (0, .ref x0)]) dL_text_389 (by decide) rfl ?_
    refine zj_iload C dL_text_391 0 rfl ?_
    refine ij_if_eq C 399 dL_text_393 (by decide) ⟨by decide, by decide⟩ (fun _ => ?_) (fun h => False.elim (by omega))
    refine zj_iload C dL_text_399 0 rfl ?_
    refine ij_if_eq C 415 dL_text_401 (by decide) ⟨by decide, by decide⟩ (fun _ => ?_) (fun h => False.elim (by omega))
    refine ij_iconst C dL_text_415 ?_
    refine zj_istore C (L' := [(16, .int (jI 0)), (15, .int (jI 0)), (13, .long (jL (prI T7))), (12, .int (jI (n : Int))), (9, .int (jI ic)), (8, .int (jI qu)), (7, .int (jI un)), (6, .int (jI ot)), (5, .int (jI hr)), (4, .int (jI am)), (3, .int (jI wh)), (0, .ref x0)]) dL_text_416 (by decide) rfl ?_
    refine zj_iload C dL_text_418 0 rfl ?_
    refine ij_if_eq C 426 dL_text_420 (by decide) ⟨by decide, by decide⟩ (fun _ => ?_) (fun h => False.elim (by omega))
    refine zj_iload C dL_text_426 0 rfl ?_
    refine ij_if_eq C 444 dL_text_428 (by decide) ⟨by decide, by decide⟩ (fun _ => ?_) (fun h => False.elim (by omega))
    refine ij_iconst C dL_text_444 ?_
    refine zj_istore C (L' := [(16, .int (jI 0)), (15, .int (jI 0)), (13, .long (jL (prI T7))), (12, .int (jI (n : Int))), (9, .int (jI ic)), (8, .int (jI qu)), (7, .int (jI un)), (6, .int (jI ot)), (5, .int (jI hr)), (4, .int (jI am)), (3, .int (jI wh)), (0, .ref x0)]) dL_text_445 (by decide) rfl ?_
    refine zj_iload C dL_text_447 0 rfl ?_
    refine ij_if_eq C 455 dL_text_449 (by decide) ⟨by decide, by decide⟩ (fun _ => ?_) (fun h => False.elim (by omega))
    refine zj_iload C dL_text_455 0 rfl ?_
    refine ij_if_eq C 473 dL_text_457 (by decide) ⟨by decide, by decide⟩ (fun _ => ?_) (fun h => False.elim (by omega))
    refine ij_iconst C dL_text_473 ?_
    refine zj_istore C (L' := [(16, .int (jI 0)), (15, .int (jI 0)), (13, .long (jL (prI T7))), (12, .int (jI (n : Int))), (9, .int (jI ic)), (8, .int (jI qu)), (7, .int (jI un)), (6, .int (jI ot)), (5, .int (jI hr)), (4, .int (jI am)), (3, .int (jI wh)), (0, .ref x0)]) dL_text_474 (by decide) rfl ?_
    refine zj_iload C dL_text_476 0 rfl ?_
    refine ij_if_eq C 484 dL_text_478 (by decide) ⟨by decide, by decide⟩ (fun _ => ?_) (fun h => False.elim (by omega))
    refine zj_iload C dL_text_484 0 rfl ?_
    refine ij_if_eq C 500 dL_text_486 (by decide) ⟨by decide, by decide⟩ (fun _ => ?_) (fun h => False.elim (by omega))
    refine ij_iconst C dL_text_500 ?_
    refine zj_istore C (L' := [(16, .int (jI 0)), (15, .int (jI 0)), (13, .long (jL (prI T7))), (12, .int (jI (n : Int))), (9, .int (jI ic)), (8, .int (jI qu)), (7, .int (jI un)), (6, .int (jI ot)), (5, .int (jI hr)), (4, .int (jI am)), (3, .int (jI wh)), (0, .ref x0)]) dL_text_501 (by decide) rfl ?_
    refine zj_iload C dL_text_503 0 rfl ?_
    refine ij_if_eq C 511 dL_text_505 (by decide) ⟨by decide, by decide⟩ (fun _ => ?_) (fun h => False.elim (by omega))
    refine zj_iload C dL_text_511 1 rfl ?_
    refine zj_iload C dL_text_513 3 rfl ?_
    refine ij_icmp_ne C 532 dL_text_515 (by decide) ⟨by decide, by decide⟩ ⟨by omega, by omega⟩ (fun h => False.elim (by omega)) (fun _ => ?_)
    refine zj_aload_n C dL_text_518 11 rfl ?_
    refine ls_print C ⟨Nat.le_of_ble_eq_true rfl, Nat.le_of_ble_eq_true rfl⟩ ⟨Nat.le_of_ble_eq_true rfl, Nat.le_of_ble_eq_true rfl⟩ hGE1 hOE1 ([] : List va_W) (Nat.le_of_ble_eq_true rfl) dL_text_519 (fun x4_ => ?_)
    refine ij_el (prI T7) epn ?_
    refine zj_lload C dL_text_522 2 rfl ?_
    refine ij_lcmp_ne C 532 dL_text_524 dL_text_525 (by decide) ⟨by omega, by omega⟩ ⟨by omega, by omega⟩ (fun h => False.elim (by omega)) (fun _ => ?_)
    refine ij_iconst C dL_text_528 ?_
    refine zj_goto C 533 dL_text_529 (by decide) ?_
    exact hret _ _ _ _ _ (GI_wk (GI_D hGE1 (by unfold dK; split <;> omega) (by omega)) (by omega) (by omega)) hOE1
  · skip
    have t1 : TE E1 (chT wh am hr ot un qu ic x1_ T 1) := s0_2
    have j1 : ∀ j : Nat, j < 1 → 0 ≤ (opT wh am hr ot un qu ic x1_ (chT wh am hr ot un qu ic x1_ T j) j).1.toInt := fun j hj => by
      by_cases e6 : j = 0
      · subst e6; rw [s0_1]; omega
      · exact j0 j (by omega)
    refine ij_iconst C dL_text_352 ?_
    refine zj_goto C 357 dL_text_353 (by decide) ?_
    refine zj_istore C (L' := [(16, .int (jI 1)), (15, .int (jI 0)), (13, .long (jL (prI T7))), (12, .int (jI (n : Int))), (9, .int (jI ic)), (8, .int (jI qu)), (7, .int (jI un)), (6, .int (jI ot)), (5, .int (jI hr)), (4, .int (jI am)), (3, .int (jI wh)), (0, .ref x0)]) dL_text_357 (by decide) rfl ?_
    refine zj_iload C dL_text_359 0 rfl ?_
    refine ij_if_eq C 367 dL_text_361 (by decide) ⟨by decide, by decide⟩ (fun h => False.elim (by omega)) (fun _ => ?_)
    refine ij_iinc C (j := 1) (L2 := [(15, .int (jI 1)), (16, .int (jI 1)), (13, .long (jL (prI T7))), (12, .int (jI (n : Int))), (9, .int (jI ic)), (8, .int (jI qu)), (7, .int (jI un)), (6, .int (jI ot)), (5, .int (jI hr)), (4, .int (jI am)), (3, .int (jI wh)), (0, .ref x0)]) 1 rfl dL_text_364 rfl (by decide) rfl ?_
    refine zj_iload C dL_text_367 1 rfl ?_
    refine ij_if_eq C 388 dL_text_369 (by decide) ⟨by decide, by decide⟩ (fun h => False.elim (by omega)) (fun _ => ?_)
    have hCk := chT_GI hR x1_ hG hcc (by omega) 1 (by decide)
    obtain ⟨s1_1, s1_2⟩ := op_TE (wh := wh) (am := am) (hr := hr) (ot := ot) (un := un) (qu := qu) (ic := ic) t1 hGE1 hCk (by unfold dK; split <;> omega) (by unfold dK; split <;> omega) x3_ x1_ (k := 1) (by decide)
    obtain ⟨q1_, E2, eo1, hq1, hGE2, hn1⟩ := op_sp hR x3_ (k := 1) (by decide) hGE1 (by omega) (by omega)
    rw [eo1] at s1_1 s1_2
    have s1_1 := (congrArg Int32.toInt s1_1).symm.trans (jI_t hq1)
    obtain ⟨y10, ey10⟩ : ∃ q, q = hist2 y9 E1 (jI q1_) := ⟨_, rfl⟩
    have xe1 : f_X7_leave E1 y9 (jI ot) (jI un) (jI 0) = (jI q1_, E2, y10) := by
      have e1 : f_X6_orderToLeave E1 (jI ot) (jI un) (jI 0) = (jI q1_, E2) := eo1
      rw [X7_leave, e1, ey10]
    have hOE2 : LO E2 z7 y10 s := by rw [ey10]; exact LO_op hGE1 hOE1 hGE2 (jI q1_)
    refine zj_aload_n C dL_text_372 11 rfl ?_
    refine zj_iload C dL_text_373 7 rfl ?_
    refine zj_iload C dL_text_375 6 rfl ?_
    refine ij_iconst C dL_text_377 ?_
    refine lc_leave C ⟨Nat.le_of_ble_eq_true rfl, Nat.le_of_ble_eq_true rfl⟩ ⟨Nat.le_of_ble_eq_true rfl, Nat.le_of_ble_eq_true rfl⟩ hOE1 ([] : List va_W) (jI ot) (jI un) (jI 0) (Nat.le_of_ble_eq_true rfl) dL_text_378 (fun r_ T_ y_ e_ => ?_)
    cases (xe1.symm.trans e_)
    refine ij_if_lt C 388 dL_text_381 (by decide) ⟨by omega, by omega⟩ (fun hb => ?_) (fun hb => ?_)
    · skip
      have eE := hn1 (by omega)
      have hL : cRes wh am hr ot un qu ic x1_ T 1 E2 := ⟨by decide, j1, fun _ => by rw [s1_1]; omega, by rw [eE]; exact t1⟩
      obtain ⟨hnk, hTn⟩ := cRes_uni hC hL
      have epn : prI E2 = prI T7 := (TE_prI hTn hG7 hGE2).symm
      refine ij_iconst C dL_text_388 ?_
      refine zj_istore C (L' := [(16, .int (jI 0)), (15, .int (jI 1)), (13, .long (jL (prI T7))), (12, .int (jI (n : Int))), (9, .int (jI ic)), (8, .int (jI qu)), (7, .int (jI un)), (6, .int (jI ot)), (5, .int (jI hr)), (4, .int (jI am)), (3, .int (jI wh)), (0, .ref x0)]) dL_text_389 (by decide) rfl ?_
      refine zj_iload C dL_text_391 0 rfl ?_
      refine ij_if_eq C 399 dL_text_393 (by decide) ⟨by decide, by decide⟩ (fun _ => ?_) (fun h => False.elim (by omega))
      refine zj_iload C dL_text_399 0 rfl ?_
      refine ij_if_eq C 415 dL_text_401 (by decide) ⟨by decide, by decide⟩ (fun _ => ?_) (fun h => False.elim (by omega))
      refine ij_iconst C dL_text_415 ?_
      refine zj_istore C (L' := [(16, .int (jI 0)), (15, .int (jI 1)), (13, .long (jL (prI T7))), (12, .int (jI (n : Int))), (9, .int (jI ic)), (8, .int (jI qu)), (7, .int (jI un)), (6, .int (jI ot)), (5, .int (jI hr)), (4, .int (jI am)), (3, .int (jI wh)), (0, .ref x0)]) dL_text_416 (by decide) rfl ?_
      refine zj_iload C dL_text_418 0 rfl ?_
      refine ij_if_eq C 426 dL_text_420 (by decide) ⟨by decide, by decide⟩ (fun _ => ?_) (fun h => False.elim (by omega))
      refine zj_iload C dL_text_426 0 rfl ?_
      refine ij_if_eq C 444 dL_text_428 (by decide) ⟨by decide, by decide⟩ (fun _ => ?_) (fun h => False.elim (by omega))
      refine ij_iconst C dL_text_444 ?_
      refine zj_istore C (L' := [(16, .int (jI 0)), (15, .int (jI 1)), (13, .long (jL (prI T7))), (12, .int (jI (n : Int))), (9, .int (jI ic)), (8, .int (jI qu)), (7, .int (jI un)), (6, .int (jI ot)), (5, .int (jI hr)), (4, .int (jI am)), (3, .int (jI wh)), (0, .ref x0)]) dL_text_445 (by decide) rfl ?_
      refine zj_iload C dL_text_447 0 rfl ?_
      refine ij_if_eq C 455 dL_text_449 (by decide) ⟨by decide, by decide⟩ (fun _ => ?_) (fun h => False.elim (by omega))
      refine zj_iload C dL_text_455 0 rfl ?_
      refine ij_if_eq C 473 dL_text_457 (by decide) ⟨by decide, by decide⟩ (fun _ => ?_) (fun h => False.elim (by omega))
      refine ij_iconst C dL_text_473 ?_
      refine zj_istore C (L' := [(16, .int (jI 0)), (15, .int (jI 1)), (13, .long (jL (prI T7))), (12, .int (jI (n : Int))), (9, .int (jI ic)), (8, .int (jI qu)), (7, .int (jI un)), (6, .int (jI ot)), (5, .int (jI hr)), (4, .int (jI am)), (3, .int (jI wh)), (0, .ref x0)]) dL_text_474 (by decide) rfl ?_
      refine zj_iload C dL_text_476 0 rfl ?_
      refine ij_if_eq C 484 dL_text_478 (by decide) ⟨by decide, by decide⟩ (fun _ => ?_) (fun h => False.elim (by omega))
      refine zj_iload C dL_text_484 0 rfl ?_
      refine ij_if_eq C 500 dL_text_486 (by decide) ⟨by decide, by decide⟩ (fun _ => ?_) (fun h => False.elim (by omega))
      refine ij_iconst C dL_text_500 ?_
      refine zj_istore C (L' := [(16, .int (jI 0)), (15, .int (jI 1)), (13, .long (jL (prI T7))), (12, .int (jI (n : Int))), (9, .int (jI ic)), (8, .int (jI qu)), (7, .int (jI un)), (6, .int (jI ot)), (5, .int (jI hr)), (4, .int (jI am)), (3, .int (jI wh)), (0, .ref x0)]) dL_text_501 (by decide) rfl ?_
      refine zj_iload C dL_text_503 0 rfl ?_
      refine ij_if_eq C 511 dL_text_505 (by decide) ⟨by decide, by decide⟩ (fun _ => ?_) (fun h => False.elim (by omega))
      refine zj_iload C dL_text_511 1 rfl ?_
      refine zj_iload C dL_text_513 3 rfl ?_
      refine ij_icmp_ne C 532 dL_text_515 (by decide) ⟨by decide, by decide⟩ ⟨by omega, by omega⟩ (fun h => False.elim (by omega)) (fun _ => ?_)
      refine zj_aload_n C dL_text_518 11 rfl ?_
      refine ls_print C ⟨Nat.le_of_ble_eq_true rfl, Nat.le_of_ble_eq_true rfl⟩ ⟨Nat.le_of_ble_eq_true rfl, Nat.le_of_ble_eq_true rfl⟩ hGE2 hOE2 ([] : List va_W) (Nat.le_of_ble_eq_true rfl) dL_text_519 (fun x5_ => ?_)
      refine ij_el (prI T7) epn ?_
      refine zj_lload C dL_text_522 2 rfl ?_
      refine ij_lcmp_ne C 532 dL_text_524 dL_text_525 (by decide) ⟨by omega, by omega⟩ ⟨by omega, by omega⟩ (fun h => False.elim (by omega)) (fun _ => ?_)
      refine ij_iconst C dL_text_528 ?_
      refine zj_goto C 533 dL_text_529 (by decide) ?_
      exact hret _ _ _ _ _ (GI_wk (GI_D hGE2 (by unfold dK; split <;> omega) (by omega)) (by omega) (by omega)) hOE2
    · skip
      have t2 : TE E2 (chT wh am hr ot un qu ic x1_ T 2) := s1_2
      have j2 : ∀ j : Nat, j < 2 → 0 ≤ (opT wh am hr ot un qu ic x1_ (chT wh am hr ot un qu ic x1_ T j) j).1.toInt := fun j hj => by
        by_cases e6 : j = 1
        · subst e6; rw [s1_1]; omega
        · exact j1 j (by omega)
      refine ij_iconst C dL_text_384 ?_
      refine zj_goto C 389 dL_text_385 (by decide) ?_
      refine zj_istore C (L' := [(16, .int (jI 1)), (15, .int (jI 1)), (13, .long (jL (prI T7))), (12, .int (jI (n : Int))), (9, .int (jI ic)), (8, .int (jI qu)), (7, .int (jI un)), (6, .int (jI ot)), (5, .int (jI hr)), (4, .int (jI am)), (3, .int (jI wh)), (0, .ref x0)]) dL_text_389 (by decide) rfl ?_
      refine zj_iload C dL_text_391 0 rfl ?_
      refine ij_if_eq C 399 dL_text_393 (by decide) ⟨by decide, by decide⟩ (fun h => False.elim (by omega)) (fun _ => ?_)
      refine ij_iinc C (j := 1) (L2 := [(15, .int (jI 2)), (16, .int (jI 1)), (13, .long (jL (prI T7))), (12, .int (jI (n : Int))), (9, .int (jI ic)), (8, .int (jI qu)), (7, .int (jI un)), (6, .int (jI ot)), (5, .int (jI hr)), (4, .int (jI am)), (3, .int (jI wh)), (0, .ref x0)]) 2 rfl dL_text_396 rfl (by decide) rfl ?_
      refine zj_iload C dL_text_399 1 rfl ?_
      refine ij_if_eq C 415 dL_text_401 (by decide) ⟨by decide, by decide⟩ (fun h => False.elim (by omega)) (fun _ => ?_)
      have hCk := chT_GI hR x1_ hG hcc (by omega) 2 (by decide)
      obtain ⟨s2_1, s2_2⟩ := op_TE (wh := wh) (am := am) (hr := hr) (ot := ot) (un := un) (qu := qu) (ic := ic) t2 hGE2 hCk (by unfold dK; split <;> omega) (by unfold dK; split <;> omega) x3_ x1_ (k := 2) (by decide)
      obtain ⟨q2_, E3, eo2, hq2, hGE3, hn2⟩ := op_sp hR x3_ (k := 2) (by decide) hGE2 (by omega) (by omega)
      rw [eo2] at s2_1 s2_2
      have s2_1 := (congrArg Int32.toInt s2_1).symm.trans (jI_t hq2)
      obtain ⟨y11, ey11⟩ : ∃ q, q = hist2 y10 E2 (jI q2_) := ⟨_, rfl⟩
      have xe2 : f_X7_endDay E2 x3_ y10 = (jI q2_, E3, (f_X0_run x3_ E2).2.1, y11) := by
        have e1 : (f_X0_run x3_ E2).1 = jI q2_ := congrArg Prod.fst eo2
        have e2 : (f_X0_run x3_ E2).2.2 = E3 := congrArg Prod.snd eo2
        rw [X7_endDay, e1, e2, ey11]
      have hOE3 : LO E3 z7 y11 s := by rw [ey11]; exact LO_op hGE2 hOE2 hGE3 (jI q2_)
      refine zj_aload_n C dL_text_404 11 rfl ?_
      refine lc_endDay C ⟨Nat.le_of_ble_eq_true rfl, Nat.le_of_ble_eq_true rfl⟩ ⟨Nat.le_of_ble_eq_true rfl, Nat.le_of_ble_eq_true rfl⟩ hOE2 ([] : List va_W)  (Nat.le_of_ble_eq_true rfl) dL_text_405 (fun r_ T_ x_ y_ e_ => ?_)
      cases (xe2.symm.trans e_)
      refine ij_if_lt C 415 dL_text_408 (by decide) ⟨by omega, by omega⟩ (fun hb => ?_) (fun hb => ?_)
      · skip
        have eE := hn2 (by omega)
        have hL : cRes wh am hr ot un qu ic x1_ T 2 E3 := ⟨by decide, j2, fun _ => by rw [s2_1]; omega, by rw [eE]; exact t2⟩
        obtain ⟨hnk, hTn⟩ := cRes_uni hC hL
        have epn : prI E3 = prI T7 := (TE_prI hTn hG7 hGE3).symm
        refine ij_iconst C dL_text_415 ?_
        refine zj_istore C (L' := [(16, .int (jI 0)), (15, .int (jI 2)), (13, .long (jL (prI T7))), (12, .int (jI (n : Int))), (9, .int (jI ic)), (8, .int (jI qu)), (7, .int (jI un)), (6, .int (jI ot)), (5, .int (jI hr)), (4, .int (jI am)), (3, .int (jI wh)), (0, .ref x0)]) dL_text_416 (by decide) rfl ?_
        refine zj_iload C dL_text_418 0 rfl ?_
        refine ij_if_eq C 426 dL_text_420 (by decide) ⟨by decide, by decide⟩ (fun _ => ?_) (fun h => False.elim (by omega))
        refine zj_iload C dL_text_426 0 rfl ?_
        refine ij_if_eq C 444 dL_text_428 (by decide) ⟨by decide, by decide⟩ (fun _ => ?_) (fun h => False.elim (by omega))
        refine ij_iconst C dL_text_444 ?_
        refine zj_istore C (L' := [(16, .int (jI 0)), (15, .int (jI 2)), (13, .long (jL (prI T7))), (12, .int (jI (n : Int))), (9, .int (jI ic)), (8, .int (jI qu)), (7, .int (jI un)), (6, .int (jI ot)), (5, .int (jI hr)), (4, .int (jI am)), (3, .int (jI wh)), (0, .ref x0)]) dL_text_445 (by decide) rfl ?_
        refine zj_iload C dL_text_447 0 rfl ?_
        refine ij_if_eq C 455 dL_text_449 (by decide) ⟨by decide, by decide⟩ (fun _ => ?_) (fun h => False.elim (by omega))
        refine zj_iload C dL_text_455 0 rfl ?_
        refine ij_if_eq C 473 dL_text_457 (by decide) ⟨by decide, by decide⟩ (fun _ => ?_) (fun h => False.elim (by omega))
        refine ij_iconst C dL_text_473 ?_
        refine zj_istore C (L' := [(16, .int (jI 0)), (15, .int (jI 2)), (13, .long (jL (prI T7))), (12, .int (jI (n : Int))), (9, .int (jI ic)), (8, .int (jI qu)), (7, .int (jI un)), (6, .int (jI ot)), (5, .int (jI hr)), (4, .int (jI am)), (3, .int (jI wh)), (0, .ref x0)]) dL_text_474 (by decide) rfl ?_
        refine zj_iload C dL_text_476 0 rfl ?_
        refine ij_if_eq C 484 dL_text_478 (by decide) ⟨by decide, by decide⟩ (fun _ => ?_) (fun h => False.elim (by omega))
        refine zj_iload C dL_text_484 0 rfl ?_
        refine ij_if_eq C 500 dL_text_486 (by decide) ⟨by decide, by decide⟩ (fun _ => ?_) (fun h => False.elim (by omega))
        refine ij_iconst C dL_text_500 ?_
        refine zj_istore C (L' := [(16, .int (jI 0)), (15, .int (jI 2)), (13, .long (jL (prI T7))), (12, .int (jI (n : Int))), (9, .int (jI ic)), (8, .int (jI qu)), (7, .int (jI un)), (6, .int (jI ot)), (5, .int (jI hr)), (4, .int (jI am)), (3, .int (jI wh)), (0, .ref x0)]) dL_text_501 (by decide) rfl ?_
        refine zj_iload C dL_text_503 0 rfl ?_
        refine ij_if_eq C 511 dL_text_505 (by decide) ⟨by decide, by decide⟩ (fun _ => ?_) (fun h => False.elim (by omega))
        refine zj_iload C dL_text_511 1 rfl ?_
        refine zj_iload C dL_text_513 3 rfl ?_
        refine ij_icmp_ne C 532 dL_text_515 (by decide) ⟨by decide, by decide⟩ ⟨by omega, by omega⟩ (fun h => False.elim (by omega)) (fun _ => ?_)
        refine zj_aload_n C dL_text_518 11 rfl ?_
        refine ls_print C ⟨Nat.le_of_ble_eq_true rfl, Nat.le_of_ble_eq_true rfl⟩ ⟨Nat.le_of_ble_eq_true rfl, Nat.le_of_ble_eq_true rfl⟩ hGE3 hOE3 ([] : List va_W) (Nat.le_of_ble_eq_true rfl) dL_text_519 (fun x6_ => ?_)
        refine ij_el (prI T7) epn ?_
        refine zj_lload C dL_text_522 2 rfl ?_
        refine ij_lcmp_ne C 532 dL_text_524 dL_text_525 (by decide) ⟨by omega, by omega⟩ ⟨by omega, by omega⟩ (fun h => False.elim (by omega)) (fun _ => ?_)
        refine ij_iconst C dL_text_528 ?_
        refine zj_goto C 533 dL_text_529 (by decide) ?_
        exact hret _ _ _ _ _ (GI_wk (GI_D hGE3 (by unfold dK; split <;> omega) (by omega)) (by omega) (by omega)) hOE3
      · skip
        have t3 : TE E3 (chT wh am hr ot un qu ic x1_ T 3) := s2_2
        have j3 : ∀ j : Nat, j < 3 → 0 ≤ (opT wh am hr ot un qu ic x1_ (chT wh am hr ot un qu ic x1_ T j) j).1.toInt := fun j hj => by
          by_cases e6 : j = 2
          · subst e6; rw [s2_1]; omega
          · exact j2 j (by omega)
        refine ij_iconst C dL_text_411 ?_
        refine zj_goto C 416 dL_text_412 (by decide) ?_
        refine zj_istore C (L' := [(16, .int (jI 1)), (15, .int (jI 2)), (13, .long (jL (prI T7))), (12, .int (jI (n : Int))), (9, .int (jI ic)), (8, .int (jI qu)), (7, .int (jI un)), (6, .int (jI ot)), (5, .int (jI hr)), (4, .int (jI am)), (3, .int (jI wh)), (0, .ref x0)]) dL_text_416 (by decide) rfl ?_
        refine zj_iload C dL_text_418 0 rfl ?_
        refine ij_if_eq C 426 dL_text_420 (by decide) ⟨by decide, by decide⟩ (fun h => False.elim (by omega)) (fun _ => ?_)
        refine ij_iinc C (j := 1) (L2 := [(15, .int (jI 3)), (16, .int (jI 1)), (13, .long (jL (prI T7))), (12, .int (jI (n : Int))), (9, .int (jI ic)), (8, .int (jI qu)), (7, .int (jI un)), (6, .int (jI ot)), (5, .int (jI hr)), (4, .int (jI am)), (3, .int (jI wh)), (0, .ref x0)]) 3 rfl dL_text_423 rfl (by decide) rfl ?_
        refine zj_iload C dL_text_426 1 rfl ?_
        refine ij_if_eq C 444 dL_text_428 (by decide) ⟨by decide, by decide⟩ (fun h => False.elim (by omega)) (fun _ => ?_)
        have hCk := chT_GI hR x1_ hG hcc (by omega) 3 (by decide)
        obtain ⟨s3_1, s3_2⟩ := op_TE (wh := wh) (am := am) (hr := hr) (ot := ot) (un := un) (qu := qu) (ic := ic) t3 hGE3 hCk (by unfold dK; split <;> omega) (by unfold dK; split <;> omega) (f_X0_run x3_ E2).2.1 x1_ (k := 3) (by decide)
        obtain ⟨q3_, E4, eo3, hq3, hGE4, hn3⟩ := op_sp hR (f_X0_run x3_ E2).2.1 (k := 3) (by decide) hGE3 (by omega) (by omega)
        rw [eo3] at s3_1 s3_2
        have s3_1 := (congrArg Int32.toInt s3_1).symm.trans (jI_t hq3)
        obtain ⟨y12, ey12⟩ : ∃ q, q = hist2 y11 E3 (jI q3_) := ⟨_, rfl⟩
        have xe3 : f_X7_quote E3 y11 (jI qu) = (jI q3_, E4, y12) := by
          have e1 : f_X6_changeQuote E3 (jI qu) = (jI q3_, E4) := eo3
          rw [X7_quote, e1, ey12]
        have hOE4 : LO E4 z7 y12 s := by rw [ey12]; exact LO_op hGE3 hOE3 hGE4 (jI q3_)
        refine zj_aload_n C dL_text_431 11 rfl ?_
        refine zj_iload C dL_text_432 5 rfl ?_
        refine lc_quote C ⟨Nat.le_of_ble_eq_true rfl, Nat.le_of_ble_eq_true rfl⟩ ⟨Nat.le_of_ble_eq_true rfl, Nat.le_of_ble_eq_true rfl⟩ hOE3 ([] : List va_W) (jI qu) (Nat.le_of_ble_eq_true rfl) dL_text_434 (fun r_ T_ y_ e_ => ?_)
        cases (xe3.symm.trans e_)
        refine ij_if_lt C 444 dL_text_437 (by decide) ⟨by omega, by omega⟩ (fun hb => ?_) (fun hb => ?_)
        · skip
          have eE := hn3 (by omega)
          have hL : cRes wh am hr ot un qu ic x1_ T 3 E4 := ⟨by decide, j3, fun _ => by rw [s3_1]; omega, by rw [eE]; exact t3⟩
          obtain ⟨hnk, hTn⟩ := cRes_uni hC hL
          have epn : prI E4 = prI T7 := (TE_prI hTn hG7 hGE4).symm
          refine ij_iconst C dL_text_444 ?_
          refine zj_istore C (L' := [(16, .int (jI 0)), (15, .int (jI 3)), (13, .long (jL (prI T7))), (12, .int (jI (n : Int))), (9, .int (jI ic)), (8, .int (jI qu)), (7, .int (jI un)), (6, .int (jI ot)), (5, .int (jI hr)), (4, .int (jI am)), (3, .int (jI wh)), (0, .ref x0)]) dL_text_445 (by decide) rfl ?_
          refine zj_iload C dL_text_447 0 rfl ?_
          refine ij_if_eq C 455 dL_text_449 (by decide) ⟨by decide, by decide⟩ (fun _ => ?_) (fun h => False.elim (by omega))
          refine zj_iload C dL_text_455 0 rfl ?_
          refine ij_if_eq C 473 dL_text_457 (by decide) ⟨by decide, by decide⟩ (fun _ => ?_) (fun h => False.elim (by omega))
          refine ij_iconst C dL_text_473 ?_
          refine zj_istore C (L' := [(16, .int (jI 0)), (15, .int (jI 3)), (13, .long (jL (prI T7))), (12, .int (jI (n : Int))), (9, .int (jI ic)), (8, .int (jI qu)), (7, .int (jI un)), (6, .int (jI ot)), (5, .int (jI hr)), (4, .int (jI am)), (3, .int (jI wh)), (0, .ref x0)]) dL_text_474 (by decide) rfl ?_
          refine zj_iload C dL_text_476 0 rfl ?_
          refine ij_if_eq C 484 dL_text_478 (by decide) ⟨by decide, by decide⟩ (fun _ => ?_) (fun h => False.elim (by omega))
          refine zj_iload C dL_text_484 0 rfl ?_
          refine ij_if_eq C 500 dL_text_486 (by decide) ⟨by decide, by decide⟩ (fun _ => ?_) (fun h => False.elim (by omega))
          refine ij_iconst C dL_text_500 ?_
          refine zj_istore C (L' := [(16, .int (jI 0)), (15, .int (jI 3)), (13, .long (jL (prI T7))), (12, .int (jI (n : Int))), (9, .int (jI ic)), (8, .int (jI qu)), (7, .int (jI un)), (6, .int (jI ot)), (5, .int (jI hr)), (4, .int (jI am)), (3, .int (jI wh)), (0, .ref x0)]) dL_text_501 (by decide) rfl ?_
          refine zj_iload C dL_text_503 0 rfl ?_
          refine ij_if_eq C 511 dL_text_505 (by decide) ⟨by decide, by decide⟩ (fun _ => ?_) (fun h => False.elim (by omega))
          refine zj_iload C dL_text_511 1 rfl ?_
          refine zj_iload C dL_text_513 3 rfl ?_
          refine ij_icmp_ne C 532 dL_text_515 (by decide) ⟨by decide, by decide⟩ ⟨by omega, by omega⟩ (fun h => False.elim (by omega)) (fun _ => ?_)
          refine zj_aload_n C dL_text_518 11 rfl ?_
          refine ls_print C ⟨Nat.le_of_ble_eq_true rfl, Nat.le_of_ble_eq_true rfl⟩ ⟨Nat.le_of_ble_eq_true rfl, Nat.le_of_ble_eq_true rfl⟩ hGE4 hOE4 ([] : List va_W) (Nat.le_of_ble_eq_true rfl) dL_text_519 (fun x7_ => ?_)
          refine ij_el (prI T7) epn ?_
          refine zj_lload C dL_text_522 2 rfl ?_
          refine ij_lcmp_ne C 532 dL_text_524 dL_text_525 (by decide) ⟨by omega, by omega⟩ ⟨by omega, by omega⟩ (fun h => False.elim (by omega)) (fun _ => ?_)
          refine ij_iconst C dL_text_528 ?_
          refine zj_goto C 533 dL_text_529 (by decide) ?_
          exact hret _ _ _ _ _ (GI_wk (GI_D hGE4 (by unfold dK; split <;> omega) (by omega)) (by omega) (by omega)) hOE4
        · skip
          have t4 : TE E4 (chT wh am hr ot un qu ic x1_ T 4) := s3_2
          have j4 : ∀ j : Nat, j < 4 → 0 ≤ (opT wh am hr ot un qu ic x1_ (chT wh am hr ot un qu ic x1_ T j) j).1.toInt := fun j hj => by
            by_cases e6 : j = 3
            · subst e6; rw [s3_1]; omega
            · exact j3 j (by omega)
          refine ij_iconst C dL_text_440 ?_
          refine zj_goto C 445 dL_text_441 (by decide) ?_
          refine zj_istore C (L' := [(16, .int (jI 1)), (15, .int (jI 3)), (13, .long (jL (prI T7))), (12, .int (jI (n : Int))), (9, .int (jI ic)), (8, .int (jI qu)), (7, .int (jI un)), (6, .int (jI ot)), (5, .int (jI hr)), (4, .int (jI am)), (3, .int (jI wh)), (0, .ref x0)]) dL_text_445 (by decide) rfl ?_
          refine zj_iload C dL_text_447 0 rfl ?_
          refine ij_if_eq C 455 dL_text_449 (by decide) ⟨by decide, by decide⟩ (fun h => False.elim (by omega)) (fun _ => ?_)
          refine ij_iinc C (j := 1) (L2 := [(15, .int (jI 4)), (16, .int (jI 1)), (13, .long (jL (prI T7))), (12, .int (jI (n : Int))), (9, .int (jI ic)), (8, .int (jI qu)), (7, .int (jI un)), (6, .int (jI ot)), (5, .int (jI hr)), (4, .int (jI am)), (3, .int (jI wh)), (0, .ref x0)]) 4 rfl dL_text_452 rfl (by decide) rfl ?_
          refine zj_iload C dL_text_455 1 rfl ?_
          refine ij_if_eq C 473 dL_text_457 (by decide) ⟨by decide, by decide⟩ (fun h => False.elim (by omega)) (fun _ => ?_)
          have hCk := chT_GI hR x1_ hG hcc (by omega) 4 (by decide)
          obtain ⟨s4_1, s4_2⟩ := op_TE (wh := wh) (am := am) (hr := hr) (ot := ot) (un := un) (qu := qu) (ic := ic) t4 hGE4 hCk (by unfold dK; split <;> omega) (by unfold dK; split <;> omega) (f_X0_run x3_ E2).2.1 x1_ (k := 4) (by decide)
          obtain ⟨q4_, E5, eo4, hq4, hGE5, hn4⟩ := op_sp hR (f_X0_run x3_ E2).2.1 (k := 4) (by decide) hGE4 (by omega) (by omega)
          rw [eo4] at s4_1 s4_2
          have s4_1 := (congrArg Int32.toInt s4_1).symm.trans (jI_t hq4)
          obtain ⟨y13, ey13⟩ : ∃ q, q = hist2 y12 E4 (jI q4_) := ⟨_, rfl⟩
          have xe4 : f_X7_income E4 y12 (jI ic) = (jI q4_, E5, y13) := by
            have e1 : f_X6_takeIncome E4 (jI ic) = (jI q4_, E5) := eo4
            rw [X7_income, e1, ey13]
          have hOE5 : LO E5 z7 y13 s := by rw [ey13]; exact LO_op hGE4 hOE4 hGE5 (jI q4_)
          refine zj_aload_n C dL_text_460 11 rfl ?_
          refine zj_iload C dL_text_461 4 rfl ?_
          refine lc_income C ⟨Nat.le_of_ble_eq_true rfl, Nat.le_of_ble_eq_true rfl⟩ ⟨Nat.le_of_ble_eq_true rfl, Nat.le_of_ble_eq_true rfl⟩ hOE4 ([] : List va_W) (jI ic) (Nat.le_of_ble_eq_true rfl) dL_text_463 (fun r_ T_ y_ e_ => ?_)
          cases (xe4.symm.trans e_)
          refine ij_if_lt C 473 dL_text_466 (by decide) ⟨by omega, by omega⟩ (fun hb => ?_) (fun hb => ?_)
          · skip
            have eE := hn4 (by omega)
            have hL : cRes wh am hr ot un qu ic x1_ T 4 E5 := ⟨by decide, j4, fun _ => by rw [s4_1]; omega, by rw [eE]; exact t4⟩
            obtain ⟨hnk, hTn⟩ := cRes_uni hC hL
            have epn : prI E5 = prI T7 := (TE_prI hTn hG7 hGE5).symm
            refine ij_iconst C dL_text_473 ?_
            refine zj_istore C (L' := [(16, .int (jI 0)), (15, .int (jI 4)), (13, .long (jL (prI T7))), (12, .int (jI (n : Int))), (9, .int (jI ic)), (8, .int (jI qu)), (7, .int (jI un)), (6, .int (jI ot)), (5, .int (jI hr)), (4, .int (jI am)), (3, .int (jI wh)), (0, .ref x0)]) dL_text_474 (by decide) rfl ?_
            refine zj_iload C dL_text_476 0 rfl ?_
            refine ij_if_eq C 484 dL_text_478 (by decide) ⟨by decide, by decide⟩ (fun _ => ?_) (fun h => False.elim (by omega))
            refine zj_iload C dL_text_484 0 rfl ?_
            refine ij_if_eq C 500 dL_text_486 (by decide) ⟨by decide, by decide⟩ (fun _ => ?_) (fun h => False.elim (by omega))
            refine ij_iconst C dL_text_500 ?_
            refine zj_istore C (L' := [(16, .int (jI 0)), (15, .int (jI 4)), (13, .long (jL (prI T7))), (12, .int (jI (n : Int))), (9, .int (jI ic)), (8, .int (jI qu)), (7, .int (jI un)), (6, .int (jI ot)), (5, .int (jI hr)), (4, .int (jI am)), (3, .int (jI wh)), (0, .ref x0)]) dL_text_501 (by decide) rfl ?_
            refine zj_iload C dL_text_503 0 rfl ?_
            refine ij_if_eq C 511 dL_text_505 (by decide) ⟨by decide, by decide⟩ (fun _ => ?_) (fun h => False.elim (by omega))
            refine zj_iload C dL_text_511 1 rfl ?_
            refine zj_iload C dL_text_513 3 rfl ?_
            refine ij_icmp_ne C 532 dL_text_515 (by decide) ⟨by decide, by decide⟩ ⟨by omega, by omega⟩ (fun h => False.elim (by omega)) (fun _ => ?_)
            refine zj_aload_n C dL_text_518 11 rfl ?_
            refine ls_print C ⟨Nat.le_of_ble_eq_true rfl, Nat.le_of_ble_eq_true rfl⟩ ⟨Nat.le_of_ble_eq_true rfl, Nat.le_of_ble_eq_true rfl⟩ hGE5 hOE5 ([] : List va_W) (Nat.le_of_ble_eq_true rfl) dL_text_519 (fun x8_ => ?_)
            refine ij_el (prI T7) epn ?_
            refine zj_lload C dL_text_522 2 rfl ?_
            refine ij_lcmp_ne C 532 dL_text_524 dL_text_525 (by decide) ⟨by omega, by omega⟩ ⟨by omega, by omega⟩ (fun h => False.elim (by omega)) (fun _ => ?_)
            refine ij_iconst C dL_text_528 ?_
            refine zj_goto C 533 dL_text_529 (by decide) ?_
            exact hret _ _ _ _ _ (GI_wk (GI_D hGE5 (by unfold dK; split <;> omega) (by omega)) (by omega) (by omega)) hOE5
          · skip
            have t5 : TE E5 (chT wh am hr ot un qu ic x1_ T 5) := s4_2
            have j5 : ∀ j : Nat, j < 5 → 0 ≤ (opT wh am hr ot un qu ic x1_ (chT wh am hr ot un qu ic x1_ T j) j).1.toInt := fun j hj => by
              by_cases e6 : j = 4
              · subst e6; rw [s4_1]; omega
              · exact j4 j (by omega)
            refine ij_iconst C dL_text_469 ?_
            refine zj_goto C 474 dL_text_470 (by decide) ?_
            refine zj_istore C (L' := [(16, .int (jI 1)), (15, .int (jI 4)), (13, .long (jL (prI T7))), (12, .int (jI (n : Int))), (9, .int (jI ic)), (8, .int (jI qu)), (7, .int (jI un)), (6, .int (jI ot)), (5, .int (jI hr)), (4, .int (jI am)), (3, .int (jI wh)), (0, .ref x0)]) dL_text_474 (by decide) rfl ?_
            refine zj_iload C dL_text_476 0 rfl ?_
            refine ij_if_eq C 484 dL_text_478 (by decide) ⟨by decide, by decide⟩ (fun h => False.elim (by omega)) (fun _ => ?_)
            refine ij_iinc C (j := 1) (L2 := [(15, .int (jI 5)), (16, .int (jI 1)), (13, .long (jL (prI T7))), (12, .int (jI (n : Int))), (9, .int (jI ic)), (8, .int (jI qu)), (7, .int (jI un)), (6, .int (jI ot)), (5, .int (jI hr)), (4, .int (jI am)), (3, .int (jI wh)), (0, .ref x0)]) 5 rfl dL_text_481 rfl (by decide) rfl ?_
            refine zj_iload C dL_text_484 1 rfl ?_
            refine ij_if_eq C 500 dL_text_486 (by decide) ⟨by decide, by decide⟩ (fun h => False.elim (by omega)) (fun _ => ?_)
            have hCk := chT_GI hR x1_ hG hcc (by omega) 5 (by decide)
            obtain ⟨s5_1, s5_2⟩ := op_TE (wh := wh) (am := am) (hr := hr) (ot := ot) (un := un) (qu := qu) (ic := ic) t5 hGE5 hCk (by unfold dK; split <;> omega) (by unfold dK; split <;> omega) (f_X0_run x3_ E2).2.1 x1_ (k := 5) (by decide)
            obtain ⟨q5_, E6, eo5, hq5, hGE6, hn5⟩ := op_sp hR (f_X0_run x3_ E2).2.1 (k := 5) (by decide) hGE5 (by omega) (by omega)
            rw [eo5] at s5_1 s5_2
            have s5_1 := (congrArg Int32.toInt s5_1).symm.trans (jI_t hq5)
            obtain ⟨y14, ey14⟩ : ∃ q, q = hist2 y13 E5 (jI q5_) := ⟨_, rfl⟩
            have xe5 : f_X7_pay E5 y13 = (jI q5_, E6, y14) := by
              have e1 : f_X6_payIncome E5 = (jI q5_, E6) := eo5
              rw [X7_pay, e1, ey14]
            have hOE6 : LO E6 z7 y14 s := by rw [ey14]; exact LO_op hGE5 hOE5 hGE6 (jI q5_)
            refine zj_aload_n C dL_text_489 11 rfl ?_
            refine lc_pay C ⟨Nat.le_of_ble_eq_true rfl, Nat.le_of_ble_eq_true rfl⟩ ⟨Nat.le_of_ble_eq_true rfl, Nat.le_of_ble_eq_true rfl⟩ hOE5 ([] : List va_W)  (Nat.le_of_ble_eq_true rfl) dL_text_490 (fun r_ T_ y_ e_ => ?_)
            cases (xe5.symm.trans e_)
            refine ij_if_lt C 500 dL_text_493 (by decide) ⟨by omega, by omega⟩ (fun hb => ?_) (fun hb => ?_)
            · skip
              have eE := hn5 (by omega)
              have hL : cRes wh am hr ot un qu ic x1_ T 5 E6 := ⟨by decide, j5, fun _ => by rw [s5_1]; omega, by rw [eE]; exact t5⟩
              obtain ⟨hnk, hTn⟩ := cRes_uni hC hL
              have epn : prI E6 = prI T7 := (TE_prI hTn hG7 hGE6).symm
              refine ij_iconst C dL_text_500 ?_
              refine zj_istore C (L' := [(16, .int (jI 0)), (15, .int (jI 5)), (13, .long (jL (prI T7))), (12, .int (jI (n : Int))), (9, .int (jI ic)), (8, .int (jI qu)), (7, .int (jI un)), (6, .int (jI ot)), (5, .int (jI hr)), (4, .int (jI am)), (3, .int (jI wh)), (0, .ref x0)]) dL_text_501 (by decide) rfl ?_
              refine zj_iload C dL_text_503 0 rfl ?_
              refine ij_if_eq C 511 dL_text_505 (by decide) ⟨by decide, by decide⟩ (fun _ => ?_) (fun h => False.elim (by omega))
              refine zj_iload C dL_text_511 1 rfl ?_
              refine zj_iload C dL_text_513 3 rfl ?_
              refine ij_icmp_ne C 532 dL_text_515 (by decide) ⟨by decide, by decide⟩ ⟨by omega, by omega⟩ (fun h => False.elim (by omega)) (fun _ => ?_)
              refine zj_aload_n C dL_text_518 11 rfl ?_
              refine ls_print C ⟨Nat.le_of_ble_eq_true rfl, Nat.le_of_ble_eq_true rfl⟩ ⟨Nat.le_of_ble_eq_true rfl, Nat.le_of_ble_eq_true rfl⟩ hGE6 hOE6 ([] : List va_W) (Nat.le_of_ble_eq_true rfl) dL_text_519 (fun x9_ => ?_)
              refine ij_el (prI T7) epn ?_
              refine zj_lload C dL_text_522 2 rfl ?_
              refine ij_lcmp_ne C 532 dL_text_524 dL_text_525 (by decide) ⟨by omega, by omega⟩ ⟨by omega, by omega⟩ (fun h => False.elim (by omega)) (fun _ => ?_)
              refine ij_iconst C dL_text_528 ?_
              refine zj_goto C 533 dL_text_529 (by decide) ?_
              exact hret _ _ _ _ _ (GI_wk (GI_D hGE6 (by unfold dK; split <;> omega) (by omega)) (by omega) (by omega)) hOE6
            · skip
              have t6 : TE E6 (chT wh am hr ot un qu ic x1_ T 6) := s5_2
              have j6 : ∀ j : Nat, j < 6 → 0 ≤ (opT wh am hr ot un qu ic x1_ (chT wh am hr ot un qu ic x1_ T j) j).1.toInt := fun j hj => by
                by_cases e6 : j = 5
                · subst e6; rw [s5_1]; omega
                · exact j5 j (by omega)
              refine ij_iconst C dL_text_496 ?_
              refine zj_goto C 501 dL_text_497 (by decide) ?_
              refine zj_istore C (L' := [(16, .int (jI 1)), (15, .int (jI 5)), (13, .long (jL (prI T7))), (12, .int (jI (n : Int))), (9, .int (jI ic)), (8, .int (jI qu)), (7, .int (jI un)), (6, .int (jI ot)), (5, .int (jI hr)), (4, .int (jI am)), (3, .int (jI wh)), (0, .ref x0)]) dL_text_501 (by decide) rfl ?_
              refine zj_iload C dL_text_503 0 rfl ?_
              refine ij_if_eq C 511 dL_text_505 (by decide) ⟨by decide, by decide⟩ (fun h => False.elim (by omega)) (fun _ => ?_)
              refine ij_iinc C (j := 1) (L2 := [(15, .int (jI 6)), (16, .int (jI 1)), (13, .long (jL (prI T7))), (12, .int (jI (n : Int))), (9, .int (jI ic)), (8, .int (jI qu)), (7, .int (jI un)), (6, .int (jI ot)), (5, .int (jI hr)), (4, .int (jI am)), (3, .int (jI wh)), (0, .ref x0)]) 6 rfl dL_text_508 rfl (by decide) rfl ?_
              have hL : cRes wh am hr ot un qu ic x1_ T 6 E6 := ⟨Nat.le_refl _, j6, fun q => absurd q (by decide), t6⟩
              obtain ⟨hnk, hTn⟩ := cRes_uni hC hL
              have epn : prI E6 = prI T7 := (TE_prI hTn hG7 hGE6).symm
              refine zj_iload C dL_text_511 0 rfl ?_
              refine zj_iload C dL_text_513 3 rfl ?_
              refine ij_icmp_ne C 532 dL_text_515 (by decide) ⟨by decide, by decide⟩ ⟨by omega, by omega⟩ (fun h => False.elim (by omega)) (fun _ => ?_)
              refine zj_aload_n C dL_text_518 11 rfl ?_
              refine ls_print C ⟨Nat.le_of_ble_eq_true rfl, Nat.le_of_ble_eq_true rfl⟩ ⟨Nat.le_of_ble_eq_true rfl, Nat.le_of_ble_eq_true rfl⟩ hGE6 hOE6 ([] : List va_W) (Nat.le_of_ble_eq_true rfl) dL_text_519 (fun x10_ => ?_)
              refine ij_el (prI T7) epn ?_
              refine zj_lload C dL_text_522 2 rfl ?_
              refine ij_lcmp_ne C 532 dL_text_524 dL_text_525 (by decide) ⟨by omega, by omega⟩ ⟨by omega, by omega⟩ (fun h => False.elim (by omega)) (fun _ => ?_)
              refine ij_iconst C dL_text_528 ?_
              refine zj_goto C 533 dL_text_529 (by decide) ?_
              exact hret _ _ _ _ _ (GI_wk (GI_D hGE6 (by unfold dK; split <;> omega) (by omega)) (by omega) (by omega)) hOE6
set_option maxHeartbeats 4000000 in
set_option maxRecDepth 100000 in
theorem c_L_text (l : Launch) (D : va_G) (cy : Nat → ClassId) (x0 x1 x2 d0 d1 p0 p1 h0 h1 : Nat) (a b : Nat → Nat) (hs sl : Nat → Nat → Nat) (T U : zTr) (x : zDd) (z : zPd) (y : zHs) (s : zSl) {Dd c : Int} (hG : GI Dd c T) (hO : LO T z y s) (hD : Dd + 2 ≤ 100000) (hcc : c + 6 ≤ 400) (xv yv : Int32) : zM l yL_text (zW yL_text cL_text 17 (Option.some Jvm.ClassFile.FieldType.boolean)) rm_2 D cy [.ref x0, .int xv, .int yv] (LB cy x0 x1 x2 d0 d1 p0 p1 h0 h1 a b hs sl T U x z y s).flatten (fun r w => r = some (.int (jI 1)) ∧ ∃ T' x' z' y', GI (Dd + 1) (c + 6) T' ∧ LO T' z' y' s ∧ w = (LB cy x0 x1 x2 d0 d1 p0 p1 h0 h1 a b hs sl T' U x' z' y' s).flatten) 0 0 := by
  refine zM_of rfl (Nat.le_of_ble_eq_true rfl) (fun E C hret => ?_)
  have C : zO E cL_text 17 "SwingUnitsLaw" rm_2 cy l D := C
  have hret' : ∀ (L : List (Nat × Value)) (T' : zTr) (x' : zDd) (z' : zPd) (y' : zHs), GI (Dd + 1) (c + 6) T' → LO T' z' y' s → zJ E 17 0 0 (([] : List va_W) ++ LB cy x0 x1 x2 d0 d1 p0 p1 h0 h1 a b hs sl T' U x' z' y' s).flatten 533 L [.int (jI 1)] := fun L T' x' z' y' g1 g2 => hret _ _ (some (.int (jI 1))) _ ⟨rfl, T', x', z', y', g1, g2, rfl⟩ (zOk_z (Or.inr rfl)) dL_text_533
  show zJ E 17 0 0 (([] : List va_W) ++ LB cy x0 x1 x2 d0 d1 p0 p1 h0 h1 a b hs sl T U x z y s).flatten 0 [(0, .ref x0), (1, .int xv), (2, .int yv)] []
  refine zj_iload_n C dL_text_0 1 rfl ?_
  refine ij_bipush C dL_text_1 (by decide) ?_
  refine ls_up C ⟨Nat.le_of_ble_eq_true rfl, Nat.le_of_ble_eq_true rfl⟩ ⟨Nat.le_of_ble_eq_true rfl, Nat.le_of_ble_eq_true rfl⟩ ⟨by decide, by decide⟩ (Nat.le_of_ble_eq_true rfl) dL_text_3 (fun u1_ hu1_1 hu1_2 => ?_)
  refine zj_istore_n C (L' := [(3, .int (jI u1_)), (0, .ref x0), (1, .int xv), (2, .int yv)]) dL_text_6 rfl (by decide) rfl ?_
  refine ij_sipush C dL_text_7 (by decide) ?_
  refine zj_iload_n C dL_text_10 2 rfl ?_
  refine ij_iconst C dL_text_11 ?_
  refine zj_ishr C dL_text_12 (fun v12 => ?_)
  refine ij_sipush C dL_text_13 (by decide) ?_
  refine ls_up C ⟨Nat.le_of_ble_eq_true rfl, Nat.le_of_ble_eq_true rfl⟩ ⟨Nat.le_of_ble_eq_true rfl, Nat.le_of_ble_eq_true rfl⟩ ⟨by decide, by decide⟩ (Nat.le_of_ble_eq_true rfl) dL_text_16 (fun u2_ hu2_1 hu2_2 => ?_)
  refine ij_iadd C dL_text_19 ?_
  refine zj_istore C (L' := [(4, .int (jI (1000 + u2_))), (3, .int (jI u1_)), (0, .ref x0), (1, .int xv), (2, .int yv)]) dL_text_20 (by decide) rfl ?_
  refine ij_bipush C dL_text_22 (by decide) ?_
  refine zj_iload_n C dL_text_24 3 rfl ?_
  refine ij_bipush C dL_text_25 (by decide) ?_
  refine zj_ishr C dL_text_27 (fun v27 => ?_)
  refine ij_bipush C dL_text_28 (by decide) ?_
  refine ls_up C ⟨Nat.le_of_ble_eq_true rfl, Nat.le_of_ble_eq_true rfl⟩ ⟨Nat.le_of_ble_eq_true rfl, Nat.le_of_ble_eq_true rfl⟩ ⟨by decide, by decide⟩ (Nat.le_of_ble_eq_true rfl) dL_text_30 (fun u3_ hu3_1 hu3_2 => ?_)
  refine ij_iadd C dL_text_33 ?_
  refine zj_istore C (L' := [(5, .int (jI (10 + u3_))), (4, .int (jI (1000 + u2_))), (3, .int (jI u1_)), (0, .ref x0), (1, .int xv), (2, .int yv)]) dL_text_34 (by decide) rfl ?_
  refine zj_iload_n C dL_text_36 5 rfl ?_
  refine ij_bipush C dL_text_37 (by decide) ?_
  refine ls_up C ⟨Nat.le_of_ble_eq_true rfl, Nat.le_of_ble_eq_true rfl⟩ ⟨Nat.le_of_ble_eq_true rfl, Nat.le_of_ble_eq_true rfl⟩ ⟨by decide, by decide⟩ (Nat.le_of_ble_eq_true rfl) dL_text_39 (fun u4_ hu4_1 hu4_2 => ?_)
  refine zj_istore C (L' := [(6, .int (jI u4_)), (5, .int (jI (10 + u3_))), (4, .int (jI (1000 + u2_))), (3, .int (jI u1_)), (0, .ref x0), (1, .int xv), (2, .int yv)]) dL_text_42 (by decide) rfl ?_
  refine ij_bipush C dL_text_44 (by decide) ?_
  refine zj_iload_n C dL_text_46 6 rfl ?_
  refine ij_iconst C dL_text_47 ?_
  refine zj_ishr C dL_text_48 (fun v48 => ?_)
  refine ij_bipush C dL_text_49 (by decide) ?_
  refine ls_up C ⟨Nat.le_of_ble_eq_true rfl, Nat.le_of_ble_eq_true rfl⟩ ⟨Nat.le_of_ble_eq_true rfl, Nat.le_of_ble_eq_true rfl⟩ ⟨by decide, by decide⟩ (Nat.le_of_ble_eq_true rfl) dL_text_51 (fun u5_ hu5_1 hu5_2 => ?_)
  refine ij_iadd C dL_text_54 ?_
  refine zj_istore C (L' := [(7, .int (jI (10 + u5_))), (6, .int (jI u4_)), (5, .int (jI (10 + u3_))), (4, .int (jI (1000 + u2_))), (3, .int (jI u1_)), (0, .ref x0), (1, .int xv), (2, .int yv)]) dL_text_55 (by decide) rfl ?_
  refine ij_bipush C dL_text_57 (by decide) ?_
  refine zj_iload_n C dL_text_59 7 rfl ?_
  refine ij_bipush C dL_text_60 (by decide) ?_
  refine zj_ishr C dL_text_62 (fun v62 => ?_)
  refine ij_sipush C dL_text_63 (by decide) ?_
  refine ls_up C ⟨Nat.le_of_ble_eq_true rfl, Nat.le_of_ble_eq_true rfl⟩ ⟨Nat.le_of_ble_eq_true rfl, Nat.le_of_ble_eq_true rfl⟩ ⟨by decide, by decide⟩ (Nat.le_of_ble_eq_true rfl) dL_text_66 (fun u6_ hu6_1 hu6_2 => ?_)
  refine ij_iadd C dL_text_69 ?_
  refine zj_istore C (L' := [(8, .int (jI (100 + u6_))), (7, .int (jI (10 + u5_))), (6, .int (jI u4_)), (5, .int (jI (10 + u3_))), (4, .int (jI (1000 + u2_))), (3, .int (jI u1_)), (0, .ref x0), (1, .int xv), (2, .int yv)]) dL_text_70 (by decide) rfl ?_
  refine ij_bipush C dL_text_72 (by decide) ?_
  refine zj_iload_n C dL_text_74 8 rfl ?_
  refine ij_bipush C dL_text_75 (by decide) ?_
  refine zj_ishr C dL_text_77 (fun v77 => ?_)
  refine ij_bipush C dL_text_78 (by decide) ?_
  refine ls_up C ⟨Nat.le_of_ble_eq_true rfl, Nat.le_of_ble_eq_true rfl⟩ ⟨Nat.le_of_ble_eq_true rfl, Nat.le_of_ble_eq_true rfl⟩ ⟨by decide, by decide⟩ (Nat.le_of_ble_eq_true rfl) dL_text_80 (fun u7_ hu7_1 hu7_2 => ?_)
  refine ij_iadd C dL_text_83 ?_
  refine zj_istore C (L' := [(9, .int (jI (10 + u7_))), (8, .int (jI (100 + u6_))), (7, .int (jI (10 + u5_))), (6, .int (jI u4_)), (5, .int (jI (10 + u3_))), (4, .int (jI (1000 + u2_))), (3, .int (jI u1_)), (0, .ref x0), (1, .int xv), (2, .int yv)]) dL_text_84 (by decide) rfl ?_
  refine zj_sub (L' := [(9, .int (jI (10 + u7_))), (8, .int (jI (100 + u6_))), (7, .int (jI (10 + u5_))), (6, .int (jI u4_)), (5, .int (jI (10 + u3_))), (4, .int (jI (1000 + u2_))), (3, .int (jI u1_)), (0, .ref x0)]) [0, 1, 2, 3, 4, 5, 6, 7] rfl ?_
  exact text_b C hG hO hD hcc hret' ⟨⟨by omega, by omega⟩, ⟨by omega, by omega⟩, ⟨by omega, by omega⟩, ⟨by omega, by omega⟩, ⟨by omega, by omega⟩, ⟨by omega, by omega⟩, ⟨by omega, by omega⟩⟩
end TXT
