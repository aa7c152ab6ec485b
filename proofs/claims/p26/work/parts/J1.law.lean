/-! the law. Written by wip/p26/law26.py -/
section LAW
variable {E : zE} {cy : Nat → ClassId} {l : Launch} {D : va_G} {x0 x1 x2 d0 d1 p0 p1 h0 h1 : Nat} {a b : Nat → Nat} {hs sl : Nat → Nat → Nat} {T U : zTr} {x : zDd} {z : zPd} {y : zHs} {s : zSl} {Dd c : Int}
variable {bb N : Nat} {xs : Nat → Int32}
set_option maxHeartbeats 4000000 in
set_option maxRecDepth 100000 in
theorem law_lp (C : zO E cL_law 5 "SwingUnitsLaw" room_1 cy l D) (hsc : zScr E bb N xs) (hN : N ≤ 260) (hend : ∀ (k n : Nat) (ws : va_W) (L : List (Nat × Value)), k ≤ 600000 → n ≤ 7302250 → zJ E 5 k n ws 245 L [.int (jI 1)]) : ∀ (m i p k n : Nat) (T U : zTr) (x : zDd) (z : zPd) (y : zHs) (s : zSl), i + m = 34 → p + 4 * m ≤ 190 → k + 8 * m + 2 ≤ 500000 → n + 92 * m + 12 ≤ 7000000 → GI (i : Int) (6 * (i : Int)) T → LO T z y s → zJ E 5 k n (([] : List va_W) ++ LB cy x0 x1 x2 d0 d1 p0 p1 h0 h1 a b hs sl T U x z y s).flatten 116 [(4, .int (jI (i : Int))), (2, .int (jI (p : Int))), (1, .ref x0), (0, .ref bb)] [] := by
  intro m
  induction m with
  | zero =>
    intro i p k n T U x z y s hi hp hk hn hG hO
    refine zj_iload C dL_law_116 0 rfl ?_
    refine ij_bipush C dL_law_118 (by decide) ?_
    refine ij_icmp_ge C 218 dL_law_120 (by decide) ⟨by omega, by omega⟩ ⟨by decide, by decide⟩ (fun _ => ?_) (fun h => False.elim (by omega))
    refine zj_aload_n C dL_law_218 2 rfl ?_
    refine zj_aload_n C dL_law_219 3 rfl ?_
    refine zj_iload_n C dL_law_220 1 rfl ?_
    refine ij_iinc C (j := 1) (L2 := [(2, .int (jI ((p : Int) + 1))), (4, .int (jI (i : Int))), (1, .ref x0), (0, .ref bb)]) ((p : Int) + 1) rfl dL_law_221 rfl (by decide) rfl ?_
    refine zj_callSc C hsc (st := [.ref x0]) (c_L_cell l D cy bb N xs hN (p : Int) ⟨by omega, by omega⟩) tgv_339 tgv_337 tgv_338 tg_0 hdZ_L_cell ⟨rfl, rfl⟩ ⟨Nat.le_of_ble_eq_true rfl, Nat.le_of_ble_eq_true rfl⟩ ⟨(show k ≤ 600000 by omega), (show n ≤ 7302250 by omega)⟩ rfl rfl (Nat.le_of_ble_eq_true rfl) dL_law_224 (fun r_ w_ h_ => ?_)
    obtain ⟨cv1, rfl, rfl⟩ := h_
    refine zj_eq (List.append_nil _) rfl rfl rfl ?_
    refine zj_callMX C ([] : List va_W) _ (mc := 0) (ms := 0) (st := []) (c_L_back l D cy x0 x1 x2 d0 d1 p0 p1 h0 h1 a b hs sl T U x z y s hG hO (by omega) (by omega) cv1) tgv_713 tgv_711 tgv_712 tg_0 hdZ_L_back ⟨rfl, rfl⟩ ⟨Nat.le_of_ble_eq_true rfl, Nat.le_of_ble_eq_true rfl⟩ ⟨(show k + 0 ≤ 600000 by omega), (show n + 0 ≤ 7302250 by omega)⟩ rfl rfl (Nat.le_of_ble_eq_true rfl) dL_law_227 (fun r_ w_ h_ => ?_)
    obtain ⟨rfl, T9, x9_, y9, s9, hG9, hO9, rfl⟩ := h_
    show zJ E 5 k n (([] : List va_W) ++ LB cy x0 x1 x2 d0 d1 p0 p1 h0 h1 a b hs sl T9 U x9_ z y9 s9).flatten 230 [(2, .int (jI ((p : Int) + 1))), (4, .int (jI (i : Int))), (1, .ref x0), (0, .ref bb)] [.int (jI 1)]
    refine ij_if_eq C 244 dL_law_230 (by decide) ⟨by decide, by decide⟩ (fun h => False.elim (by omega)) (fun _ => ?_)
    refine zj_aload_n C dL_law_233 2 rfl ?_
    refine zj_callMX C ([] : List va_W) _ (mc := 1) (ms := 6) (st := []) (c_L_sound l D cy x0 x1 x2 d0 d1 p0 p1 h0 h1 a b hs sl T9 U x9_ z y9 s9 hG9 hO9  ) tgv_690 tgv_688 tgv_689 tg_0 hdZ_L_sound ⟨rfl, rfl⟩ ⟨Nat.le_of_ble_eq_true rfl, Nat.le_of_ble_eq_true rfl⟩ ⟨(show k + 1 ≤ 600000 by omega), (show n + 6 ≤ 7302250 by omega)⟩ rfl rfl (Nat.le_of_ble_eq_true rfl) dL_law_234 (fun r_ w_ h_ => ?_)
    obtain ⟨rfl, x8_, rfl⟩ := h_
    show zJ E 5 (k + 1) (n + 6) (([] : List va_W) ++ LB cy x0 x1 x2 d0 d1 p0 p1 h0 h1 a b hs sl T9 U x8_ z y9 s9).flatten 237 [(2, .int (jI ((p : Int) + 1))), (4, .int (jI (i : Int))), (1, .ref x0), (0, .ref bb)] [.int (jI 1)]
    refine ij_if_eq C 244 dL_law_237 (by decide) ⟨by decide, by decide⟩ (fun h => False.elim (by omega)) (fun _ => ?_)
    refine ij_iconst C dL_law_240 ?_
    refine zj_goto C 245 dL_law_241 (by decide) ?_
    exact hend _ _ _ _ (by omega) (by omega)
  | succ m ih =>
    intro i p k n T U x z y s hi hp hk hn hG hO
    have hi34 : i < 34 := by omega
    have J : ∀ wv : Int32, zJ E 5 k n (([] : List va_W) ++ LB cy x0 x1 x2 d0 d1 p0 p1 h0 h1 a b hs sl T U x z y s).flatten 155 [(4, .int (jI (i : Int))), (2, .int (jI ((p : Int) + 1))), (1, .ref x0), (0, .ref bb)] [.int wv, .ref x0] := by
      intro wv
      refine zj_aload_n C dL_law_155 3 rfl ?_
      refine zj_iload_n C dL_law_156 1 rfl ?_
      refine zj_callSc C hsc (st := [.int wv, .ref x0]) (c_L_cell l D cy bb N xs hN ((p : Int) + 1) ⟨by omega, by omega⟩) tgv_339 tgv_337 tgv_338 tg_0 hdZ_L_cell ⟨rfl, rfl⟩ ⟨Nat.le_of_ble_eq_true rfl, Nat.le_of_ble_eq_true rfl⟩ ⟨(show k ≤ 600000 by omega), (show n ≤ 7302250 by omega)⟩ rfl rfl (Nat.le_of_ble_eq_true rfl) dL_law_157 (fun r_ w_ h_ => ?_)
      obtain ⟨cv1, rfl, rfl⟩ := h_
      refine zj_eq (List.append_nil _) rfl rfl rfl ?_
      refine zj_aload_n C dL_law_160 3 rfl ?_
      refine zj_iload_n C dL_law_161 1 rfl ?_
      refine ij_iinc C (j := 1) (L2 := [(2, .int (jI (((p : Int) + 1) + 1))), (4, .int (jI (i : Int))), (1, .ref x0), (0, .ref bb)]) (((p : Int) + 1) + 1) rfl dL_law_162 rfl (by decide) rfl ?_
      refine ij_iconst C dL_law_165 ?_
      refine ij_iadd C dL_law_166 ?_
      refine zj_callSc C hsc (st := [.int cv1, .int wv, .ref x0]) (c_L_cell l D cy bb N xs hN (((p : Int) + 1) + 1) ⟨by omega, by omega⟩) tgv_339 tgv_337 tgv_338 tg_0 hdZ_L_cell ⟨rfl, rfl⟩ ⟨Nat.le_of_ble_eq_true rfl, Nat.le_of_ble_eq_true rfl⟩ ⟨(show k ≤ 600000 by omega), (show n ≤ 7302250 by omega)⟩ rfl rfl (Nat.le_of_ble_eq_true rfl) dL_law_167 (fun r_ w_ h_ => ?_)
      obtain ⟨cv2, rfl, rfl⟩ := h_
      refine zj_eq (List.append_nil _) rfl rfl rfl ?_
      refine zj_callMX C ([] : List va_W) _ (mc := 7) (ms := 86) (st := []) (c_L_act l D cy x0 x1 x2 d0 d1 p0 p1 h0 h1 a b hs sl T U x z y s hG hO (by omega) (by omega) wv cv1 cv2) tgv_347 tgv_345 tgv_346 tg_0 hdZ_L_act ⟨rfl, rfl⟩ ⟨Nat.le_of_ble_eq_true rfl, Nat.le_of_ble_eq_true rfl⟩ ⟨(show k + 7 ≤ 600000 by omega), (show n + 86 ≤ 7302250 by omega)⟩ rfl rfl (Nat.le_of_ble_eq_true rfl) dL_law_170 (fun r_ w_ h_ => ?_)
      obtain ⟨rfl, T1, U1, x1_, z1, y1, s1, hG1, hO1, rfl⟩ := h_
      show zJ E 5 (k + 7) (n + 86) (([] : List va_W) ++ LB cy x0 x1 x2 d0 d1 p0 p1 h0 h1 a b hs sl T1 U1 x1_ z1 y1 s1).flatten 173 [(2, .int (jI (((p : Int) + 1) + 1))), (4, .int (jI (i : Int))), (1, .ref x0), (0, .ref bb)] [.int (jI 1)]
      refine ij_if_eq C 183 dL_law_173 (by decide) ⟨by decide, by decide⟩ (fun h => False.elim (by omega)) (fun _ => ?_)
      refine zj_aload_n C dL_law_176 2 rfl ?_
      refine zj_callMX C ([] : List va_W) _ (mc := 1) (ms := 6) (st := []) (c_L_sound l D cy x0 x1 x2 d0 d1 p0 p1 h0 h1 a b hs sl T1 U1 x1_ z1 y1 s1 hG1 hO1  ) tgv_690 tgv_688 tgv_689 tg_0 hdZ_L_sound ⟨rfl, rfl⟩ ⟨Nat.le_of_ble_eq_true rfl, Nat.le_of_ble_eq_true rfl⟩ ⟨(show (k + 7) + 1 ≤ 600000 by omega), (show (n + 86) + 6 ≤ 7302250 by omega)⟩ rfl rfl (Nat.le_of_ble_eq_true rfl) dL_law_177 (fun r_ w_ h_ => ?_)
      obtain ⟨rfl, x2_, rfl⟩ := h_
      show zJ E 5 ((k + 7) + 1) ((n + 86) + 6) (([] : List va_W) ++ LB cy x0 x1 x2 d0 d1 p0 p1 h0 h1 a b hs sl T1 U1 x2_ z1 y1 s1).flatten 180 [(2, .int (jI (((p : Int) + 1) + 1))), (4, .int (jI (i : Int))), (1, .ref x0), (0, .ref bb)] [.int (jI 1)]
      refine ij_if_ne C 185 dL_law_180 (by decide) ⟨by decide, by decide⟩ (fun _ => ?_) (fun h => False.elim (by omega))
      refine zj_iload C dL_law_185 1 rfl ?_
      refine ij_bipush C dL_law_187 (by decide) ?_
      refine ij_irem C ⟨by omega, by omega⟩ ⟨by decide, by decide⟩ dL_law_189 ?_
      refine ij_bipush C dL_law_190 (by decide) ?_
      refine ij_icmp_ne C 212 dL_law_192 (by decide) ⟨by omega, by omega⟩ ⟨by decide, by decide⟩ (fun hb => ?_) (fun hb => ?_)
      · skip
        refine ij_iinc C (j := 1) (L2 := [(4, .int (jI ((i + 1 : Nat) : Int))), (2, .int (jI (((p : Int) + 1) + 1))), (1, .ref x0), (0, .ref bb)]) ((i + 1 : Nat) : Int) (by omega) dL_law_212 rfl (by decide) rfl ?_
        refine zj_goto C 116 dL_law_215 (by decide) ?_
        refine zj_sub (L' := [(4, .int (jI ((i + 1 : Nat) : Int))), (2, .int (jI (((p : Int) + 1) + 1))), (1, .ref x0), (0, .ref bb)]) [0, 1, 2, 3] rfl ?_
        have ep : ((p : Int) + 1 + 1) = ((p + 2 : Nat) : Int) := by omega
        rw [ep]
        exact ih (i + 1) (p + 2) _ _ _ _ _ _ _ _ (by omega) (by omega) (by omega) (by omega) (GI_wk (GI_D hG1 (by omega) (by omega)) (by omega) (by omega)) hO1
      · skip
        refine zj_aload_n C dL_law_195 2 rfl ?_
        refine zj_aload_n C dL_law_196 3 rfl ?_
        refine zj_iload_n C dL_law_197 0 rfl ?_
        refine ij_iinc C (j := 0) (L2 := [(2, .int (jI ((((p : Int) + 1) + 1) + 1))), (4, .int (jI (i : Int))), (1, .ref x0), (0, .ref bb)]) ((((p : Int) + 1) + 1) + 1) rfl dL_law_198 rfl (by decide) rfl ?_
        refine zj_callSc C hsc (st := [.ref x0]) (c_L_cell l D cy bb N xs hN (((p : Int) + 1) + 1) ⟨by omega, by omega⟩) tgv_339 tgv_337 tgv_338 tg_0 hdZ_L_cell ⟨rfl, rfl⟩ ⟨Nat.le_of_ble_eq_true rfl, Nat.le_of_ble_eq_true rfl⟩ ⟨(show ((k + 7) + 1) ≤ 600000 by omega), (show ((n + 86) + 6) ≤ 7302250 by omega)⟩ rfl rfl (Nat.le_of_ble_eq_true rfl) dL_law_201 (fun r_ w_ h_ => ?_)
        obtain ⟨cv3, rfl, rfl⟩ := h_
        refine zj_eq (List.append_nil _) rfl rfl rfl ?_
        refine zj_callMX C ([] : List va_W) _ (mc := 0) (ms := 0) (st := []) (c_L_comes l D cy x0 x1 x2 d0 d1 p0 p1 h0 h1 a b hs sl T1 U1 x2_ z1 y1 s1 hG1 hO1 (by omega) cv3) tgv_693 tgv_691 tgv_692 tg_0 hdZ_L_comes ⟨rfl, rfl⟩ ⟨Nat.le_of_ble_eq_true rfl, Nat.le_of_ble_eq_true rfl⟩ ⟨(show ((k + 7) + 1) + 0 ≤ 600000 by omega), (show ((n + 86) + 6) + 0 ≤ 7302250 by omega)⟩ rfl rfl (Nat.le_of_ble_eq_true rfl) dL_law_204 (fun r_ w_ h_ => ?_)
        obtain ⟨rfl, T3, U3, x3_, y3, s3, hG3, hO3, rfl⟩ := h_
        show zJ E 5 ((k + 7) + 1) ((n + 86) + 6) (([] : List va_W) ++ LB cy x0 x1 x2 d0 d1 p0 p1 h0 h1 a b hs sl T3 U3 x3_ z1 y3 s3).flatten 207 [(2, .int (jI ((((p : Int) + 1) + 1) + 1))), (4, .int (jI (i : Int))), (1, .ref x0), (0, .ref bb)] [.int (jI 1)]
        refine ij_if_ne C 212 dL_law_207 (by decide) ⟨by decide, by decide⟩ (fun _ => ?_) (fun h => False.elim (by omega))
        refine ij_iinc C (j := 1) (L2 := [(4, .int (jI ((i + 1 : Nat) : Int))), (2, .int (jI ((((p : Int) + 1) + 1) + 1))), (1, .ref x0), (0, .ref bb)]) ((i + 1 : Nat) : Int) (by omega) dL_law_212 rfl (by decide) rfl ?_
        refine zj_goto C 116 dL_law_215 (by decide) ?_
        refine zj_sub (L' := [(4, .int (jI ((i + 1 : Nat) : Int))), (2, .int (jI ((((p : Int) + 1) + 1) + 1))), (1, .ref x0), (0, .ref bb)]) [0, 1, 2, 3] rfl ?_
        have ep : ((p : Int) + 1 + 1 + 1) = ((p + 3 : Nat) : Int) := by omega
        rw [ep]
        exact ih (i + 1) (p + 3) _ _ _ _ _ _ _ _ (by omega) (by omega) (by omega) (by omega) (GI_wk (GI_D hG3 (by omega) (by omega)) (by omega) (by omega)) hO3
    refine zj_iload C dL_law_116 0 rfl ?_
    refine ij_bipush C dL_law_118 (by decide) ?_
    refine ij_icmp_ge C 218 dL_law_120 (by decide) ⟨by omega, by omega⟩ ⟨by decide, by decide⟩ (fun h => False.elim (by omega)) (fun _ => ?_)
    refine zj_aload_n C dL_law_123 3 rfl ?_
    refine zj_iload_n C dL_law_124 1 rfl ?_
    refine ij_iinc C (j := 1) (L2 := [(2, .int (jI ((p : Int) + 1))), (4, .int (jI (i : Int))), (1, .ref x0), (0, .ref bb)]) ((p : Int) + 1) rfl dL_law_125 rfl (by decide) rfl ?_
    refine zj_callSc C hsc (st := []) (c_L_cell l D cy bb N xs hN (p : Int) ⟨by omega, by omega⟩) tgv_339 tgv_337 tgv_338 tg_0 hdZ_L_cell ⟨rfl, rfl⟩ ⟨Nat.le_of_ble_eq_true rfl, Nat.le_of_ble_eq_true rfl⟩ ⟨(show k ≤ 600000 by omega), (show n ≤ 7302250 by omega)⟩ rfl rfl (Nat.le_of_ble_eq_true rfl) dL_law_128 (fun r_ w_ h_ => ?_)
    obtain ⟨cv41, rfl, rfl⟩ := h_
    refine zj_eq (List.append_nil _) rfl rfl rfl ?_
    refine zj_istore_n C (L' := [(3, .int cv41), (2, .int (jI ((p : Int) + 1))), (4, .int (jI (i : Int))), (1, .ref x0), (0, .ref bb)]) dL_law_131 rfl (by decide) rfl ?_
    refine zj_aload_n C dL_law_132 3 rfl ?_
    refine zj_iload C dL_law_133 2 rfl ?_
    refine ij_iconst C dL_law_135 ?_
    refine ij_icmp_ge C 143 dL_law_136 (by decide) ⟨by omega, by omega⟩ ⟨by decide, by decide⟩ (fun hc => ?_) (fun hc => ?_)
    · skip
      refine zj_iload C dL_law_143 2 rfl ?_
      refine ij_iconst C dL_law_145 ?_
      refine ij_icmp_ne C 154 dL_law_146 (by decide) ⟨by omega, by omega⟩ ⟨by decide, by decide⟩ (fun hd => ?_) (fun hd => ?_)
      · skip
        refine zj_iload_n C dL_law_154 0 rfl ?_
        refine zj_sub (L' := [(4, .int (jI (i : Int))), (2, .int (jI ((p : Int) + 1))), (1, .ref x0), (0, .ref bb)]) [2, 1, 3, 4] rfl ?_
        exact J _
      · skip
        refine ij_bipush C dL_law_149 (by decide) ?_
        refine zj_goto C 155 dL_law_151 (by decide) ?_
        refine zj_sub (L' := [(4, .int (jI (i : Int))), (2, .int (jI ((p : Int) + 1))), (1, .ref x0), (0, .ref bb)]) [2, 1, 3, 4] rfl ?_
        exact J _
    · skip
      refine ij_iconst C dL_law_139 ?_
      refine zj_goto C 155 dL_law_140 (by decide) ?_
      refine zj_sub (L' := [(4, .int (jI (i : Int))), (2, .int (jI ((p : Int) + 1))), (1, .ref x0), (0, .ref bb)]) [2, 1, 3, 4] rfl ?_
      exact J _
set_option maxHeartbeats 4000000 in
set_option maxRecDepth 100000 in
theorem law_b (C : zO E cL_law 5 "SwingUnitsLaw" room_1 cy l D) (hsc : zScr E bb N xs) (hN : N ≤ 260) (hend : ∀ (k n : Nat) (ws : va_W) (L : List (Nat × Value)), k ≤ 600000 → n ≤ 7302250 → zJ E 5 k n ws 245 L [.int (jI 1)]) (hG : GI 0 0 T) (hO : LO T z y s) (hu0 : uAll T = 0) (hl0 : lI T = 0) (hc0 : cI T = 0) (hen : gLd_ended (gTr_la T) = false) (hz : gPd_n z = 0) (hsv : gSl_sv s 0 = 0) (hy0 : gHs_count y = 0) (hset : sI T 1 = 50 ∧ sI T 2 = 10 ∧ sI T 3 = 100 ∧ sI T 4 = 5) : zJ E 5 207 2335 (([] : List va_W) ++ LB cy x0 x1 x2 d0 d1 p0 p1 h0 h1 a b hs sl T U x z y s).flatten 7 [(0, .ref bb)] [.ref x0] := by
  obtain ⟨st1, st2, st3, st4⟩ := hset
  refine zj_astore_n C (L' := [(1, .ref x0), (0, .ref bb)]) dL_law_7 rfl (by decide) rfl ?_
  refine ij_iconst C dL_law_8 ?_
  refine zj_istore_n C (L' := [(2, .int (jI 0)), (1, .ref x0), (0, .ref bb)]) dL_law_9 rfl (by decide) rfl ?_
  refine zj_aload_n C dL_law_10 1 rfl ?_
  refine zj_aload_n C dL_law_11 2 rfl ?_
  refine zj_iload_n C dL_law_12 0 rfl ?_
  refine ij_iinc C (j := 0) (L2 := [(2, .int (jI 1)), (1, .ref x0), (0, .ref bb)]) 1 rfl dL_law_13 rfl (by decide) rfl ?_
  refine zj_callSc C hsc (st := [.ref x0]) (c_L_cell l D cy bb N xs hN 0 ⟨by omega, by omega⟩) tgv_339 tgv_337 tgv_338 tg_0 hdZ_L_cell ⟨rfl, rfl⟩ ⟨Nat.le_of_ble_eq_true rfl, Nat.le_of_ble_eq_true rfl⟩ ⟨(show 207 ≤ 600000 by omega), (show 2335 ≤ 7302250 by omega)⟩ rfl rfl (Nat.le_of_ble_eq_true rfl) dL_law_16 (fun r_ w_ h_ => ?_)
  obtain ⟨cv1, rfl, rfl⟩ := h_
  refine zj_eq (List.append_nil _) rfl rfl rfl ?_
  refine zj_callMX C ([] : List va_W) _ (mc := 0) (ms := 0) (st := []) (c_L_refused l D cy x0 x1 x2 d0 d1 p0 p1 h0 h1 a b hs sl T U x z y s hG hO (by omega) (by omega) hu0 hl0 hc0 hen hz hsv hy0 cv1) tgv_716 tgv_714 tgv_715 tg_0 hdZ_L_refused ⟨rfl, rfl⟩ ⟨Nat.le_of_ble_eq_true rfl, Nat.le_of_ble_eq_true rfl⟩ ⟨(show 207 + 0 ≤ 600000 by omega), (show 2335 + 0 ≤ 7302250 by omega)⟩ rfl rfl (Nat.le_of_ble_eq_true rfl) dL_law_19 (fun r_ w_ h_ => ?_)
  obtain ⟨rfl, U0_, x0_, z0_, y0_, hO0, rfl⟩ := h_
  show zJ E 5 207 2335 (([] : List va_W) ++ LB cy x0 x1 x2 d0 d1 p0 p1 h0 h1 a b hs sl T U0_ x0_ z0_ y0_ s).flatten 22 [(2, .int (jI 1)), (1, .ref x0), (0, .ref bb)] [.int (jI 1)]
  refine ij_if_ne C 27 dL_law_22 (by decide) ⟨by decide, by decide⟩ (fun _ => ?_) (fun h => False.elim (by omega))
  refine zj_aload_n C dL_law_27 2 rfl ?_
  refine zj_iload_n C dL_law_28 0 rfl ?_
  refine ij_iinc C (j := 0) (L2 := [(2, .int (jI 2)), (1, .ref x0), (0, .ref bb)]) 2 rfl dL_law_29 rfl (by decide) rfl ?_
  refine zj_callSc C hsc (st := []) (c_L_cell l D cy bb N xs hN 1 ⟨by omega, by omega⟩) tgv_339 tgv_337 tgv_338 tg_0 hdZ_L_cell ⟨rfl, rfl⟩ ⟨Nat.le_of_ble_eq_true rfl, Nat.le_of_ble_eq_true rfl⟩ ⟨(show 207 ≤ 600000 by omega), (show 2335 ≤ 7302250 by omega)⟩ rfl rfl (Nat.le_of_ble_eq_true rfl) dL_law_32 (fun r_ w_ h_ => ?_)
  obtain ⟨cv2, rfl, rfl⟩ := h_
  refine zj_eq (List.append_nil _) rfl rfl rfl ?_
  refine zj_istore_n C (L' := [(3, .int cv2), (2, .int (jI 2)), (1, .ref x0), (0, .ref bb)]) dL_law_35 rfl (by decide) rfl ?_
  refine zj_aload_n C dL_law_36 2 rfl ?_
  refine ij_iconst C dL_law_37 ?_
  refine zj_iload_n C dL_law_38 0 rfl ?_
  refine ij_sipush C dL_law_39 (by decide) ?_
  refine ls_up C ⟨(show 207 ≤ 600000 by omega), (show 2335 ≤ 7302250 by omega)⟩ ⟨Nat.le_of_ble_eq_true rfl, Nat.le_of_ble_eq_true rfl⟩ ⟨by decide, by decide⟩ (Nat.le_of_ble_eq_true rfl) dL_law_42 (fun u3_ hu3_1 hu3_2 => ?_)
  have zq1 := zGi1
  obtain ⟨se1, hGs1, hss1⟩ := set_sp hG (k := 1) (by decide) (v := u3_) ⟨by omega, by omega⟩
  obtain ⟨Ts1, eTs1⟩ : ∃ q, q = sTr_st T (upd (gTr_st T) 1 (jI u3_)) := ⟨_, rfl⟩
  rw [← eTs1] at se1 hGs1 hss1
  have st2_1 : sI Ts1 2 = sI T 2 := by have e := hss1 2; rw [if_neg (by decide)] at e; exact e
  have st3_1 : sI Ts1 3 = sI T 3 := by have e := hss1 3; rw [if_neg (by decide)] at e; exact e
  have st4_1 : sI Ts1 4 = sI T 4 := by have e := hss1 4; rw [if_neg (by decide)] at e; exact e
  have sx1 : f_X6_changeSetting T (jI 1) (jI u3_) = (jI (sI T 1), Ts1) := se1
  obtain ⟨ys1, eys1⟩ : ∃ q, q = hist2 y0_ T (jI (sI T 1)) := ⟨_, rfl⟩
  have eXs1 : f_X7_set T y0_ (jI 1) (jI u3_) = (jI (sI T 1), Ts1, ys1) := by rw [X7_set, sx1, eys1]
  have hOs1 : LO Ts1 z0_ ys1 s := by rw [eys1]; exact LO_op hG hO0 hGs1 (jI (sI T 1))
  refine lc_set C ⟨(show 207 ≤ 600000 by omega), (show 2335 ≤ 7302250 by omega)⟩ ⟨Nat.le_of_ble_eq_true rfl, Nat.le_of_ble_eq_true rfl⟩ hO0 ([] : List va_W) (jI 1) (jI u3_) (Nat.le_of_ble_eq_true rfl) dL_law_45 (fun r_ T_ y_ e_ => ?_)
  cases (eXs1.symm.trans e_)
  refine ij_bipush C dL_law_48 (by decide) ?_
  refine ij_icmp_ne C 111 dL_law_50 (by decide) ⟨by omega, by omega⟩ ⟨by decide, by decide⟩ (fun h => False.elim (by omega)) (fun _ => ?_)
  refine zj_aload_n C dL_law_53 2 rfl ?_
  refine ij_iconst C dL_law_54 ?_
  refine zj_iload_n C dL_law_55 0 rfl ?_
  refine ij_bipush C dL_law_56 (by decide) ?_
  refine zj_ishr C dL_law_58 (fun v58 => ?_)
  refine ij_bipush C dL_law_59 (by decide) ?_
  refine ls_up C ⟨(show 207 ≤ 600000 by omega), (show 2335 ≤ 7302250 by omega)⟩ ⟨Nat.le_of_ble_eq_true rfl, Nat.le_of_ble_eq_true rfl⟩ ⟨by decide, by decide⟩ (Nat.le_of_ble_eq_true rfl) dL_law_61 (fun u4_ hu4_1 hu4_2 => ?_)
  have zq2 := zGi2
  obtain ⟨se2, hGs2, hss2⟩ := set_sp hGs1 (k := 2) (by decide) (v := u4_) ⟨by omega, by omega⟩
  obtain ⟨Ts2, eTs2⟩ : ∃ q, q = sTr_st Ts1 (upd (gTr_st Ts1) 2 (jI u4_)) := ⟨_, rfl⟩
  rw [← eTs2] at se2 hGs2 hss2
  have st3_2 : sI Ts2 3 = sI Ts1 3 := by have e := hss2 3; rw [if_neg (by decide)] at e; exact e
  have st4_2 : sI Ts2 4 = sI Ts1 4 := by have e := hss2 4; rw [if_neg (by decide)] at e; exact e
  have sx2 : f_X6_changeSetting Ts1 (jI 2) (jI u4_) = (jI (sI Ts1 2), Ts2) := se2
  obtain ⟨ys2, eys2⟩ : ∃ q, q = hist2 ys1 Ts1 (jI (sI Ts1 2)) := ⟨_, rfl⟩
  have eXs2 : f_X7_set Ts1 ys1 (jI 2) (jI u4_) = (jI (sI Ts1 2), Ts2, ys2) := by rw [X7_set, sx2, eys2]
  have hOs2 : LO Ts2 z0_ ys2 s := by rw [eys2]; exact LO_op hGs1 hOs1 hGs2 (jI (sI Ts1 2))
  refine lc_set C ⟨(show 207 ≤ 600000 by omega), (show 2335 ≤ 7302250 by omega)⟩ ⟨Nat.le_of_ble_eq_true rfl, Nat.le_of_ble_eq_true rfl⟩ hOs1 ([] : List va_W) (jI 2) (jI u4_) (Nat.le_of_ble_eq_true rfl) dL_law_64 (fun r_ T_ y_ e_ => ?_)
  cases (eXs2.symm.trans e_)
  refine ij_bipush C dL_law_67 (by decide) ?_
  refine ij_icmp_ne C 111 dL_law_69 (by decide) ⟨by omega, by omega⟩ ⟨by decide, by decide⟩ (fun h => False.elim (by omega)) (fun _ => ?_)
  refine zj_aload_n C dL_law_72 2 rfl ?_
  refine ij_iconst C dL_law_73 ?_
  refine ij_bipush C dL_law_74 (by decide) ?_
  refine zj_iload_n C dL_law_76 0 rfl ?_
  refine ij_iconst C dL_law_77 ?_
  refine zj_ishr C dL_law_78 (fun v78 => ?_)
  refine ij_sipush C dL_law_79 (by decide) ?_
  refine ls_up C ⟨(show 207 ≤ 600000 by omega), (show 2335 ≤ 7302250 by omega)⟩ ⟨Nat.le_of_ble_eq_true rfl, Nat.le_of_ble_eq_true rfl⟩ ⟨by decide, by decide⟩ (Nat.le_of_ble_eq_true rfl) dL_law_82 (fun u5_ hu5_1 hu5_2 => ?_)
  refine ij_iadd C dL_law_85 ?_
  have zq3 := zGi3
  obtain ⟨se3, hGs3, hss3⟩ := set_sp hGs2 (k := 3) (by decide) (v := (50 + u5_)) ⟨by omega, by omega⟩
  obtain ⟨Ts3, eTs3⟩ : ∃ q, q = sTr_st Ts2 (upd (gTr_st Ts2) 3 (jI (50 + u5_))) := ⟨_, rfl⟩
  rw [← eTs3] at se3 hGs3 hss3
  have st4_3 : sI Ts3 4 = sI Ts2 4 := by have e := hss3 4; rw [if_neg (by decide)] at e; exact e
  have sx3 : f_X6_changeSetting Ts2 (jI 3) (jI (50 + u5_)) = (jI (sI Ts2 3), Ts3) := se3
  obtain ⟨ys3, eys3⟩ : ∃ q, q = hist2 ys2 Ts2 (jI (sI Ts2 3)) := ⟨_, rfl⟩
  have eXs3 : f_X7_set Ts2 ys2 (jI 3) (jI (50 + u5_)) = (jI (sI Ts2 3), Ts3, ys3) := by rw [X7_set, sx3, eys3]
  have hOs3 : LO Ts3 z0_ ys3 s := by rw [eys3]; exact LO_op hGs2 hOs2 hGs3 (jI (sI Ts2 3))
  refine lc_set C ⟨(show 207 ≤ 600000 by omega), (show 2335 ≤ 7302250 by omega)⟩ ⟨Nat.le_of_ble_eq_true rfl, Nat.le_of_ble_eq_true rfl⟩ hOs2 ([] : List va_W) (jI 3) (jI (50 + u5_)) (Nat.le_of_ble_eq_true rfl) dL_law_86 (fun r_ T_ y_ e_ => ?_)
  cases (eXs3.symm.trans e_)
  refine ij_bipush C dL_law_89 (by decide) ?_
  refine ij_icmp_ne C 111 dL_law_91 (by decide) ⟨by omega, by omega⟩ ⟨by decide, by decide⟩ (fun h => False.elim (by omega)) (fun _ => ?_)
  refine zj_aload_n C dL_law_94 2 rfl ?_
  refine ij_iconst C dL_law_95 ?_
  refine zj_iload_n C dL_law_96 0 rfl ?_
  refine ij_iconst C dL_law_97 ?_
  refine zj_ishr C dL_law_98 (fun v98 => ?_)
  refine ij_bipush C dL_law_99 (by decide) ?_
  refine ls_up C ⟨(show 207 ≤ 600000 by omega), (show 2335 ≤ 7302250 by omega)⟩ ⟨Nat.le_of_ble_eq_true rfl, Nat.le_of_ble_eq_true rfl⟩ ⟨by decide, by decide⟩ (Nat.le_of_ble_eq_true rfl) dL_law_101 (fun u6_ hu6_1 hu6_2 => ?_)
  have zq4 := zGi4
  obtain ⟨se4, hGs4, hss4⟩ := set_sp hGs3 (k := 4) (by decide) (v := u6_) ⟨by omega, by omega⟩
  obtain ⟨Ts4, eTs4⟩ : ∃ q, q = sTr_st Ts3 (upd (gTr_st Ts3) 4 (jI u6_)) := ⟨_, rfl⟩
  rw [← eTs4] at se4 hGs4 hss4
  have sx4 : f_X6_changeSetting Ts3 (jI 4) (jI u6_) = (jI (sI Ts3 4), Ts4) := se4
  obtain ⟨ys4, eys4⟩ : ∃ q, q = hist2 ys3 Ts3 (jI (sI Ts3 4)) := ⟨_, rfl⟩
  have eXs4 : f_X7_set Ts3 ys3 (jI 4) (jI u6_) = (jI (sI Ts3 4), Ts4, ys4) := by rw [X7_set, sx4, eys4]
  have hOs4 : LO Ts4 z0_ ys4 s := by rw [eys4]; exact LO_op hGs3 hOs3 hGs4 (jI (sI Ts3 4))
  refine lc_set C ⟨(show 207 ≤ 600000 by omega), (show 2335 ≤ 7302250 by omega)⟩ ⟨Nat.le_of_ble_eq_true rfl, Nat.le_of_ble_eq_true rfl⟩ hOs3 ([] : List va_W) (jI 4) (jI u6_) (Nat.le_of_ble_eq_true rfl) dL_law_104 (fun r_ T_ y_ e_ => ?_)
  cases (eXs4.symm.trans e_)
  refine ij_iconst C dL_law_107 ?_
  refine ij_icmp_eq C 113 dL_law_108 (by decide) ⟨by omega, by omega⟩ ⟨by decide, by decide⟩ (fun _ => ?_) (fun h => False.elim (by omega))
  refine ij_iconst C dL_law_113 ?_
  refine zj_istore C (L' := [(4, .int (jI 0)), (3, .int cv2), (2, .int (jI 2)), (1, .ref x0), (0, .ref bb)]) dL_law_114 (by decide) rfl ?_
  refine zj_sub (L' := [(4, .int (jI 0)), (2, .int (jI 2)), (1, .ref x0), (0, .ref bb)]) [0, 2, 3, 4] rfl ?_
  show zJ E 5 207 2335 (([] : List va_W) ++ LB cy x0 x1 x2 d0 d1 p0 p1 h0 h1 a b hs sl Ts4 U0_ x0_ z0_ ys4 s).flatten 116 [(4, .int (jI ((0 : Nat) : Int))), (2, .int (jI ((2 : Nat) : Int))), (1, .ref x0), (0, .ref bb)] []
  exact law_lp C hsc hN hend 34 0 2 207 2335 _ _ _ _ _ _ rfl (by decide) (by decide) (by decide) hGs4 hOs4
end LAW
