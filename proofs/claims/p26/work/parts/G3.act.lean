/-! act, case by case. Written by wip/p26/law14.py -/
abbrev rm_act : Room := { frames := 10, cells := 7, slots := 86, locals := 290 }
theorem vc_set {D c : Int} {T : zTr} (h : GI D c T) (z : zPd) (y : zHs) {k : Nat} (hk : k < 5) : f_X7_count T z y (jI (12 + (k : Int))) = jI (sI T k) := by
  rcases (show k = 0 ∨ k = 1 ∨ k = 2 ∨ k = 3 ∨ k = 4 by omega) with rfl | rfl | rfl | rfl | rfl
  · exact vc_12 h z y
  · exact vc_13 h z y
  · exact vc_14 h z y
  · exact vc_15 h z y
  · exact vc_16 h z y
theorem zGi0 : (zGi 0).toInt = 23 := rfl
section ACT
variable {E : zE} {cy : Nat → ClassId} {l : Launch} {D : va_G} {x0 x1 x2 d0 d1 p0 p1 h0 h1 : Nat} {a b : Nat → Nat} {hs sl : Nat → Nat → Nat} {T U : zTr} {x : zDd} {z : zPd} {y : zHs} {s : zSl} {Dd c : Int}
set_option maxHeartbeats 4000000 in
set_option maxRecDepth 100000 in
theorem act_buy (C : zO E cL_act 20 "SwingUnitsLaw" rm_act cy l D) (hG : GI Dd c T) (hO : LO T z y s) (hD : Dd + 1 ≤ 100000) (hcc : c + 6 ≤ 400) (hret : ∀ (k' n' pc : Nat) (L : List (Nat × Value)) (T' U' : zTr) (x' : zDd) (z' : zPd) (y' : zHs) (s' : zSl), k' ≤ 7 → n' ≤ 86 → GI (Dd + 1) (c + 6) T' → LO T' z' y' s' → decode cL_act pc = .ok (.ireturn, 1) → zJ E 20 k' n' (([] : List va_W) ++ LB cy x0 x1 x2 d0 d1 p0 p1 h0 h1 a b hs sl T' U' x' z' y' s').flatten pc L [.int (jI 1)]) {i : Nat} {hr wh : Int} {xv yv : Int32} (hi : i < 6) (hh : 0 ≤ hr ∧ hr ≤ 23) (hwh : (if hr < sI T 0 then dI T else dI T + 1) = wh) (hwr : 0 ≤ wh ∧ wh ≤ 100001) {am : Int} (ha : 1 ≤ am ∧ am ≤ 100000) : zJ E 20 0 0 (([] : List va_W) ++ LB cy x0 x1 x2 d0 d1 p0 p1 h0 h1 a b hs sl T U x z y s).flatten 155 [(8, .int (jI am)), (7, .int (jI wh)), (6, .int (jI (dI T))), (5, .int (jI hr)), (4, .int (jI (i : Int))), (3, .int yv), (2, .int xv), (0, .ref x0)] [] := by
  obtain ⟨⟨rc1, rc2⟩, ⟨rl1, rl2⟩, ⟨rq1, rq2⟩, ⟨rv1, rv2, rv3, rv4⟩, ⟨ru1, ru2⟩, ⟨rn1, rn2⟩, ⟨rp1, rp2⟩, ⟨re1, re2⟩, ⟨rd1, rd2⟩, ⟨rb1, rb2⟩, ⟨rs1, rs2⟩, ⟨rw1, rw2⟩⟩ := GI_r hG
  obtain ⟨eB0, eB1⟩ := buy_sp hG (by omega) hi (a := am) (v := hr) ⟨by omega, by omega⟩ hh
  rw [hwh] at eB1
  refine zj_aload_n C dL_act_155 7 rfl ?_
  refine ij_bipush C dL_act_156 (by decide) ?_
  refine lc_count C ⟨Nat.le_of_ble_eq_true rfl, Nat.le_of_ble_eq_true rfl⟩ ⟨Nat.le_of_ble_eq_true rfl, Nat.le_of_ble_eq_true rfl⟩ hO ([] : List va_W) (jI 9) (Nat.le_of_ble_eq_true rfl) dL_act_158 (vc_9 hG z y) ?_
  refine zj_istore C (L' := [(9, .int (jI (gOd_n (gTr_bu T) : Int))), (8, .int (jI am)), (7, .int (jI wh)), (6, .int (jI (dI T))), (5, .int (jI hr)), (4, .int (jI (i : Int))), (3, .int yv), (2, .int xv), (0, .ref x0)]) dL_act_161 (by decide) rfl ?_
  refine zj_iload C dL_act_163 0 rfl ?_
  refine ij_bipush C dL_act_165 (by decide) ?_
  refine ij_icmp_ne C 191 dL_act_167 (by decide) ⟨by omega, by omega⟩ ⟨by decide, by decide⟩ (fun hz => ?_) (fun hz => ?_)
  · skip
    obtain ⟨T1, eB, hG1, hn1, p_, hp1, hp2, hp3, hp4, hp5⟩ := eB1 (by omega)
    have eX : f_X7_buy T y (jI (i : Int)) (jI am) (jI hr) = (jI wh, T1, hist2 y T (jI wh)) := by rw [X7_buy, eB]
    have hO1 := LO_op hG hO hG1 (jI wh)
    refine zj_aload_n C dL_act_191 8 rfl ?_
    refine zj_iload C dL_act_192 5 rfl ?_
    refine zj_iload C dL_act_194 1 rfl ?_
    refine zj_iload C dL_act_196 4 rfl ?_
    refine lc_buy C ⟨Nat.le_of_ble_eq_true rfl, Nat.le_of_ble_eq_true rfl⟩ ⟨Nat.le_of_ble_eq_true rfl, Nat.le_of_ble_eq_true rfl⟩ hO ([] : List va_W) (jI (i : Int)) (jI am) (jI hr) (Nat.le_of_ble_eq_true rfl) dL_act_198 (fun r_ T_ y_ e_ => ?_)
    cases (eX.symm.trans e_)
    refine zj_iload C dL_act_201 2 rfl ?_
    refine ij_icmp_ne C 237 dL_act_203 (by decide) ⟨by omega, by omega⟩ ⟨by omega, by omega⟩ (fun h => False.elim (by omega)) (fun _ => ?_)
    refine zj_aload_n C dL_act_206 8 rfl ?_
    refine ij_bipush C dL_act_207 (by decide) ?_
    refine lc_count C ⟨Nat.le_of_ble_eq_true rfl, Nat.le_of_ble_eq_true rfl⟩ ⟨Nat.le_of_ble_eq_true rfl, Nat.le_of_ble_eq_true rfl⟩ hO1 ([] : List va_W) (jI 9) (Nat.le_of_ble_eq_true rfl) dL_act_209 (vc_9 hG1 z (hist2 y T (jI wh))) ?_
    refine zj_iload C dL_act_212 0 rfl ?_
    refine ij_iconst C dL_act_214 ?_
    refine ij_iadd C dL_act_215 ?_
    refine ij_icmp_ne C 237 dL_act_216 (by decide) ⟨by omega, by omega⟩ ⟨by omega, by omega⟩ (fun h => False.elim (by omega)) (fun _ => ?_)
    refine zj_aload_n C dL_act_219 8 rfl ?_
    refine ij_iconst C dL_act_220 ?_
    refine zj_iload C dL_act_221 5 rfl ?_
    refine zj_iload C dL_act_223 1 rfl ?_
    refine zj_iload C dL_act_225 2 rfl ?_
    refine ls_has0 C ⟨Nat.le_of_ble_eq_true rfl, Nat.le_of_ble_eq_true rfl⟩ ⟨Nat.le_of_ble_eq_true rfl, Nat.le_of_ble_eq_true rfl⟩ hG1 hO1 ([] : List va_W) p_ (i : Int) am wh ⟨hp1, hp2, hp3, hp4, hp5⟩ ⟨by omega, by omega⟩ (Nat.le_of_ble_eq_true rfl) dL_act_227 ?_
    refine ij_if_eq C 237 dL_act_230 (by decide) ⟨by decide, by decide⟩ (fun h => False.elim (by omega)) (fun _ => ?_)
    refine ij_iconst C dL_act_233 ?_
    refine zj_goto C 238 dL_act_234 (by decide) ?_
    exact hret _ _ _ _ _ _ _ _ _ _ (by decide) (by decide) (GI_wk (GI_D hG1 (by omega) (by omega)) (by omega) (by omega)) hO1 dL_act_238
  · skip
    have eX : f_X7_buy T y (jI (i : Int)) (jI am) (jI hr) = (jI (-4), T, hist2 y T (jI (-4))) := by rw [X7_buy, eB0 (by omega)]; rfl
    have hO1 := LO_op hG hO hG (jI (-4))
    refine zj_aload_n C dL_act_170 8 rfl ?_
    refine zj_iload C dL_act_171 5 rfl ?_
    refine zj_iload C dL_act_173 1 rfl ?_
    refine zj_iload C dL_act_175 4 rfl ?_
    refine lc_buy C ⟨Nat.le_of_ble_eq_true rfl, Nat.le_of_ble_eq_true rfl⟩ ⟨Nat.le_of_ble_eq_true rfl, Nat.le_of_ble_eq_true rfl⟩ hO ([] : List va_W) (jI (i : Int)) (jI am) (jI hr) (Nat.le_of_ble_eq_true rfl) dL_act_177 (fun r_ T_ y_ e_ => ?_)
    cases (eX.symm.trans e_)
    refine ij_bipush C dL_act_180 (by decide) ?_
    refine ij_icmp_ne C 189 dL_act_182 (by decide) ⟨by decide, by decide⟩ ⟨by decide, by decide⟩ (fun h => False.elim (by omega)) (fun _ => ?_)
    refine ij_iconst C dL_act_185 ?_
    refine zj_goto C 190 dL_act_186 (by decide) ?_
    exact hret _ _ _ _ _ _ _ _ _ _ (by decide) (by decide) (GI_wk (GI_D hG (by omega) (by omega)) (by omega) (by omega)) hO1 dL_act_190
set_option maxHeartbeats 4000000 in
set_option maxRecDepth 100000 in
theorem act_leave (C : zO E cL_act 20 "SwingUnitsLaw" rm_act cy l D) (hG : GI Dd c T) (hO : LO T z y s) (hD : Dd + 1 ≤ 100000) (hcc : c + 6 ≤ 400) (hret : ∀ (k' n' pc : Nat) (L : List (Nat × Value)) (T' U' : zTr) (x' : zDd) (z' : zPd) (y' : zHs) (s' : zSl), k' ≤ 7 → n' ≤ 86 → GI (Dd + 1) (c + 6) T' → LO T' z' y' s' → decode cL_act pc = .ok (.ireturn, 1) → zJ E 20 k' n' (([] : List va_W) ++ LB cy x0 x1 x2 d0 d1 p0 p1 h0 h1 a b hs sl T' U' x' z' y' s').flatten pc L [.int (jI 1)]) {i : Nat} {hr wh : Int} {xv yv : Int32} (hi : i < 6) (hh : 0 ≤ hr ∧ hr ≤ 23) (hwh : (if hr < sI T 0 then dI T else dI T + 1) = wh) (hwr : 0 ≤ wh ∧ wh ≤ 100001) {un : Int} (ha : 1 ≤ un ∧ un < 2147483648) : zJ E 20 0 0 (([] : List va_W) ++ LB cy x0 x1 x2 d0 d1 p0 p1 h0 h1 a b hs sl T U x z y s).flatten 269 [(9, .int (jI un)), (8, .int (jI (uU T i - hS (gTr_le T) i))), (7, .int (jI wh)), (6, .int (jI (dI T))), (5, .int (jI hr)), (4, .int (jI (i : Int))), (3, .int yv), (2, .int xv), (0, .ref x0)] [] := by
  obtain ⟨⟨rc1, rc2⟩, ⟨rl1, rl2⟩, ⟨rq1, rq2⟩, ⟨rv1, rv2, rv3, rv4⟩, ⟨ru1, ru2⟩, ⟨rn1, rn2⟩, ⟨rp1, rp2⟩, ⟨re1, re2⟩, ⟨rd1, rd2⟩, ⟨rb1, rb2⟩, ⟨rs1, rs2⟩, ⟨rw1, rw2⟩⟩ := GI_r hG
  obtain ⟨⟨h1_, h2_, h3_, h4_, h5_⟩, ⟨h6_, h7_⟩, -⟩ := GI_h hG hi
  obtain ⟨eB0, eB1, eB2⟩ := leave_sp hG (by omega) hi (a := un) (v := hr) ha hh
  rw [hwh] at eB2
  refine zj_aload_n C dL_act_269 8 rfl ?_
  refine ij_bipush C dL_act_270 (by decide) ?_
  refine lc_count C ⟨Nat.le_of_ble_eq_true rfl, Nat.le_of_ble_eq_true rfl⟩ ⟨Nat.le_of_ble_eq_true rfl, Nat.le_of_ble_eq_true rfl⟩ hO ([] : List va_W) (jI 10) (Nat.le_of_ble_eq_true rfl) dL_act_272 (vc_10 hG z y) ?_
  refine zj_istore C (L' := [(10, .int (jI (gOd_n (gTr_le T) : Int))), (9, .int (jI un)), (8, .int (jI (uU T i - hS (gTr_le T) i))), (7, .int (jI wh)), (6, .int (jI (dI T))), (5, .int (jI hr)), (4, .int (jI (i : Int))), (3, .int yv), (2, .int xv), (0, .ref x0)]) dL_act_275 (by decide) rfl ?_
  refine zj_aload_n C dL_act_277 9 rfl ?_
  refine ij_bipush C dL_act_278 (by decide) ?_
  refine lc_count C ⟨Nat.le_of_ble_eq_true rfl, Nat.le_of_ble_eq_true rfl⟩ ⟨Nat.le_of_ble_eq_true rfl, Nat.le_of_ble_eq_true rfl⟩ hO ([] : List va_W) (jI 11) (Nat.le_of_ble_eq_true rfl) dL_act_280 (vc_11 hG z y) ?_
  refine zj_istore C (L' := [(11, .int (jI (sS (gTr_le T) 0 (gOd_n (gTr_le T))))), (10, .int (jI (gOd_n (gTr_le T) : Int))), (9, .int (jI un)), (8, .int (jI (uU T i - hS (gTr_le T) i))), (7, .int (jI wh)), (6, .int (jI (dI T))), (5, .int (jI hr)), (4, .int (jI (i : Int))), (3, .int yv), (2, .int xv), (0, .ref x0)]) dL_act_283 (by decide) rfl ?_
  refine zj_iload C dL_act_285 1 rfl ?_
  refine ij_bipush C dL_act_287 (by decide) ?_
  refine ij_icmp_ne C 313 dL_act_289 (by decide) ⟨by omega, by omega⟩ ⟨by decide, by decide⟩ (fun hz => ?_) (fun hz => ?_)
  · skip
    refine zj_iload C dL_act_313 2 rfl ?_
    refine zj_iload C dL_act_315 3 rfl ?_
    refine ij_icmp_le C 341 dL_act_317 (by decide) ⟨by omega, by omega⟩ ⟨by omega, by omega⟩ (fun hy => ?_) (fun hy => ?_)
    · skip
      obtain ⟨T1, eB, hG1, hn1, hs1_, hf1, p_, hp1, hp2, hp3, hp4, hp5⟩ := eB2 (by omega) (by omega)
      obtain ⟨-, -, -, -, ⟨tu1, tu2⟩, -, -, -, -, -, ⟨ts1, ts2⟩, ⟨tw1, tw2⟩⟩ := GI_r hG1
      have eX : f_X7_leave T y (jI (i : Int)) (jI un) (jI hr) = (jI wh, T1, hist2 y T (jI wh)) := by rw [X7_leave, eB]
      have hO1 := LO_op hG hO hG1 (jI wh)
      refine zj_aload_n C dL_act_341 10 rfl ?_
      refine zj_iload C dL_act_342 7 rfl ?_
      refine zj_iload C dL_act_344 2 rfl ?_
      refine zj_iload C dL_act_346 6 rfl ?_
      refine lc_leave C ⟨Nat.le_of_ble_eq_true rfl, Nat.le_of_ble_eq_true rfl⟩ ⟨Nat.le_of_ble_eq_true rfl, Nat.le_of_ble_eq_true rfl⟩ hO ([] : List va_W) (jI (i : Int)) (jI un) (jI hr) (Nat.le_of_ble_eq_true rfl) dL_act_348 (fun r_ T_ y_ e_ => ?_)
      cases (eX.symm.trans e_)
      refine zj_iload C dL_act_351 4 rfl ?_
      refine ij_icmp_ne C 415 dL_act_353 (by decide) ⟨by omega, by omega⟩ ⟨by omega, by omega⟩ (fun h => False.elim (by omega)) (fun _ => ?_)
      refine zj_aload_n C dL_act_356 10 rfl ?_
      refine ij_bipush C dL_act_357 (by decide) ?_
      refine lc_count C ⟨Nat.le_of_ble_eq_true rfl, Nat.le_of_ble_eq_true rfl⟩ ⟨Nat.le_of_ble_eq_true rfl, Nat.le_of_ble_eq_true rfl⟩ hO1 ([] : List va_W) (jI 10) (Nat.le_of_ble_eq_true rfl) dL_act_359 (vc_10 hG1 z (hist2 y T (jI wh))) ?_
      refine zj_iload C dL_act_362 1 rfl ?_
      refine ij_iconst C dL_act_364 ?_
      refine ij_iadd C dL_act_365 ?_
      refine ij_icmp_ne C 415 dL_act_366 (by decide) ⟨by omega, by omega⟩ ⟨by omega, by omega⟩ (fun h => False.elim (by omega)) (fun _ => ?_)
      refine zj_aload_n C dL_act_369 10 rfl ?_
      refine ij_bipush C dL_act_370 (by decide) ?_
      refine lc_count C ⟨Nat.le_of_ble_eq_true rfl, Nat.le_of_ble_eq_true rfl⟩ ⟨Nat.le_of_ble_eq_true rfl, Nat.le_of_ble_eq_true rfl⟩ hO1 ([] : List va_W) (jI 11) (Nat.le_of_ble_eq_true rfl) dL_act_372 (vc_11 hG1 z (hist2 y T (jI wh))) ?_
      refine zj_iload C dL_act_375 0 rfl ?_
      refine zj_iload C dL_act_377 2 rfl ?_
      refine ij_iadd C dL_act_379 ?_
      refine ij_icmp_ne C 415 dL_act_380 (by decide) ⟨by omega, by omega⟩ ⟨by omega, by omega⟩ (fun h => False.elim (by omega)) (fun _ => ?_)
      refine zj_aload_n C dL_act_383 10 rfl ?_
      refine zj_iload C dL_act_384 7 rfl ?_
      refine ls_free C ⟨Nat.le_of_ble_eq_true rfl, Nat.le_of_ble_eq_true rfl⟩ ⟨Nat.le_of_ble_eq_true rfl, Nat.le_of_ble_eq_true rfl⟩ hG1 hO1 ([] : List va_W) i hi (Nat.le_of_ble_eq_true rfl) dL_act_386 ?_
      refine zj_iload C dL_act_389 3 rfl ?_
      refine zj_iload C dL_act_391 2 rfl ?_
      refine ij_isub C dL_act_393 ?_
      refine ij_icmp_ne C 415 dL_act_394 (by decide) ⟨by omega, by omega⟩ ⟨by omega, by omega⟩ (fun h => False.elim (by omega)) (fun _ => ?_)
      refine zj_aload_n C dL_act_397 10 rfl ?_
      refine ij_iconst C dL_act_398 ?_
      refine zj_iload C dL_act_399 7 rfl ?_
      refine zj_iload C dL_act_401 2 rfl ?_
      refine zj_iload C dL_act_403 4 rfl ?_
      refine ls_has1 C ⟨Nat.le_of_ble_eq_true rfl, Nat.le_of_ble_eq_true rfl⟩ ⟨Nat.le_of_ble_eq_true rfl, Nat.le_of_ble_eq_true rfl⟩ hG1 hO1 ([] : List va_W) p_ (i : Int) un wh ⟨hp1, hp2, hp3, hp4, hp5⟩ ⟨by omega, by omega⟩ (Nat.le_of_ble_eq_true rfl) dL_act_405 ?_
      refine ij_if_eq C 415 dL_act_408 (by decide) ⟨by decide, by decide⟩ (fun h => False.elim (by omega)) (fun _ => ?_)
      refine ij_iconst C dL_act_411 ?_
      refine zj_goto C 416 dL_act_412 (by decide) ?_
      exact hret _ _ _ _ _ _ _ _ _ _ (by decide) (by decide) (GI_wk (GI_D hG1 (by omega) (by omega)) (by omega) (by omega)) hO1 dL_act_416
    · skip
      have eX : f_X7_leave T y (jI (i : Int)) (jI un) (jI hr) = (jI (-5), T, hist2 y T (jI (-5))) := by rw [X7_leave, eB1 (by omega) (by omega)]; rfl
      have hO1 := LO_op hG hO hG (jI (-5))
      refine zj_aload_n C dL_act_320 10 rfl ?_
      refine zj_iload C dL_act_321 7 rfl ?_
      refine zj_iload C dL_act_323 2 rfl ?_
      refine zj_iload C dL_act_325 6 rfl ?_
      refine lc_leave C ⟨Nat.le_of_ble_eq_true rfl, Nat.le_of_ble_eq_true rfl⟩ ⟨Nat.le_of_ble_eq_true rfl, Nat.le_of_ble_eq_true rfl⟩ hO ([] : List va_W) (jI (i : Int)) (jI un) (jI hr) (Nat.le_of_ble_eq_true rfl) dL_act_327 (fun r_ T_ y_ e_ => ?_)
      cases (eX.symm.trans e_)
      refine ij_bipush C dL_act_330 (by decide) ?_
      refine ij_icmp_ne C 339 dL_act_332 (by decide) ⟨by decide, by decide⟩ ⟨by decide, by decide⟩ (fun h => False.elim (by omega)) (fun _ => ?_)
      refine ij_iconst C dL_act_335 ?_
      refine zj_goto C 340 dL_act_336 (by decide) ?_
      exact hret _ _ _ _ _ _ _ _ _ _ (by decide) (by decide) (GI_wk (GI_D hG (by omega) (by omega)) (by omega) (by omega)) hO1 dL_act_340
  · skip
    have eX : f_X7_leave T y (jI (i : Int)) (jI un) (jI hr) = (jI (-4), T, hist2 y T (jI (-4))) := by rw [X7_leave, eB0 (by omega)]; rfl
    have hO1 := LO_op hG hO hG (jI (-4))
    refine zj_aload_n C dL_act_292 10 rfl ?_
    refine zj_iload C dL_act_293 7 rfl ?_
    refine zj_iload C dL_act_295 2 rfl ?_
    refine zj_iload C dL_act_297 6 rfl ?_
    refine lc_leave C ⟨Nat.le_of_ble_eq_true rfl, Nat.le_of_ble_eq_true rfl⟩ ⟨Nat.le_of_ble_eq_true rfl, Nat.le_of_ble_eq_true rfl⟩ hO ([] : List va_W) (jI (i : Int)) (jI un) (jI hr) (Nat.le_of_ble_eq_true rfl) dL_act_299 (fun r_ T_ y_ e_ => ?_)
    cases (eX.symm.trans e_)
    refine ij_bipush C dL_act_302 (by decide) ?_
    refine ij_icmp_ne C 311 dL_act_304 (by decide) ⟨by decide, by decide⟩ ⟨by decide, by decide⟩ (fun h => False.elim (by omega)) (fun _ => ?_)
    refine ij_iconst C dL_act_307 ?_
    refine zj_goto C 312 dL_act_308 (by decide) ?_
    exact hret _ _ _ _ _ _ _ _ _ _ (by decide) (by decide) (GI_wk (GI_D hG (by omega) (by omega)) (by omega) (by omega)) hO1 dL_act_312
set_option maxHeartbeats 4000000 in
set_option maxRecDepth 100000 in
theorem act_kind (C : zO E cL_act 20 "SwingUnitsLaw" rm_act cy l D) (hG : GI Dd c T) (hO : LO T z y s) (hD : Dd + 1 ≤ 100000) (hcc : c + 6 ≤ 400) (hret : ∀ (k' n' pc : Nat) (L : List (Nat × Value)) (T' U' : zTr) (x' : zDd) (z' : zPd) (y' : zHs) (s' : zSl), k' ≤ 7 → n' ≤ 86 → GI (Dd + 1) (c + 6) T' → LO T' z' y' s' → decode cL_act pc = .ok (.ireturn, 1) → zJ E 20 k' n' (([] : List va_W) ++ LB cy x0 x1 x2 d0 d1 p0 p1 h0 h1 a b hs sl T' U' x' z' y' s').flatten pc L [.int (jI 1)]) {i : Nat} {hr wh : Int} {xv yv : Int32} (hi : i < 6) (hh : 0 ≤ hr ∧ hr ≤ 23) (hwh : (if hr < sI T 0 then dI T else dI T + 1) = wh) (hwr : 0 ≤ wh ∧ wh ≤ 100001) {un : Int} (ha : 1 ≤ un ∧ un < 2147483648) : zJ E 20 0 0 (([] : List va_W) ++ LB cy x0 x1 x2 d0 d1 p0 p1 h0 h1 a b hs sl T U x z y s).flatten 437 [(9, .int (jI un)), (8, .int (jI (uU T i - hS (gTr_le T) i))), (7, .int (jI wh)), (6, .int (jI (dI T))), (5, .int (jI hr)), (4, .int (jI (i : Int))), (3, .int yv), (2, .int xv), (0, .ref x0)] [] := by
  obtain ⟨⟨rc1, rc2⟩, ⟨rl1, rl2⟩, ⟨rq1, rq2⟩, ⟨rv1, rv2, rv3, rv4⟩, ⟨ru1, ru2⟩, ⟨rn1, rn2⟩, ⟨rp1, rp2⟩, ⟨re1, re2⟩, ⟨rd1, rd2⟩, ⟨rb1, rb2⟩, ⟨rs1, rs2⟩, ⟨rw1, rw2⟩⟩ := GI_r hG
  obtain ⟨⟨h1_, h2_, h3_, h4_, h5_⟩, ⟨h6_, h7_⟩, ⟨h8_, h9_⟩, ⟨h10_, h11_⟩, ⟨h12_, h13_⟩, ⟨h14_, h15_⟩, ⟨h16_, h17_⟩⟩ := GI_h hG hi
  obtain ⟨eB0, eB1⟩ := kind_sp hG (by omega) hi (a := un) ha
  refine zj_iload C dL_act_437 0 rfl ?_
  refine zj_iload C dL_act_439 1 rfl ?_
  refine ij_icmp_le C 463 dL_act_441 (by decide) ⟨by omega, by omega⟩ ⟨by omega, by omega⟩ (fun hz => ?_) (fun hz => ?_)
  · skip
    obtain ⟨hu0, T1, eB, hG1, k1, k2, k3, k4, k5, k6, ⟨m1, m2, m3, m4, m5, m6, m7, m8⟩⟩ := eB1 (by omega)
    obtain ⟨⟨tc1, tc2⟩, ⟨tl1, tl2⟩, -⟩ := GI_r hG1
    obtain ⟨⟨g1_, g2_, g3_, g4_, g5_⟩, -, -, ⟨g10_, g11_⟩, -, -, ⟨g16_, g17_⟩⟩ := GI_h hG1 hi
    have tu := (GI_r hG1).2.2.2.2.1
    have eX : f_X7_inKind T y (jI (i : Int)) (jI un) = (jI (un * lI T / uAll T), T1, hist2 y T (jI (un * lI T / uAll T))) := by rw [X7_inKind, eB]
    have hO1 := LO_op hG hO hG1 (jI (un * lI T / uAll T))
    refine zj_iload C dL_act_463 0 rfl ?_
    refine ij_i2l C ⟨by omega, by omega⟩ dL_act_465 ?_
    refine zj_aload_n C dL_act_466 8 rfl ?_
    refine ij_iconst C dL_act_467 ?_
    refine lc_count C ⟨Nat.le_of_ble_eq_true rfl, Nat.le_of_ble_eq_true rfl⟩ ⟨Nat.le_of_ble_eq_true rfl, Nat.le_of_ble_eq_true rfl⟩ hO ([] : List va_W) (jI 0) (Nat.le_of_ble_eq_true rfl) dL_act_468 (vc_0 hG z y) ?_
    refine ij_i2l C ⟨by omega, by omega⟩ dL_act_471 ?_
    refine ij_lmul C dL_act_472 ?_
    refine zj_aload_n C dL_act_473 8 rfl ?_
    refine ij_iconst C dL_act_474 ?_
    refine lc_count C ⟨Nat.le_of_ble_eq_true rfl, Nat.le_of_ble_eq_true rfl⟩ ⟨Nat.le_of_ble_eq_true rfl, Nat.le_of_ble_eq_true rfl⟩ hO ([] : List va_W) (jI 4) (Nat.le_of_ble_eq_true rfl) dL_act_475 (vc_4 hG z y) ?_
    refine ij_i2l C ⟨by omega, by omega⟩ dL_act_478 ?_
    refine ij_ldiv C ⟨by omega, by omega⟩ ⟨by omega, by omega⟩ dL_act_479 ?_
    refine zj_lstore C (L' := [(10, .long (jL ((un * (cI T)) / (uAll T)))), (9, .int (jI un)), (8, .int (jI (uU T i - hS (gTr_le T) i))), (7, .int (jI wh)), (6, .int (jI (dI T))), (5, .int (jI hr)), (4, .int (jI (i : Int))), (3, .int yv), (2, .int xv), (0, .ref x0)]) dL_act_480 (by decide) rfl ?_
    refine zj_iload C dL_act_482 1 rfl ?_
    refine ij_i2l C ⟨by omega, by omega⟩ dL_act_484 ?_
    refine zj_aload_n C dL_act_485 9 rfl ?_
    refine ij_iconst C dL_act_486 ?_
    refine lc_count C ⟨Nat.le_of_ble_eq_true rfl, Nat.le_of_ble_eq_true rfl⟩ ⟨Nat.le_of_ble_eq_true rfl, Nat.le_of_ble_eq_true rfl⟩ hO ([] : List va_W) (jI 1) (Nat.le_of_ble_eq_true rfl) dL_act_487 (vc_1 hG z y) ?_
    refine ij_i2l C ⟨by omega, by omega⟩ dL_act_490 ?_
    refine ij_lmul C dL_act_491 ?_
    refine zj_aload_n C dL_act_492 9 rfl ?_
    refine ij_iconst C dL_act_493 ?_
    refine lc_count C ⟨Nat.le_of_ble_eq_true rfl, Nat.le_of_ble_eq_true rfl⟩ ⟨Nat.le_of_ble_eq_true rfl, Nat.le_of_ble_eq_true rfl⟩ hO ([] : List va_W) (jI 4) (Nat.le_of_ble_eq_true rfl) dL_act_494 (vc_4 hG z y) ?_
    refine ij_i2l C ⟨by omega, by omega⟩ dL_act_497 ?_
    refine ij_ldiv C ⟨by omega, by omega⟩ ⟨by omega, by omega⟩ dL_act_498 ?_
    refine zj_lstore C (L' := [(12, .long (jL ((un * (lI T)) / (uAll T)))), (10, .long (jL ((un * (cI T)) / (uAll T)))), (9, .int (jI un)), (8, .int (jI (uU T i - hS (gTr_le T) i))), (7, .int (jI wh)), (6, .int (jI (dI T))), (5, .int (jI hr)), (4, .int (jI (i : Int))), (3, .int yv), (2, .int xv), (0, .ref x0)]) dL_act_499 (by decide) rfl ?_
    refine zj_aload_n C dL_act_501 10 rfl ?_
    refine zj_iload C dL_act_502 7 rfl ?_
    refine ij_iconst C dL_act_504 ?_
    refine lc_ofHolder C ⟨Nat.le_of_ble_eq_true rfl, Nat.le_of_ble_eq_true rfl⟩ ⟨Nat.le_of_ble_eq_true rfl, Nat.le_of_ble_eq_true rfl⟩ hO ([] : List va_W) (jI (i : Int)) (jI 5) (Nat.le_of_ble_eq_true rfl) dL_act_505 (vh_5 hG hi) ?_
    refine zj_istore C (L' := [(14, .int (jI (paI T i))), (12, .long (jL ((un * (lI T)) / (uAll T)))), (10, .long (jL ((un * (cI T)) / (uAll T)))), (9, .int (jI un)), (8, .int (jI (uU T i - hS (gTr_le T) i))), (7, .int (jI wh)), (6, .int (jI (dI T))), (5, .int (jI hr)), (4, .int (jI (i : Int))), (3, .int yv), (2, .int xv), (0, .ref x0)]) dL_act_508 (by decide) rfl ?_
    refine zj_aload_n C dL_act_510 11 rfl ?_
    refine zj_iload C dL_act_511 8 rfl ?_
    refine ij_bipush C dL_act_513 (by decide) ?_
    refine lc_ofHolder C ⟨Nat.le_of_ble_eq_true rfl, Nat.le_of_ble_eq_true rfl⟩ ⟨Nat.le_of_ble_eq_true rfl, Nat.le_of_ble_eq_true rfl⟩ hO ([] : List va_W) (jI (i : Int)) (jI 8) (Nat.le_of_ble_eq_true rfl) dL_act_515 (vh_8 hG hi) ?_
    refine zj_istore C (L' := [(15, .int (jI (loI T i))), (14, .int (jI (paI T i))), (12, .long (jL ((un * (lI T)) / (uAll T)))), (10, .long (jL ((un * (cI T)) / (uAll T)))), (9, .int (jI un)), (8, .int (jI (uU T i - hS (gTr_le T) i))), (7, .int (jI wh)), (6, .int (jI (dI T))), (5, .int (jI hr)), (4, .int (jI (i : Int))), (3, .int yv), (2, .int xv), (0, .ref x0)]) dL_act_518 (by decide) rfl ?_
    refine zj_aload_n C dL_act_520 12 rfl ?_
    refine zj_iload C dL_act_521 9 rfl ?_
    refine ij_iconst C dL_act_523 ?_
    refine lc_ofHolder C ⟨Nat.le_of_ble_eq_true rfl, Nat.le_of_ble_eq_true rfl⟩ ⟨Nat.le_of_ble_eq_true rfl, Nat.le_of_ble_eq_true rfl⟩ hO ([] : List va_W) (jI (i : Int)) (jI 0) (Nat.le_of_ble_eq_true rfl) dL_act_524 (vh_0 hG hi) ?_
    refine zj_istore C (L' := [(16, .int (jI (uU T i))), (15, .int (jI (loI T i))), (14, .int (jI (paI T i))), (12, .long (jL ((un * (lI T)) / (uAll T)))), (10, .long (jL ((un * (cI T)) / (uAll T)))), (9, .int (jI un)), (8, .int (jI (uU T i - hS (gTr_le T) i))), (7, .int (jI wh)), (6, .int (jI (dI T))), (5, .int (jI hr)), (4, .int (jI (i : Int))), (3, .int yv), (2, .int xv), (0, .ref x0)]) dL_act_527 (by decide) rfl ?_
    refine zj_aload_n C dL_act_529 13 rfl ?_
    refine zj_iload C dL_act_530 10 rfl ?_
    refine ij_iconst C dL_act_532 ?_
    refine lc_ofHolder C ⟨Nat.le_of_ble_eq_true rfl, Nat.le_of_ble_eq_true rfl⟩ ⟨Nat.le_of_ble_eq_true rfl, Nat.le_of_ble_eq_true rfl⟩ hO ([] : List va_W) (jI (i : Int)) (jI 1) (Nat.le_of_ble_eq_true rfl) dL_act_533 (vh_1 hG hi) ?_
    refine zj_istore C (L' := [(17, .int (jI (uO T i))), (16, .int (jI (uU T i))), (15, .int (jI (loI T i))), (14, .int (jI (paI T i))), (12, .long (jL ((un * (lI T)) / (uAll T)))), (10, .long (jL ((un * (cI T)) / (uAll T)))), (9, .int (jI un)), (8, .int (jI (uU T i - hS (gTr_le T) i))), (7, .int (jI wh)), (6, .int (jI (dI T))), (5, .int (jI hr)), (4, .int (jI (i : Int))), (3, .int yv), (2, .int xv), (0, .ref x0)]) dL_act_536 (by decide) rfl ?_
    refine zj_aload_n C dL_act_538 14 rfl ?_
    refine ij_iconst C dL_act_539 ?_
    refine lc_count C ⟨Nat.le_of_ble_eq_true rfl, Nat.le_of_ble_eq_true rfl⟩ ⟨Nat.le_of_ble_eq_true rfl, Nat.le_of_ble_eq_true rfl⟩ hO ([] : List va_W) (jI 0) (Nat.le_of_ble_eq_true rfl) dL_act_540 (vc_0 hG z y) ?_
    refine zj_istore C (L' := [(18, .int (jI (cI T))), (17, .int (jI (uO T i))), (16, .int (jI (uU T i))), (15, .int (jI (loI T i))), (14, .int (jI (paI T i))), (12, .long (jL ((un * (lI T)) / (uAll T)))), (10, .long (jL ((un * (cI T)) / (uAll T)))), (9, .int (jI un)), (8, .int (jI (uU T i - hS (gTr_le T) i))), (7, .int (jI wh)), (6, .int (jI (dI T))), (5, .int (jI hr)), (4, .int (jI (i : Int))), (3, .int yv), (2, .int xv), (0, .ref x0)]) dL_act_543 (by decide) rfl ?_
    refine zj_aload_n C dL_act_545 15 rfl ?_
    refine ij_iconst C dL_act_546 ?_
    refine lc_count C ⟨Nat.le_of_ble_eq_true rfl, Nat.le_of_ble_eq_true rfl⟩ ⟨Nat.le_of_ble_eq_true rfl, Nat.le_of_ble_eq_true rfl⟩ hO ([] : List va_W) (jI 1) (Nat.le_of_ble_eq_true rfl) dL_act_547 (vc_1 hG z y) ?_
    refine zj_istore C (L' := [(19, .int (jI (lI T))), (18, .int (jI (cI T))), (17, .int (jI (uO T i))), (16, .int (jI (uU T i))), (15, .int (jI (loI T i))), (14, .int (jI (paI T i))), (12, .long (jL ((un * (lI T)) / (uAll T)))), (10, .long (jL ((un * (cI T)) / (uAll T)))), (9, .int (jI un)), (8, .int (jI (uU T i - hS (gTr_le T) i))), (7, .int (jI wh)), (6, .int (jI (dI T))), (5, .int (jI hr)), (4, .int (jI (i : Int))), (3, .int yv), (2, .int xv), (0, .ref x0)]) dL_act_550 (by decide) rfl ?_
    refine zj_aload_n C dL_act_552 16 rfl ?_
    refine zj_iload C dL_act_553 13 rfl ?_
    refine zj_iload C dL_act_555 8 rfl ?_
    refine lc_inKind C ⟨Nat.le_of_ble_eq_true rfl, Nat.le_of_ble_eq_true rfl⟩ ⟨Nat.le_of_ble_eq_true rfl, Nat.le_of_ble_eq_true rfl⟩ hO ([] : List va_W) (jI (i : Int)) (jI un) (Nat.le_of_ble_eq_true rfl) dL_act_557 (fun r_ T_ y_ e_ => ?_)
    cases (eX.symm.trans e_)
    refine ij_i2l C ⟨by omega, by omega⟩ dL_act_560 ?_
    refine zj_lload C dL_act_561 6 rfl ?_
    refine ij_lcmp_ne C 681 dL_act_563 dL_act_564 (by decide) ⟨by omega, by omega⟩ ⟨by omega, by omega⟩ (fun h => False.elim (by omega)) (fun _ => ?_)
    refine zj_aload_n C dL_act_567 16 rfl ?_
    refine zj_iload C dL_act_568 13 rfl ?_
    refine ij_iconst C dL_act_570 ?_
    refine lc_ofHolder C ⟨Nat.le_of_ble_eq_true rfl, Nat.le_of_ble_eq_true rfl⟩ ⟨Nat.le_of_ble_eq_true rfl, Nat.le_of_ble_eq_true rfl⟩ hO1 ([] : List va_W) (jI (i : Int)) (jI 5) (Nat.le_of_ble_eq_true rfl) dL_act_571 (vh_5 hG1 hi) ?_
    refine ij_i2l C ⟨by omega, by omega⟩ dL_act_574 ?_
    refine zj_iload C dL_act_575 5 rfl ?_
    refine ij_i2l C ⟨by omega, by omega⟩ dL_act_577 ?_
    refine zj_lload C dL_act_578 7 rfl ?_
    refine ij_ladd C dL_act_580 ?_
    refine ij_lcmp_ne C 681 dL_act_581 dL_act_582 (by decide) ⟨by omega, by omega⟩ ⟨by omega, by omega⟩ (fun h => False.elim (by omega)) (fun _ => ?_)
    refine zj_aload_n C dL_act_585 16 rfl ?_
    refine zj_iload C dL_act_586 13 rfl ?_
    refine ij_bipush C dL_act_588 (by decide) ?_
    refine lc_ofHolder C ⟨Nat.le_of_ble_eq_true rfl, Nat.le_of_ble_eq_true rfl⟩ ⟨Nat.le_of_ble_eq_true rfl, Nat.le_of_ble_eq_true rfl⟩ hO1 ([] : List va_W) (jI (i : Int)) (jI 8) (Nat.le_of_ble_eq_true rfl) dL_act_590 (vh_8 hG1 hi) ?_
    refine ij_i2l C ⟨by omega, by omega⟩ dL_act_593 ?_
    refine zj_iload C dL_act_594 4 rfl ?_
    refine ij_i2l C ⟨by omega, by omega⟩ dL_act_596 ?_
    refine zj_lload C dL_act_597 6 rfl ?_
    refine ij_ladd C dL_act_599 ?_
    refine ij_lcmp_ne C 681 dL_act_600 dL_act_601 (by decide) ⟨by omega, by omega⟩ ⟨by omega, by omega⟩ (fun h => False.elim (by omega)) (fun _ => ?_)
    refine zj_aload_n C dL_act_604 16 rfl ?_
    refine ij_iconst C dL_act_605 ?_
    refine lc_count C ⟨Nat.le_of_ble_eq_true rfl, Nat.le_of_ble_eq_true rfl⟩ ⟨Nat.le_of_ble_eq_true rfl, Nat.le_of_ble_eq_true rfl⟩ hO1 ([] : List va_W) (jI 0) (Nat.le_of_ble_eq_true rfl) dL_act_606 (vc_0 hG1 z (hist2 y T (jI (un * lI T / uAll T)))) ?_
    refine ij_i2l C ⟨by omega, by omega⟩ dL_act_609 ?_
    refine zj_iload C dL_act_610 1 rfl ?_
    refine ij_i2l C ⟨by omega, by omega⟩ dL_act_612 ?_
    refine zj_lload C dL_act_613 7 rfl ?_
    refine ij_lsub C dL_act_615 ?_
    refine ij_lcmp_ne C 681 dL_act_616 dL_act_617 (by decide) ⟨by omega, by omega⟩ ⟨by omega, by omega⟩ (fun h => False.elim (by omega)) (fun _ => ?_)
    refine zj_aload_n C dL_act_620 16 rfl ?_
    refine ij_iconst C dL_act_621 ?_
    refine lc_count C ⟨Nat.le_of_ble_eq_true rfl, Nat.le_of_ble_eq_true rfl⟩ ⟨Nat.le_of_ble_eq_true rfl, Nat.le_of_ble_eq_true rfl⟩ hO1 ([] : List va_W) (jI 1) (Nat.le_of_ble_eq_true rfl) dL_act_622 (vc_1 hG1 z (hist2 y T (jI (un * lI T / uAll T)))) ?_
    refine ij_i2l C ⟨by omega, by omega⟩ dL_act_625 ?_
    refine zj_iload C dL_act_626 0 rfl ?_
    refine ij_i2l C ⟨by omega, by omega⟩ dL_act_628 ?_
    refine zj_lload C dL_act_629 6 rfl ?_
    refine ij_lsub C dL_act_631 ?_
    refine ij_lcmp_ne C 681 dL_act_632 dL_act_633 (by decide) ⟨by omega, by omega⟩ ⟨by omega, by omega⟩ (fun h => False.elim (by omega)) (fun _ => ?_)
    refine zj_aload_n C dL_act_636 16 rfl ?_
    refine zj_iload C dL_act_637 13 rfl ?_
    refine ij_iconst C dL_act_639 ?_
    refine lc_ofHolder C ⟨Nat.le_of_ble_eq_true rfl, Nat.le_of_ble_eq_true rfl⟩ ⟨Nat.le_of_ble_eq_true rfl, Nat.le_of_ble_eq_true rfl⟩ hO1 ([] : List va_W) (jI (i : Int)) (jI 0) (Nat.le_of_ble_eq_true rfl) dL_act_640 (vh_0 hG1 hi) ?_
    refine zj_iload C dL_act_643 3 rfl ?_
    refine zj_iload C dL_act_645 8 rfl ?_
    refine ij_isub C dL_act_647 ?_
    refine ij_icmp_ne C 681 dL_act_648 (by decide) ⟨by omega, by omega⟩ ⟨by omega, by omega⟩ (fun h => False.elim (by omega)) (fun _ => ?_)
    refine zj_aload_n C dL_act_651 16 rfl ?_
    refine zj_iload C dL_act_652 13 rfl ?_
    refine ij_iconst C dL_act_654 ?_
    refine lc_ofHolder C ⟨Nat.le_of_ble_eq_true rfl, Nat.le_of_ble_eq_true rfl⟩ ⟨Nat.le_of_ble_eq_true rfl, Nat.le_of_ble_eq_true rfl⟩ hO1 ([] : List va_W) (jI (i : Int)) (jI 1) (Nat.le_of_ble_eq_true rfl) dL_act_655 (vh_1 hG1 hi) ?_
    refine zj_iload C dL_act_658 2 rfl ?_
    refine zj_iload C dL_act_660 8 rfl ?_
    refine ij_icmp_le C 673 dL_act_662 (by decide) ⟨by omega, by omega⟩ ⟨by omega, by omega⟩ (fun hy => ?_) (fun hy => ?_)
    · skip
      rw [if_neg (by omega)] at k6
      refine ij_iconst C dL_act_673 ?_
      refine ij_icmp_ne C 681 dL_act_674 (by decide) ⟨by omega, by omega⟩ ⟨by decide, by decide⟩ (fun h => False.elim (by omega)) (fun _ => ?_)
      refine ij_iconst C dL_act_677 ?_
      refine zj_goto C 682 dL_act_678 (by decide) ?_
      exact hret _ _ _ _ _ _ _ _ _ _ (by decide) (by decide) (GI_wk (GI_D hG1 (by omega) (by omega)) (by omega) (by omega)) hO1 dL_act_682
    · skip
      rw [if_pos (by omega)] at k6
      refine zj_iload C dL_act_665 2 rfl ?_
      refine zj_iload C dL_act_667 8 rfl ?_
      refine ij_isub C dL_act_669 ?_
      refine zj_goto C 674 dL_act_670 (by decide) ?_
      refine ij_icmp_ne C 681 dL_act_674 (by decide) ⟨by omega, by omega⟩ ⟨by omega, by omega⟩ (fun h => False.elim (by omega)) (fun _ => ?_)
      refine ij_iconst C dL_act_677 ?_
      refine zj_goto C 682 dL_act_678 (by decide) ?_
      exact hret _ _ _ _ _ _ _ _ _ _ (by decide) (by decide) (GI_wk (GI_D hG1 (by omega) (by omega)) (by omega) (by omega)) hO1 dL_act_682
  · skip
    have eX : f_X7_inKind T y (jI (i : Int)) (jI un) = (jI (-5), T, hist2 y T (jI (-5))) := by rw [X7_inKind, eB0 (by omega)]; rfl
    have hO1 := LO_op hG hO hG (jI (-5))
    refine zj_aload_n C dL_act_444 8 rfl ?_
    refine zj_iload C dL_act_445 5 rfl ?_
    refine zj_iload C dL_act_447 0 rfl ?_
    refine lc_inKind C ⟨Nat.le_of_ble_eq_true rfl, Nat.le_of_ble_eq_true rfl⟩ ⟨Nat.le_of_ble_eq_true rfl, Nat.le_of_ble_eq_true rfl⟩ hO ([] : List va_W) (jI (i : Int)) (jI un) (Nat.le_of_ble_eq_true rfl) dL_act_449 (fun r_ T_ y_ e_ => ?_)
    cases (eX.symm.trans e_)
    refine ij_bipush C dL_act_452 (by decide) ?_
    refine ij_icmp_ne C 461 dL_act_454 (by decide) ⟨by decide, by decide⟩ ⟨by decide, by decide⟩ (fun h => False.elim (by omega)) (fun _ => ?_)
    refine ij_iconst C dL_act_457 ?_
    refine zj_goto C 462 dL_act_458 (by decide) ?_
    exact hret _ _ _ _ _ _ _ _ _ _ (by decide) (by decide) (GI_wk (GI_D hG (by omega) (by omega)) (by omega) (by omega)) hO1 dL_act_462
set_option maxHeartbeats 4000000 in
set_option maxRecDepth 100000 in
theorem act_quote (C : zO E cL_act 20 "SwingUnitsLaw" rm_act cy l D) (hG : GI Dd c T) (hO : LO T z y s) (hD : Dd + 1 ≤ 100000) (hcc : c + 6 ≤ 400) (hret : ∀ (k' n' pc : Nat) (L : List (Nat × Value)) (T' U' : zTr) (x' : zDd) (z' : zPd) (y' : zHs) (s' : zSl), k' ≤ 7 → n' ≤ 86 → GI (Dd + 1) (c + 6) T' → LO T' z' y' s' → decode cL_act pc = .ok (.ireturn, 1) → zJ E 20 k' n' (([] : List va_W) ++ LB cy x0 x1 x2 d0 d1 p0 p1 h0 h1 a b hs sl T' U' x' z' y' s').flatten pc L [.int (jI 1)]) {i : Nat} {hr wh : Int} {xv yv : Int32} (hi : i < 6) (hh : 0 ≤ hr ∧ hr ≤ 23) (hwh : (if hr < sI T 0 then dI T else dI T + 1) = wh) (hwr : 0 ≤ wh ∧ wh ≤ 100001) {is : Int} (ha : 1 ≤ is ∧ is ≤ 10000) : zJ E 20 0 0 (([] : List va_W) ++ LB cy x0 x1 x2 d0 d1 p0 p1 h0 h1 a b hs sl T U x z y s).flatten 711 [(8, .int (jI is)), (7, .int (jI wh)), (6, .int (jI (dI T))), (5, .int (jI hr)), (4, .int (jI (i : Int))), (3, .int yv), (2, .int xv), (0, .ref x0)] [] := by
  obtain ⟨⟨rc1, rc2⟩, ⟨rl1, rl2⟩, ⟨rq1, rq2⟩, ⟨rv1, rv2, rv3, rv4⟩, ⟨ru1, ru2⟩, ⟨rn1, rn2⟩, ⟨rp1, rp2⟩, ⟨re1, re2⟩, ⟨rd1, rd2⟩, ⟨rb1, rb2⟩, ⟨rs1, rs2⟩, ⟨rw1, rw2⟩⟩ := GI_r hG
  obtain ⟨eB, hG1, hq1⟩ := quote_sp hG (by omega) (v := is) ha
  have eX : f_X7_quote T y (jI is) = (jI (qI T), (sTr_quote T (jI is)), hist2 y T (jI (qI T))) := by rw [X7_quote, eB]
  have hO1 := LO_op hG hO hG1 (jI (qI T))
  refine zj_aload_n C dL_act_711 7 rfl ?_
  refine ij_iconst C dL_act_712 ?_
  refine lc_count C ⟨Nat.le_of_ble_eq_true rfl, Nat.le_of_ble_eq_true rfl⟩ ⟨Nat.le_of_ble_eq_true rfl, Nat.le_of_ble_eq_true rfl⟩ hO ([] : List va_W) (jI 2) (Nat.le_of_ble_eq_true rfl) dL_act_713 (vc_2 hG z y) ?_
  refine zj_istore C (L' := [(9, .int (jI (qI T))), (8, .int (jI is)), (7, .int (jI wh)), (6, .int (jI (dI T))), (5, .int (jI hr)), (4, .int (jI (i : Int))), (3, .int yv), (2, .int xv), (0, .ref x0)]) dL_act_716 (by decide) rfl ?_
  refine zj_aload_n C dL_act_718 8 rfl ?_
  refine zj_iload C dL_act_719 1 rfl ?_
  refine lc_quote C ⟨Nat.le_of_ble_eq_true rfl, Nat.le_of_ble_eq_true rfl⟩ ⟨Nat.le_of_ble_eq_true rfl, Nat.le_of_ble_eq_true rfl⟩ hO ([] : List va_W) (jI is) (Nat.le_of_ble_eq_true rfl) dL_act_721 (fun r_ T_ y_ e_ => ?_)
  cases (eX.symm.trans e_)
  refine zj_iload C dL_act_724 0 rfl ?_
  refine ij_icmp_ne C 743 dL_act_726 (by decide) ⟨by omega, by omega⟩ ⟨by omega, by omega⟩ (fun h => False.elim (by omega)) (fun _ => ?_)
  refine zj_aload_n C dL_act_729 8 rfl ?_
  refine ij_iconst C dL_act_730 ?_
  refine lc_count C ⟨Nat.le_of_ble_eq_true rfl, Nat.le_of_ble_eq_true rfl⟩ ⟨Nat.le_of_ble_eq_true rfl, Nat.le_of_ble_eq_true rfl⟩ hO1 ([] : List va_W) (jI 2) (Nat.le_of_ble_eq_true rfl) dL_act_731 (vc_2 hG1 z (hist2 y T (jI (qI T)))) ?_
  refine zj_iload C dL_act_734 1 rfl ?_
  refine ij_icmp_ne C 743 dL_act_736 (by decide) ⟨by omega, by omega⟩ ⟨by omega, by omega⟩ (fun h => False.elim (by omega)) (fun _ => ?_)
  refine ij_iconst C dL_act_739 ?_
  refine zj_goto C 744 dL_act_740 (by decide) ?_
  exact hret _ _ _ _ _ _ _ _ _ _ (by decide) (by decide) (GI_wk (GI_D hG1 (by omega) (by omega)) (by omega) (by omega)) hO1 dL_act_744
set_option maxHeartbeats 4000000 in
set_option maxRecDepth 100000 in
theorem act_trade (C : zO E cL_act 20 "SwingUnitsLaw" rm_act cy l D) (hG : GI Dd c T) (hO : LO T z y s) (hD : Dd + 1 ≤ 100000) (hcc : c + 6 ≤ 400) (hret : ∀ (k' n' pc : Nat) (L : List (Nat × Value)) (T' U' : zTr) (x' : zDd) (z' : zPd) (y' : zHs) (s' : zSl), k' ≤ 7 → n' ≤ 86 → GI (Dd + 1) (c + 6) T' → LO T' z' y' s' → decode cL_act pc = .ok (.ireturn, 1) → zJ E 20 k' n' (([] : List va_W) ++ LB cy x0 x1 x2 d0 d1 p0 p1 h0 h1 a b hs sl T' U' x' z' y' s').flatten pc L [.int (jI 1)]) {i : Nat} {hr wh : Int} {xv yv : Int32} (hi : i < 6) (hh : 0 ≤ hr ∧ hr ≤ 23) (hwh : (if hr < sI T 0 then dI T else dI T + 1) = wh) (hwr : 0 ≤ wh ∧ wh ≤ 100001) {lo : Int} (ha : -40 ≤ lo ∧ lo ≤ 40) (ha0 : lo ≠ 0) : zJ E 20 0 0 (([] : List va_W) ++ LB cy x0 x1 x2 d0 d1 p0 p1 h0 h1 a b hs sl T U x z y s).flatten 778 [(8, .int (jI lo)), (7, .int (jI wh)), (6, .int (jI (dI T))), (5, .int (jI hr)), (4, .int (jI (i : Int))), (3, .int yv), (2, .int xv), (0, .ref x0)] [] := by
  obtain ⟨⟨rc1, rc2⟩, ⟨rl1, rl2⟩, ⟨rq1, rq2⟩, ⟨rv1, rv2, rv3, rv4⟩, ⟨ru1, ru2⟩, ⟨rn1, rn2⟩, ⟨rp1, rp2⟩, ⟨re1, re2⟩, ⟨rd1, rd2⟩, ⟨rb1, rb2⟩, ⟨rs1, rs2⟩, ⟨rw1, rw2⟩⟩ := GI_r hG
  obtain ⟨eB0, eB1, eB2⟩ := trade_sp hG (by omega) ha ha0
  obtain ⟨c1_, c2_⟩ := coI_r hG ha
  obtain ⟨f1_, f2_, f3_, f4_, f5_⟩ := feI_r hG
  refine zj_aload_n C dL_act_778 7 rfl ?_
  refine ij_iconst C dL_act_779 ?_
  refine lc_count C ⟨Nat.le_of_ble_eq_true rfl, Nat.le_of_ble_eq_true rfl⟩ ⟨Nat.le_of_ble_eq_true rfl, Nat.le_of_ble_eq_true rfl⟩ hO ([] : List va_W) (jI 1) (Nat.le_of_ble_eq_true rfl) dL_act_780 (vc_1 hG z y) ?_
  refine zj_istore C (L' := [(9, .int (jI (lI T))), (8, .int (jI lo)), (7, .int (jI wh)), (6, .int (jI (dI T))), (5, .int (jI hr)), (4, .int (jI (i : Int))), (3, .int yv), (2, .int xv), (0, .ref x0)]) dL_act_783 (by decide) rfl ?_
  refine zj_iload C dL_act_785 1 rfl ?_
  have J1 : zJ E 20 0 0 (([] : List va_W) ++ LB cy x0 x1 x2 d0 d1 p0 p1 h0 h1 a b hs sl T U x z y s).flatten 825 [(9, .int (jI (lI T))), (8, .int (jI lo)), (7, .int (jI wh)), (6, .int (jI (dI T))), (5, .int (jI hr)), (4, .int (jI (i : Int))), (3, .int yv), (2, .int xv), (0, .ref x0)] [.long (jL (-(coI T lo)))] := by
    refine zj_lstore C (L' := [(10, .long (jL (-(coI T lo)))), (9, .int (jI (lI T))), (8, .int (jI lo)), (7, .int (jI wh)), (6, .int (jI (dI T))), (5, .int (jI hr)), (4, .int (jI (i : Int))), (3, .int yv), (2, .int xv), (0, .ref x0)]) dL_act_825 (by decide) rfl ?_
    refine zj_aload_n C dL_act_827 9 rfl ?_
    refine ij_iconst C dL_act_828 ?_
    refine lc_count C ⟨Nat.le_of_ble_eq_true rfl, Nat.le_of_ble_eq_true rfl⟩ ⟨Nat.le_of_ble_eq_true rfl, Nat.le_of_ble_eq_true rfl⟩ hO ([] : List va_W) (jI 0) (Nat.le_of_ble_eq_true rfl) dL_act_829 (vc_0 hG z y) ?_
    refine zj_istore C (L' := [(12, .int (jI (cI T))), (10, .long (jL (-(coI T lo)))), (9, .int (jI (lI T))), (8, .int (jI lo)), (7, .int (jI wh)), (6, .int (jI (dI T))), (5, .int (jI hr)), (4, .int (jI (i : Int))), (3, .int yv), (2, .int xv), (0, .ref x0)]) dL_act_832 (by decide) rfl ?_
    refine zj_iload C dL_act_834 2 rfl ?_
    refine zj_iload C dL_act_836 3 rfl ?_
    refine ij_iadd C dL_act_838 ?_
    refine ij_sipush C dL_act_839 (by decide) ?_
    refine ij_icmp_le C 862 dL_act_842 (by decide) ⟨by omega, by omega⟩ ⟨by decide, by decide⟩ (fun hz => ?_) (fun hz => ?_)
    · skip
      refine zj_iload C dL_act_862 2 rfl ?_
      refine zj_iload C dL_act_864 3 rfl ?_
      refine ij_iadd C dL_act_866 ?_
      refine ij_if_lt C 893 dL_act_867 (by decide) ⟨by omega, by omega⟩ (fun hy => ?_) (fun hy => ?_)
      · skip
        have eX : f_X7_trade T y (jI lo) = (jI (-5), T, hist2 y T (jI (-5))) := by rw [X7_trade, eB1 (by omega) (by omega)]; rfl
        have hO1 := LO_op hG hO hG (jI (-5))
        refine zj_aload_n C dL_act_893 10 rfl ?_
        refine zj_iload C dL_act_894 3 rfl ?_
        refine lc_trade C ⟨Nat.le_of_ble_eq_true rfl, Nat.le_of_ble_eq_true rfl⟩ ⟨Nat.le_of_ble_eq_true rfl, Nat.le_of_ble_eq_true rfl⟩ hO ([] : List va_W) (jI lo) (Nat.le_of_ble_eq_true rfl) dL_act_896 (fun r_ T_ y_ e_ => ?_)
        cases (eX.symm.trans e_)
        refine ij_bipush C dL_act_899 (by decide) ?_
        refine ij_icmp_ne C 908 dL_act_901 (by decide) ⟨by decide, by decide⟩ ⟨by decide, by decide⟩ (fun h => False.elim (by omega)) (fun _ => ?_)
        refine ij_iconst C dL_act_904 ?_
        refine zj_goto C 909 dL_act_905 (by decide) ?_
        exact hret _ _ _ _ _ _ _ _ _ _ (by decide) (by decide) (GI_wk (GI_D hG (by omega) (by omega)) (by omega) (by omega)) hO1 dL_act_909
      · skip
        refine zj_iload C dL_act_870 3 rfl ?_
        refine ij_if_le C 910 dL_act_872 (by decide) ⟨by omega, by omega⟩ (fun hx => ?_) (fun hx => ?_)
        · skip
          obtain ⟨T1, eB, hG1, k1, k2⟩ := eB2 (by omega) (by omega) (fun _ => by omega)
          obtain ⟨⟨tc1, tc2⟩, ⟨tl1, tl2⟩, -⟩ := GI_r hG1
          have eX : f_X7_trade T y (jI lo) = (jI (lI T + lo), T1, hist2 y T (jI (lI T + lo))) := by rw [X7_trade, eB]
          have hO1 := LO_op hG hO hG1 (jI (lI T + lo))
          refine zj_aload_n C dL_act_910 10 rfl ?_
          refine zj_iload C dL_act_911 3 rfl ?_
          refine lc_trade C ⟨Nat.le_of_ble_eq_true rfl, Nat.le_of_ble_eq_true rfl⟩ ⟨Nat.le_of_ble_eq_true rfl, Nat.le_of_ble_eq_true rfl⟩ hO ([] : List va_W) (jI lo) (Nat.le_of_ble_eq_true rfl) dL_act_913 (fun r_ T_ y_ e_ => ?_)
          cases (eX.symm.trans e_)
          refine zj_iload C dL_act_916 2 rfl ?_
          refine zj_iload C dL_act_918 3 rfl ?_
          refine ij_iadd C dL_act_920 ?_
          refine ij_icmp_ne C 957 dL_act_921 (by decide) ⟨by omega, by omega⟩ ⟨by omega, by omega⟩ (fun h => False.elim (by omega)) (fun _ => ?_)
          refine zj_aload_n C dL_act_924 10 rfl ?_
          refine ij_iconst C dL_act_925 ?_
          refine lc_count C ⟨Nat.le_of_ble_eq_true rfl, Nat.le_of_ble_eq_true rfl⟩ ⟨Nat.le_of_ble_eq_true rfl, Nat.le_of_ble_eq_true rfl⟩ hO1 ([] : List va_W) (jI 1) (Nat.le_of_ble_eq_true rfl) dL_act_926 (vc_1 hG1 z (hist2 y T (jI (lI T + lo)))) ?_
          refine zj_iload C dL_act_929 2 rfl ?_
          refine zj_iload C dL_act_931 3 rfl ?_
          refine ij_iadd C dL_act_933 ?_
          refine ij_icmp_ne C 957 dL_act_934 (by decide) ⟨by omega, by omega⟩ ⟨by omega, by omega⟩ (fun h => False.elim (by omega)) (fun _ => ?_)
          refine zj_aload_n C dL_act_937 10 rfl ?_
          refine ij_iconst C dL_act_938 ?_
          refine lc_count C ⟨Nat.le_of_ble_eq_true rfl, Nat.le_of_ble_eq_true rfl⟩ ⟨Nat.le_of_ble_eq_true rfl, Nat.le_of_ble_eq_true rfl⟩ hO1 ([] : List va_W) (jI 0) (Nat.le_of_ble_eq_true rfl) dL_act_939 (vc_0 hG1 z (hist2 y T (jI (lI T + lo)))) ?_
          refine ij_i2l C ⟨by omega, by omega⟩ dL_act_942 ?_
          refine zj_iload C dL_act_943 0 rfl ?_
          refine ij_i2l C ⟨by omega, by omega⟩ dL_act_945 ?_
          refine zj_lload C dL_act_946 1 rfl ?_
          refine ij_ladd C dL_act_948 ?_
          refine ij_lcmp_ne C 957 dL_act_949 dL_act_950 (by decide) ⟨by omega, by omega⟩ ⟨by omega, by omega⟩ (fun h => False.elim (by omega)) (fun _ => ?_)
          refine ij_iconst C dL_act_953 ?_
          refine zj_goto C 958 dL_act_954 (by decide) ?_
          exact hret _ _ _ _ _ _ _ _ _ _ (by decide) (by decide) (GI_wk (GI_D hG1 (by omega) (by omega)) (by omega) (by omega)) hO1 dL_act_958
        · skip
          refine zj_iload C dL_act_875 0 rfl ?_
          refine zj_aload_n C dL_act_877 10 rfl ?_
          refine ij_bipush C dL_act_878 (by decide) ?_
          refine lc_count C ⟨Nat.le_of_ble_eq_true rfl, Nat.le_of_ble_eq_true rfl⟩ ⟨Nat.le_of_ble_eq_true rfl, Nat.le_of_ble_eq_true rfl⟩ hO ([] : List va_W) (jI 6) (Nat.le_of_ble_eq_true rfl) dL_act_880 (vc_6 hG z y) ?_
          refine ij_isub C dL_act_883 ?_
          refine ij_i2l C ⟨by omega, by omega⟩ dL_act_884 ?_
          refine zj_lload C dL_act_885 1 rfl ?_
          refine ij_ladd C dL_act_887 ?_
          refine zj_lconst C (v := jL 0) dL_act_888 (by decide) ?_
          refine ij_lcmp_ge C 910 dL_act_889 dL_act_890 (by decide) ⟨by omega, by omega⟩ ⟨by decide, by decide⟩ (fun hw => ?_) (fun hw => ?_)
          · skip
            obtain ⟨T1, eB, hG1, k1, k2⟩ := eB2 (by omega) (by omega) (fun _ => by omega)
            obtain ⟨⟨tc1, tc2⟩, ⟨tl1, tl2⟩, -⟩ := GI_r hG1
            have eX : f_X7_trade T y (jI lo) = (jI (lI T + lo), T1, hist2 y T (jI (lI T + lo))) := by rw [X7_trade, eB]
            have hO1 := LO_op hG hO hG1 (jI (lI T + lo))
            refine zj_aload_n C dL_act_910 10 rfl ?_
            refine zj_iload C dL_act_911 3 rfl ?_
            refine lc_trade C ⟨Nat.le_of_ble_eq_true rfl, Nat.le_of_ble_eq_true rfl⟩ ⟨Nat.le_of_ble_eq_true rfl, Nat.le_of_ble_eq_true rfl⟩ hO ([] : List va_W) (jI lo) (Nat.le_of_ble_eq_true rfl) dL_act_913 (fun r_ T_ y_ e_ => ?_)
            cases (eX.symm.trans e_)
            refine zj_iload C dL_act_916 2 rfl ?_
            refine zj_iload C dL_act_918 3 rfl ?_
            refine ij_iadd C dL_act_920 ?_
            refine ij_icmp_ne C 957 dL_act_921 (by decide) ⟨by omega, by omega⟩ ⟨by omega, by omega⟩ (fun h => False.elim (by omega)) (fun _ => ?_)
            refine zj_aload_n C dL_act_924 10 rfl ?_
            refine ij_iconst C dL_act_925 ?_
            refine lc_count C ⟨Nat.le_of_ble_eq_true rfl, Nat.le_of_ble_eq_true rfl⟩ ⟨Nat.le_of_ble_eq_true rfl, Nat.le_of_ble_eq_true rfl⟩ hO1 ([] : List va_W) (jI 1) (Nat.le_of_ble_eq_true rfl) dL_act_926 (vc_1 hG1 z (hist2 y T (jI (lI T + lo)))) ?_
            refine zj_iload C dL_act_929 2 rfl ?_
            refine zj_iload C dL_act_931 3 rfl ?_
            refine ij_iadd C dL_act_933 ?_
            refine ij_icmp_ne C 957 dL_act_934 (by decide) ⟨by omega, by omega⟩ ⟨by omega, by omega⟩ (fun h => False.elim (by omega)) (fun _ => ?_)
            refine zj_aload_n C dL_act_937 10 rfl ?_
            refine ij_iconst C dL_act_938 ?_
            refine lc_count C ⟨Nat.le_of_ble_eq_true rfl, Nat.le_of_ble_eq_true rfl⟩ ⟨Nat.le_of_ble_eq_true rfl, Nat.le_of_ble_eq_true rfl⟩ hO1 ([] : List va_W) (jI 0) (Nat.le_of_ble_eq_true rfl) dL_act_939 (vc_0 hG1 z (hist2 y T (jI (lI T + lo)))) ?_
            refine ij_i2l C ⟨by omega, by omega⟩ dL_act_942 ?_
            refine zj_iload C dL_act_943 0 rfl ?_
            refine ij_i2l C ⟨by omega, by omega⟩ dL_act_945 ?_
            refine zj_lload C dL_act_946 1 rfl ?_
            refine ij_ladd C dL_act_948 ?_
            refine ij_lcmp_ne C 957 dL_act_949 dL_act_950 (by decide) ⟨by omega, by omega⟩ ⟨by omega, by omega⟩ (fun h => False.elim (by omega)) (fun _ => ?_)
            refine ij_iconst C dL_act_953 ?_
            refine zj_goto C 958 dL_act_954 (by decide) ?_
            exact hret _ _ _ _ _ _ _ _ _ _ (by decide) (by decide) (GI_wk (GI_D hG1 (by omega) (by omega)) (by omega) (by omega)) hO1 dL_act_958
          · skip
            have eX : f_X7_trade T y (jI lo) = (jI (-5), T, hist2 y T (jI (-5))) := by rw [X7_trade, eB1 (by omega) (by omega)]; rfl
            have hO1 := LO_op hG hO hG (jI (-5))
            refine zj_aload_n C dL_act_893 10 rfl ?_
            refine zj_iload C dL_act_894 3 rfl ?_
            refine lc_trade C ⟨Nat.le_of_ble_eq_true rfl, Nat.le_of_ble_eq_true rfl⟩ ⟨Nat.le_of_ble_eq_true rfl, Nat.le_of_ble_eq_true rfl⟩ hO ([] : List va_W) (jI lo) (Nat.le_of_ble_eq_true rfl) dL_act_896 (fun r_ T_ y_ e_ => ?_)
            cases (eX.symm.trans e_)
            refine ij_bipush C dL_act_899 (by decide) ?_
            refine ij_icmp_ne C 908 dL_act_901 (by decide) ⟨by decide, by decide⟩ ⟨by decide, by decide⟩ (fun h => False.elim (by omega)) (fun _ => ?_)
            refine ij_iconst C dL_act_904 ?_
            refine zj_goto C 909 dL_act_905 (by decide) ?_
            exact hret _ _ _ _ _ _ _ _ _ _ (by decide) (by decide) (GI_wk (GI_D hG (by omega) (by omega)) (by omega) (by omega)) hO1 dL_act_909
    · skip
      have eX : f_X7_trade T y (jI lo) = (jI (-4), T, hist2 y T (jI (-4))) := by rw [X7_trade, eB0 (by omega)]; rfl
      have hO1 := LO_op hG hO hG (jI (-4))
      refine zj_aload_n C dL_act_845 10 rfl ?_
      refine zj_iload C dL_act_846 3 rfl ?_
      refine lc_trade C ⟨Nat.le_of_ble_eq_true rfl, Nat.le_of_ble_eq_true rfl⟩ ⟨Nat.le_of_ble_eq_true rfl, Nat.le_of_ble_eq_true rfl⟩ hO ([] : List va_W) (jI lo) (Nat.le_of_ble_eq_true rfl) dL_act_848 (fun r_ T_ y_ e_ => ?_)
      cases (eX.symm.trans e_)
      refine ij_bipush C dL_act_851 (by decide) ?_
      refine ij_icmp_ne C 860 dL_act_853 (by decide) ⟨by decide, by decide⟩ ⟨by decide, by decide⟩ (fun h => False.elim (by omega)) (fun _ => ?_)
      refine ij_iconst C dL_act_856 ?_
      refine zj_goto C 861 dL_act_857 (by decide) ?_
      exact hret _ _ _ _ _ _ _ _ _ _ (by decide) (by decide) (GI_wk (GI_D hG (by omega) (by omega)) (by omega) (by omega)) hO1 dL_act_861
  refine ij_if_le C 809 dL_act_787 (by decide) ⟨by omega, by omega⟩ (fun hv => ?_) (fun hv => ?_)
  · skip
    refine zj_iload C dL_act_809 1 rfl ?_
    refine ij_ineg C dL_act_811 ?_
    refine ij_i2l C ⟨by omega, by omega⟩ dL_act_812 ?_
    refine zj_aload_n C dL_act_813 8 rfl ?_
    refine ij_iconst C dL_act_814 ?_
    refine lc_count C ⟨Nat.le_of_ble_eq_true rfl, Nat.le_of_ble_eq_true rfl⟩ ⟨Nat.le_of_ble_eq_true rfl, Nat.le_of_ble_eq_true rfl⟩ hO ([] : List va_W) (jI 2) (Nat.le_of_ble_eq_true rfl) dL_act_815 (vc_2 hG z y) ?_
    refine ij_i2l C ⟨by omega, by omega⟩ dL_act_818 ?_
    refine zj_aload_n C dL_act_819 8 rfl ?_
    refine ls_cost C ⟨Nat.le_of_ble_eq_true rfl, Nat.le_of_ble_eq_true rfl⟩ ⟨Nat.le_of_ble_eq_true rfl, Nat.le_of_ble_eq_true rfl⟩ hG hO ([] : List va_W) (Nat.le_of_ble_eq_true rfl) dL_act_820 ?_
    refine ij_lsub C dL_act_823 ?_
    refine ij_lmul C dL_act_824 ?_
    refine ij_el (-(coI T lo)) (by unfold coI feI; rw [if_neg (by omega), Int.neg_mul]) ?_
    exact J1
  · skip
    refine zj_iload C dL_act_790 1 rfl ?_
    refine ij_ineg C dL_act_792 ?_
    refine ij_i2l C ⟨by omega, by omega⟩ dL_act_793 ?_
    refine zj_aload_n C dL_act_794 8 rfl ?_
    refine ij_iconst C dL_act_795 ?_
    refine lc_count C ⟨Nat.le_of_ble_eq_true rfl, Nat.le_of_ble_eq_true rfl⟩ ⟨Nat.le_of_ble_eq_true rfl, Nat.le_of_ble_eq_true rfl⟩ hO ([] : List va_W) (jI 2) (Nat.le_of_ble_eq_true rfl) dL_act_796 (vc_2 hG z y) ?_
    refine ij_i2l C ⟨by omega, by omega⟩ dL_act_799 ?_
    refine zj_aload_n C dL_act_800 8 rfl ?_
    refine ls_cost C ⟨Nat.le_of_ble_eq_true rfl, Nat.le_of_ble_eq_true rfl⟩ ⟨Nat.le_of_ble_eq_true rfl, Nat.le_of_ble_eq_true rfl⟩ hG hO ([] : List va_W) (Nat.le_of_ble_eq_true rfl) dL_act_801 ?_
    refine ij_ladd C dL_act_804 ?_
    refine ij_lmul C dL_act_805 ?_
    refine ij_el (-(coI T lo)) (by unfold coI feI; rw [if_pos (by omega), Int.neg_mul]) ?_
    refine zj_goto C 825 dL_act_806 (by decide) ?_
    exact J1
set_option maxHeartbeats 4000000 in
set_option maxRecDepth 100000 in
theorem act_income (C : zO E cL_act 20 "SwingUnitsLaw" rm_act cy l D) (hG : GI Dd c T) (hO : LO T z y s) (hD : Dd + 1 ≤ 100000) (hcc : c + 6 ≤ 400) (hret : ∀ (k' n' pc : Nat) (L : List (Nat × Value)) (T' U' : zTr) (x' : zDd) (z' : zPd) (y' : zHs) (s' : zSl), k' ≤ 7 → n' ≤ 86 → GI (Dd + 1) (c + 6) T' → LO T' z' y' s' → decode cL_act pc = .ok (.ireturn, 1) → zJ E 20 k' n' (([] : List va_W) ++ LB cy x0 x1 x2 d0 d1 p0 p1 h0 h1 a b hs sl T' U' x' z' y' s').flatten pc L [.int (jI 1)]) {i : Nat} {hr wh : Int} {xv yv : Int32} (hi : i < 6) (hh : 0 ≤ hr ∧ hr ≤ 23) (hwh : (if hr < sI T 0 then dI T else dI T + 1) = wh) (hwr : 0 ≤ wh ∧ wh ≤ 100001) {am : Int} (ha : 1 ≤ am ∧ am ≤ 20000) : zJ E 20 0 0 (([] : List va_W) ++ LB cy x0 x1 x2 d0 d1 p0 p1 h0 h1 a b hs sl T U x z y s).flatten 975 [(8, .int (jI am)), (7, .int (jI wh)), (6, .int (jI (dI T))), (5, .int (jI hr)), (4, .int (jI (i : Int))), (3, .int yv), (2, .int xv), (0, .ref x0)] [] := by
  obtain ⟨⟨rc1, rc2⟩, ⟨rl1, rl2⟩, ⟨rq1, rq2⟩, ⟨rv1, rv2, rv3, rv4⟩, ⟨ru1, ru2⟩, ⟨rn1, rn2⟩, ⟨rp1, rp2⟩, ⟨re1, re2⟩, ⟨rd1, rd2⟩, ⟨rb1, rb2⟩, ⟨rs1, rs2⟩, ⟨rw1, rw2⟩⟩ := GI_r hG
  obtain ⟨eB0, eB1⟩ := income_sp hG (by omega) (v := am) ⟨by omega, by omega⟩
  refine zj_aload_n C dL_act_975 7 rfl ?_
  refine ij_bipush C dL_act_976 (by decide) ?_
  refine lc_count C ⟨Nat.le_of_ble_eq_true rfl, Nat.le_of_ble_eq_true rfl⟩ ⟨Nat.le_of_ble_eq_true rfl, Nat.le_of_ble_eq_true rfl⟩ hO ([] : List va_W) (jI 6) (Nat.le_of_ble_eq_true rfl) dL_act_978 (vc_6 hG z y) ?_
  refine zj_istore C (L' := [(9, .int (jI (poI T))), (8, .int (jI am)), (7, .int (jI wh)), (6, .int (jI (dI T))), (5, .int (jI hr)), (4, .int (jI (i : Int))), (3, .int yv), (2, .int xv), (0, .ref x0)]) dL_act_981 (by decide) rfl ?_
  refine zj_aload_n C dL_act_983 8 rfl ?_
  refine ij_iconst C dL_act_984 ?_
  refine lc_count C ⟨Nat.le_of_ble_eq_true rfl, Nat.le_of_ble_eq_true rfl⟩ ⟨Nat.le_of_ble_eq_true rfl, Nat.le_of_ble_eq_true rfl⟩ hO ([] : List va_W) (jI 0) (Nat.le_of_ble_eq_true rfl) dL_act_985 (vc_0 hG z y) ?_
  refine zj_istore C (L' := [(10, .int (jI (cI T))), (9, .int (jI (poI T))), (8, .int (jI am)), (7, .int (jI wh)), (6, .int (jI (dI T))), (5, .int (jI hr)), (4, .int (jI (i : Int))), (3, .int yv), (2, .int xv), (0, .ref x0)]) dL_act_988 (by decide) rfl ?_
  refine zj_aload_n C dL_act_990 9 rfl ?_
  refine ij_iconst C dL_act_991 ?_
  refine lc_count C ⟨Nat.le_of_ble_eq_true rfl, Nat.le_of_ble_eq_true rfl⟩ ⟨Nat.le_of_ble_eq_true rfl, Nat.le_of_ble_eq_true rfl⟩ hO ([] : List va_W) (jI 4) (Nat.le_of_ble_eq_true rfl) dL_act_992 (vc_4 hG z y) ?_
  refine ij_if_ne C 1015 dL_act_995 (by decide) ⟨by omega, by omega⟩ (fun hz => ?_) (fun hz => ?_)
  · skip
    obtain ⟨T1, eB, hG1, k1, k2, k3⟩ := eB1 (by omega)
    obtain ⟨⟨tc1, tc2⟩, -, -, -, -, -, ⟨tp1, tp2⟩, -⟩ := GI_r hG1
    have eX : f_X7_income T y (jI am) = (jI (poI T + am), T1, hist2 y T (jI (poI T + am))) := by rw [X7_income, eB]
    have hO1 := LO_op hG hO hG1 (jI (poI T + am))
    refine zj_aload_n C dL_act_1015 9 rfl ?_
    refine zj_iload C dL_act_1016 2 rfl ?_
    refine lc_income C ⟨Nat.le_of_ble_eq_true rfl, Nat.le_of_ble_eq_true rfl⟩ ⟨Nat.le_of_ble_eq_true rfl, Nat.le_of_ble_eq_true rfl⟩ hO ([] : List va_W) (jI am) (Nat.le_of_ble_eq_true rfl) dL_act_1018 (fun r_ T_ y_ e_ => ?_)
    cases (eX.symm.trans e_)
    refine zj_iload C dL_act_1021 1 rfl ?_
    refine zj_iload C dL_act_1023 2 rfl ?_
    refine ij_iadd C dL_act_1025 ?_
    refine ij_icmp_ne C 1060 dL_act_1026 (by decide) ⟨by omega, by omega⟩ ⟨by omega, by omega⟩ (fun h => False.elim (by omega)) (fun _ => ?_)
    refine zj_aload_n C dL_act_1029 9 rfl ?_
    refine ij_bipush C dL_act_1030 (by decide) ?_
    refine lc_count C ⟨Nat.le_of_ble_eq_true rfl, Nat.le_of_ble_eq_true rfl⟩ ⟨Nat.le_of_ble_eq_true rfl, Nat.le_of_ble_eq_true rfl⟩ hO1 ([] : List va_W) (jI 6) (Nat.le_of_ble_eq_true rfl) dL_act_1032 (vc_6 hG1 z (hist2 y T (jI (poI T + am)))) ?_
    refine zj_iload C dL_act_1035 1 rfl ?_
    refine zj_iload C dL_act_1037 2 rfl ?_
    refine ij_iadd C dL_act_1039 ?_
    refine ij_icmp_ne C 1060 dL_act_1040 (by decide) ⟨by omega, by omega⟩ ⟨by omega, by omega⟩ (fun h => False.elim (by omega)) (fun _ => ?_)
    refine zj_aload_n C dL_act_1043 9 rfl ?_
    refine ij_iconst C dL_act_1044 ?_
    refine lc_count C ⟨Nat.le_of_ble_eq_true rfl, Nat.le_of_ble_eq_true rfl⟩ ⟨Nat.le_of_ble_eq_true rfl, Nat.le_of_ble_eq_true rfl⟩ hO1 ([] : List va_W) (jI 0) (Nat.le_of_ble_eq_true rfl) dL_act_1045 (vc_0 hG1 z (hist2 y T (jI (poI T + am)))) ?_
    refine zj_iload C dL_act_1048 0 rfl ?_
    refine zj_iload C dL_act_1050 2 rfl ?_
    refine ij_iadd C dL_act_1052 ?_
    refine ij_icmp_ne C 1060 dL_act_1053 (by decide) ⟨by omega, by omega⟩ ⟨by omega, by omega⟩ (fun h => False.elim (by omega)) (fun _ => ?_)
    refine ij_iconst C dL_act_1056 ?_
    refine zj_goto C 1061 dL_act_1057 (by decide) ?_
    exact hret _ _ _ _ _ _ _ _ _ _ (by decide) (by decide) (GI_wk (GI_D hG1 (by omega) (by omega)) (by omega) (by omega)) hO1 dL_act_1061
  · skip
    have eX : f_X7_income T y (jI am) = (jI (-5), T, hist2 y T (jI (-5))) := by rw [X7_income, eB0 (by omega)]; rfl
    have hO1 := LO_op hG hO hG (jI (-5))
    refine zj_aload_n C dL_act_998 9 rfl ?_
    refine zj_iload C dL_act_999 2 rfl ?_
    refine lc_income C ⟨Nat.le_of_ble_eq_true rfl, Nat.le_of_ble_eq_true rfl⟩ ⟨Nat.le_of_ble_eq_true rfl, Nat.le_of_ble_eq_true rfl⟩ hO ([] : List va_W) (jI am) (Nat.le_of_ble_eq_true rfl) dL_act_1001 (fun r_ T_ y_ e_ => ?_)
    cases (eX.symm.trans e_)
    refine ij_bipush C dL_act_1004 (by decide) ?_
    refine ij_icmp_ne C 1013 dL_act_1006 (by decide) ⟨by decide, by decide⟩ ⟨by decide, by decide⟩ (fun h => False.elim (by omega)) (fun _ => ?_)
    refine ij_iconst C dL_act_1009 ?_
    refine zj_goto C 1014 dL_act_1010 (by decide) ?_
    exact hret _ _ _ _ _ _ _ _ _ _ (by decide) (by decide) (GI_wk (GI_D hG (by omega) (by omega)) (by omega) (by omega)) hO1 dL_act_1014
set_option maxHeartbeats 4000000 in
set_option maxRecDepth 100000 in
theorem act_set (C : zO E cL_act 20 "SwingUnitsLaw" rm_act cy l D) (hG : GI Dd c T) (hO : LO T z y s) (hD : Dd + 1 ≤ 100000) (hcc : c + 6 ≤ 400) (hret : ∀ (k' n' pc : Nat) (L : List (Nat × Value)) (T' U' : zTr) (x' : zDd) (z' : zPd) (y' : zHs) (s' : zSl), k' ≤ 7 → n' ≤ 86 → GI (Dd + 1) (c + 6) T' → LO T' z' y' s' → decode cL_act pc = .ok (.ireturn, 1) → zJ E 20 k' n' (([] : List va_W) ++ LB cy x0 x1 x2 d0 d1 p0 p1 h0 h1 a b hs sl T' U' x' z' y' s').flatten pc L [.int (jI 1)]) {i : Nat} {hr wh : Int} {xv yv : Int32} (hi : i < 6) (hh : 0 ≤ hr ∧ hr ≤ 23) (hwh : (if hr < sI T 0 then dI T else dI T + 1) = wh) (hwr : 0 ≤ wh ∧ wh ≤ 100001) {k : Nat} {is : Int} (hk : k < 5) (ha : 0 ≤ is ∧ is ≤ (zGi k).toInt) (hz1 : (zGi k).toInt ≤ 1000) : zJ E 20 0 0 (([] : List va_W) ++ LB cy x0 x1 x2 d0 d1 p0 p1 h0 h1 a b hs sl T U x z y s).flatten 1125 [(8, .int (jI (k : Int))), (7, .int (jI wh)), (6, .int (jI (dI T))), (5, .int (jI hr)), (4, .int (jI (i : Int))), (3, .int yv), (2, .int xv), (0, .ref x0)] [.int (jI is)] := by
  obtain ⟨⟨rc1, rc2⟩, ⟨rl1, rl2⟩, ⟨rq1, rq2⟩, ⟨rv1, rv2, rv3, rv4⟩, ⟨ru1, ru2⟩, ⟨rn1, rn2⟩, ⟨rp1, rp2⟩, ⟨re1, re2⟩, ⟨rd1, rd2⟩, ⟨rb1, rb2⟩, ⟨rs1, rs2⟩, ⟨rw1, rw2⟩⟩ := GI_r hG
  obtain ⟨eB, hG1, hs1_⟩ := set_sp hG hk ha
  have hsk : 0 ≤ sI T k ∧ sI T k ≤ (zGi k).toInt := hG.1.1.1 k hk
  have hs2_ := hs1_ k
  rw [if_pos rfl] at hs2_
  have eX : f_X7_set T y (jI (k : Int)) (jI is) = (jI (sI T k), (sTr_st T (upd (gTr_st T) k (jI is))), hist2 y T (jI (sI T k))) := by rw [X7_set, eB]
  have hO1 := LO_op hG hO hG1 (jI (sI T k))
  refine zj_istore C (L' := [(9, .int (jI is)), (8, .int (jI (k : Int))), (7, .int (jI wh)), (6, .int (jI (dI T))), (5, .int (jI hr)), (4, .int (jI (i : Int))), (3, .int yv), (2, .int xv), (0, .ref x0)]) dL_act_1125 (by decide) rfl ?_
  refine zj_aload_n C dL_act_1127 8 rfl ?_
  refine ij_bipush C dL_act_1128 (by decide) ?_
  refine zj_iload C dL_act_1130 1 rfl ?_
  refine ij_iadd C dL_act_1132 ?_
  refine lc_count C ⟨Nat.le_of_ble_eq_true rfl, Nat.le_of_ble_eq_true rfl⟩ ⟨Nat.le_of_ble_eq_true rfl, Nat.le_of_ble_eq_true rfl⟩ hO ([] : List va_W) (jI (12 + (k : Int))) (Nat.le_of_ble_eq_true rfl) dL_act_1133 (vc_set hG z y hk) ?_
  refine zj_istore C (L' := [(10, .int (jI (sI T k))), (9, .int (jI is)), (8, .int (jI (k : Int))), (7, .int (jI wh)), (6, .int (jI (dI T))), (5, .int (jI hr)), (4, .int (jI (i : Int))), (3, .int yv), (2, .int xv), (0, .ref x0)]) dL_act_1136 (by decide) rfl ?_
  refine zj_aload_n C dL_act_1138 9 rfl ?_
  refine zj_iload C dL_act_1139 2 rfl ?_
  refine zj_iload C dL_act_1141 1 rfl ?_
  refine lc_set C ⟨Nat.le_of_ble_eq_true rfl, Nat.le_of_ble_eq_true rfl⟩ ⟨Nat.le_of_ble_eq_true rfl, Nat.le_of_ble_eq_true rfl⟩ hO ([] : List va_W) (jI (k : Int)) (jI is) (Nat.le_of_ble_eq_true rfl) dL_act_1143 (fun r_ T_ y_ e_ => ?_)
  cases (eX.symm.trans e_)
  refine zj_iload C dL_act_1146 0 rfl ?_
  refine ij_icmp_ne C 1169 dL_act_1148 (by decide) ⟨by omega, by omega⟩ ⟨by omega, by omega⟩ (fun h => False.elim (by omega)) (fun _ => ?_)
  refine zj_aload_n C dL_act_1151 9 rfl ?_
  refine ij_bipush C dL_act_1152 (by decide) ?_
  refine zj_iload C dL_act_1154 2 rfl ?_
  refine ij_iadd C dL_act_1156 ?_
  refine lc_count C ⟨Nat.le_of_ble_eq_true rfl, Nat.le_of_ble_eq_true rfl⟩ ⟨Nat.le_of_ble_eq_true rfl, Nat.le_of_ble_eq_true rfl⟩ hO1 ([] : List va_W) (jI (12 + (k : Int))) (Nat.le_of_ble_eq_true rfl) dL_act_1157 (vc_set hG1 z (hist2 y T (jI (sI T k))) hk) ?_
  refine zj_iload C dL_act_1160 1 rfl ?_
  refine ij_icmp_ne C 1169 dL_act_1162 (by decide) ⟨by omega, by omega⟩ ⟨by omega, by omega⟩ (fun h => False.elim (by omega)) (fun _ => ?_)
  refine ij_iconst C dL_act_1165 ?_
  refine zj_goto C 1170 dL_act_1166 (by decide) ?_
  exact hret _ _ _ _ _ _ _ _ _ _ (by decide) (by decide) (GI_wk (GI_D hG1 (by omega) (by omega)) (by omega) (by omega)) hO1 dL_act_1170
end ACT
