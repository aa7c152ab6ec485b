/-! comes. Written by wip/p26/law18.py -/
section COMES
variable {E : zE} {cy : Nat → ClassId} {l : Launch} {D : va_G} {x0 x1 x2 d0 d1 p0 p1 h0 h1 : Nat} {a b : Nat → Nat} {hs sl : Nat → Nat → Nat} {T U : zTr} {x : zDd} {z : zPd} {y : zHs} {s : zSl} {Dd c : Int}
set_option maxHeartbeats 4000000 in
set_option maxRecDepth 100000 in
theorem come_e (C : zO E cL_comes 14 "SwingUnitsLaw" rm_2 cy l D) (hG : GI Dd c T) (hD : Dd + 61 ≤ 100000) {i : Nat} {r : Int} (hi : i < 6) {V : zTr} (hV : GI Dd c V) {xv : zDd} (hE : ES xv V i r) (kk : ∀ (n : Nat) (T2 : zTr) (x2_ : zDd) (y2 : zHs), n ≤ 60 → GI (Dd + n) c T2 → LO T2 z y2 s → (hS (gTr_le T2) i = 0 → r = n) → (hS (gTr_le T2) i ≠ 0 → r = -6) → zJ E 14 0 0 (([] : List va_W) ++ LB cy x0 x1 x2 d0 d1 p0 p1 h0 h1 a b hs sl T2 U x2_ z y2 s).flatten 77 [(7, .int (jI (n : Int))), (6, .int (jI r)), (5, .int (jI (i : Int))), (4, .int (jI (dI T))), (2, .long (jL (prI T))), (0, .ref x0)] []) : ∀ (m n : Nat) (T2 : zTr) (x2_ : zDd) (y2 : zHs), n + m = 60 → TE T2 (trV xv V n).2 → GI (Dd + n) c T2 → LO T2 z y2 s → (∀ j, j < n → hS (gTr_le (trV xv V j).2) i ≠ 0) → zJ E 14 0 0 (([] : List va_W) ++ LB cy x0 x1 x2 d0 d1 p0 p1 h0 h1 a b hs sl T2 U x2_ z y2 s).flatten 44 [(7, .int (jI (n : Int))), (6, .int (jI r)), (5, .int (jI (i : Int))), (4, .int (jI (dI T))), (2, .long (jL (prI T))), (0, .ref x0)] [] := by
  intro m
  induction m with
  | zero =>
    intro n T2 x2_ y2 hn hT hG2 hO2 hj
    have hVn := trV_GI hV xv n (by omega)
    obtain ⟨-, ⟨h6_, h7_⟩, -⟩ := GI_h hG2 hi
    have hu2 := (GI_r hG2).2.2.2.2.1
    obtain ⟨⟨h1_, h2_, h3_, h4_, h5_⟩, -⟩ := GI_h hG2 hi
    have rd2 := (GI_r hG2).2.2.2.2.2.2.2.2.1
    have ehs : hS (gTr_le T2) i = hS (gTr_le (trV xv V n).2) i := ((TE_v hT).2.2.2.2.2.2.2.2.2.2.2.2.2.2.2.2 i hi).2.2.2.1
    refine zj_aload_n C dL_comes_44 5 rfl ?_
    refine zj_iload C dL_comes_45 2 rfl ?_
    refine ij_iconst C dL_comes_47 ?_
    refine lc_ofHolder C ⟨Nat.le_of_ble_eq_true rfl, Nat.le_of_ble_eq_true rfl⟩ ⟨Nat.le_of_ble_eq_true rfl, Nat.le_of_ble_eq_true rfl⟩ hO2 ([] : List va_W) (jI (i : Int)) (jI 3) (Nat.le_of_ble_eq_true rfl) dL_comes_48 (vh_3 hG2 hi) ?_
    refine ij_if_le C 77 dL_comes_51 (by decide) ⟨by omega, by omega⟩ (fun hz => ?_) (fun hz => ?_)
    · skip
      have hz0 : hS (gTr_le T2) i = 0 := by omega
      exact kk n T2 x2_ y2 (by omega) hG2 hO2 (fun _ => ES_0 hE (by omega) hj (by omega)) (fun q => absurd hz0 q)
    · skip
      refine zj_iload C dL_comes_54 0 rfl ?_
      refine ij_bipush C dL_comes_56 (by decide) ?_
      refine ij_icmp_ge C 77 dL_comes_58 (by decide) ⟨by omega, by omega⟩ ⟨by decide, by decide⟩ (fun _ => ?_) (fun h => False.elim (by omega))
      refine kk n T2 x2_ y2 (by omega) hG2 hO2 (fun q => by omega) (fun q => ES_6 hE (fun j hj2 => ?_))
      by_cases e : j < n
      · exact hj j e
      · have e2 : j = n := by omega
        rw [e2, ← ehs]; exact q
  | succ m ih =>
    intro n T2 x2_ y2 hn hT hG2 hO2 hj
    have hVn := trV_GI hV xv n (by omega)
    obtain ⟨-, ⟨h6_, h7_⟩, -⟩ := GI_h hG2 hi
    have hu2 := (GI_r hG2).2.2.2.2.1
    obtain ⟨⟨h1_, h2_, h3_, h4_, h5_⟩, -⟩ := GI_h hG2 hi
    have rd2 := (GI_r hG2).2.2.2.2.2.2.2.2.1
    have ehs : hS (gTr_le T2) i = hS (gTr_le (trV xv V n).2) i := ((TE_v hT).2.2.2.2.2.2.2.2.2.2.2.2.2.2.2.2 i hi).2.2.2.1
    refine zj_aload_n C dL_comes_44 5 rfl ?_
    refine zj_iload C dL_comes_45 2 rfl ?_
    refine ij_iconst C dL_comes_47 ?_
    refine lc_ofHolder C ⟨Nat.le_of_ble_eq_true rfl, Nat.le_of_ble_eq_true rfl⟩ ⟨Nat.le_of_ble_eq_true rfl, Nat.le_of_ble_eq_true rfl⟩ hO2 ([] : List va_W) (jI (i : Int)) (jI 3) (Nat.le_of_ble_eq_true rfl) dL_comes_48 (vh_3 hG2 hi) ?_
    refine ij_if_le C 77 dL_comes_51 (by decide) ⟨by omega, by omega⟩ (fun hz => ?_) (fun hz => ?_)
    · skip
      have hz0 : hS (gTr_le T2) i = 0 := by omega
      exact kk n T2 x2_ y2 (by omega) hG2 hO2 (fun _ => ES_0 hE (by omega) hj (by omega)) (fun q => absurd hz0 q)
    · skip
      obtain ⟨rform, rd4, hG3, -⟩ := run_parts hG2 x2_ (by omega)
      have eX : f_X7_endDay T2 x2_ y2 = (jI (dI T2 + 1), runR x2_ T2, runX x2_ T2, hist2 y2 T2 (jI (dI T2 + 1))) := by
        rw [X7_endDay, rform]
        have e := jI_is (v := gTr_day (runR x2_ T2)) rd4
        dsimp only
        rw [e]
      have hO3 := LO_op hG2 hO2 hG3 (jI (dI T2 + 1))
      have hT3 : TE (runR x2_ T2) (trV xv V (n + 1)).2 := by
        have q := end_TE hT hG2 hVn (by omega) (by omega) x2_ (trV xv V n).1
        have f := (run_parts hVn (trV xv V n).1 (by omega)).1
        rw [trV_s, f]
        exact q
      refine zj_iload C dL_comes_54 0 rfl ?_
      refine ij_bipush C dL_comes_56 (by decide) ?_
      refine ij_icmp_ge C 77 dL_comes_58 (by decide) ⟨by omega, by omega⟩ ⟨by decide, by decide⟩ (fun h => False.elim (by omega)) (fun _ => ?_)
      refine zj_aload_n C dL_comes_61 5 rfl ?_
      refine lc_endDay C ⟨Nat.le_of_ble_eq_true rfl, Nat.le_of_ble_eq_true rfl⟩ ⟨Nat.le_of_ble_eq_true rfl, Nat.le_of_ble_eq_true rfl⟩ hO2 ([] : List va_W)  (Nat.le_of_ble_eq_true rfl) dL_comes_62 (fun r_ T_ x_ y_ e_ => ?_)
      cases (eX.symm.trans e_)
      refine ij_iconst C dL_comes_65 ?_
      refine ij_icmp_ge C 71 dL_comes_66 (by decide) ⟨by omega, by omega⟩ ⟨by decide, by decide⟩ (fun _ => ?_) (fun h => False.elim (by omega))
      refine ij_iinc C (j := 0) (L2 := [(7, .int (jI ((n + 1 : Nat) : Int))), (6, .int (jI r)), (5, .int (jI (i : Int))), (4, .int (jI (dI T))), (2, .long (jL (prI T))), (0, .ref x0)]) ((n + 1 : Nat) : Int) (by omega) dL_comes_71 rfl (by decide) rfl ?_
      refine zj_goto C 44 dL_comes_74 (by decide) ?_
      refine zj_sub (L' := [(7, .int (jI ((n + 1 : Nat) : Int))), (6, .int (jI r)), (5, .int (jI (i : Int))), (4, .int (jI (dI T))), (2, .long (jL (prI T))), (0, .ref x0)]) [0, 1, 2, 3, 4, 5] rfl ?_
      have eD : Dd + ((n + 1 : Nat) : Int) = Dd + n + 1 := by omega
      refine ih (n + 1) _ _ _ (by omega) hT3 (by rw [eD]; exact hG3) hO3 (fun j hj2 => ?_)
      by_cases e : j < n
      · exact hj j e
      · have e2 : j = n := by omega
        rw [e2, ← ehs]; omega
set_option maxHeartbeats 4000000 in
set_option maxRecDepth 100000 in
theorem come_f (C : zO E cL_comes 14 "SwingUnitsLaw" rm_2 cy l D) (hG : GI Dd c T) (hD : Dd + 61 ≤ 100000) {r dv pv : Int} (hdv : dv = dI T) (hF : FS T r) (kk : ∀ (T2 : zTr) (x2_ : zDd) (y2 : zHs), GI Dd c T2 → LO T2 z y2 s → TE T2 T → zJ E 14 0 0 (([] : List va_W) ++ LB cy x0 x1 x2 d0 d1 p0 p1 h0 h1 a b hs sl T2 U x2_ z y2 s).flatten 222 [(12, .int (jI r)), (11, .int (jI (sI T 2))), (9, .long (jL (mI T))), (8, .int (jI r)), (4, .int (jI dv)), (2, .long (jL pv)), (0, .ref x0)] []) : ∀ (m k : Nat) (T2 : zTr) (x2_ : zDd) (y2 : zHs), k + m = 101 → GI Dd c T2 → LO T2 z y2 s → TE T2 T → (∀ j, j < k → fM T j < mI T) → zJ E 14 0 0 (([] : List va_W) ++ LB cy x0 x1 x2 d0 d1 p0 p1 h0 h1 a b hs sl T2 U x2_ z y2 s).flatten 148 [(13, .int (jI (k : Int))), (12, .int (jI (-6))), (11, .int (jI (sI T 2))), (9, .long (jL (mI T))), (8, .int (jI r)), (4, .int (jI dv)), (2, .long (jL pv)), (0, .ref x0)] [] := by
  intro m
  induction m with
  | zero =>
    intro k T2 x2_ y2 hk hG2 hO2 hT hj
    have er : r = -6 := FS_6 hF (fun j hj2 => hj j (by omega))
    refine zj_iload C dL_comes_148 0 rfl ?_
    refine ij_bipush C dL_comes_150 (by decide) ?_
    refine ij_icmp_gt C 222 dL_comes_152 (by decide) ⟨by omega, by omega⟩ ⟨by decide, by decide⟩ (fun _ => ?_) (fun h => False.elim (by omega))
    refine zj_sub (L' := [(12, .int (jI (-6))), (11, .int (jI (sI T 2))), (9, .long (jL (mI T))), (8, .int (jI r)), (4, .int (jI dv)), (2, .long (jL pv)), (0, .ref x0)]) [1, 2, 3, 4, 5, 6, 7] rfl ?_
    rw [er] at kk
    rw [er]
    exact kk T2 x2_ y2 hG2 hO2 hT
  | succ m ih =>
    intro k T2 x2_ y2 hk hG2 hO2 hT hj
    have hk1 : k ≤ 100 := by omega
    have ev := TE_v hT
    have es2 : sI T2 2 = sI T 2 := ev.2.2.2.2.2.2.2.2.2.2.2.2.1 2 (by decide)
    have ed2 : dI T2 = dI T := ev.2.2.2.2.2.2.2.2.1
    have rd2 := (GI_r hG2).2.2.2.2.2.2.2.2.1
    have rs2 := (GI_s hG2).2.2.1
    obtain ⟨eS, hG3⟩ := setT_GI hG2 hk1
    obtain ⟨T3, eT3⟩ : ∃ q, q = setT T2 k := ⟨_, rfl⟩
    obtain ⟨y3, ey3⟩ : ∃ q, q = hist2 y2 T2 (jI (sI T 2)) := ⟨_, rfl⟩
    have eX : f_X7_set T2 y2 (jI 2) (jI (k : Int)) = (jI (sI T 2), T3, y3) := by rw [X7_set, eS, eT3, ey3, ← es2]
    have hO3 : LO T3 z y3 s := by rw [eT3, ey3]; exact LO_op hG2 hO2 hG3 (jI (sI T 2))
    have hH3 : HL y3 [T2] := by rw [ey3]; exact op_HL (LO_HO hO2) (HL_nil y2) (by decide) ⟨by omega, by omega⟩
    have hd3 : dI T3 = dI T2 := by rw [eT3]; rfl
    have hm4 : ∀ xx : zDd, mI (runR xx T3) = fM T k := fun xx => by rw [eT3]; exact fM_e hT hG2 hG (by omega) (by omega) hk1 xx
    rw [← eT3] at hG3
    obtain ⟨rform, rd4, hG4, -⟩ := run_parts hG3 x2_ (by omega)
    obtain ⟨T4, eT4⟩ : ∃ q, q = runR x2_ T3 := ⟨_, rfl⟩
    obtain ⟨y4, ey4⟩ : ∃ q, q = hist2 y3 T3 (jI (dI T + 1)) := ⟨_, rfl⟩
    have eX4 : f_X7_endDay T3 x2_ y3 = (jI (dI T + 1), T4, runX x2_ T3, y4) := by
      rw [X7_endDay, rform, eT4, ey4]
      have e := jI_is (v := gTr_day (runR x2_ T3)) (rd4.trans (by rw [hd3, ed2]))
      dsimp only
      rw [e]
    have hm := hm4 x2_
    rw [← eT4] at hG4 hm
    have hO4 : LO T4 z y4 s := by rw [ey4]; exact LO_op hG3 hO3 hG4 (jI (dI T + 1))
    have hH4 : HL y4 [T3, T2] := by rw [ey4]; exact op_HL (LO_HO hO3) hH3 (by simp) ⟨by omega, by omega⟩
    obtain ⟨T5, y5, r5, eX5, hr5, hT5, hG5, hO5, hH5⟩ := undo_sp hO4 hH4 hG3
    obtain ⟨T6, y6, r6, eX6, hr6, hT6, hG6, hO6, -⟩ := undo_sp hO5 hH5 hG2
    have hT7 := TE_trans hT6 hT
    have mb4 := (day_nums hG4).2.2.2.2.1
    have mb := (day_nums hG).2.2.2.2.1
    refine zj_iload C dL_comes_148 0 rfl ?_
    refine ij_bipush C dL_comes_150 (by decide) ?_
    refine ij_icmp_gt C 222 dL_comes_152 (by decide) ⟨by omega, by omega⟩ ⟨by decide, by decide⟩ (fun h => False.elim (by omega)) (fun _ => ?_)
    refine zj_iload C dL_comes_155 1 rfl ?_
    refine ij_if_ge C 222 dL_comes_157 (by decide) ⟨by decide, by decide⟩ (fun h => False.elim (by omega)) (fun _ => ?_)
    refine zj_aload_n C dL_comes_160 7 rfl ?_
    refine ij_iconst C dL_comes_161 ?_
    refine zj_iload C dL_comes_162 0 rfl ?_
    refine lc_set C ⟨Nat.le_of_ble_eq_true rfl, Nat.le_of_ble_eq_true rfl⟩ ⟨Nat.le_of_ble_eq_true rfl, Nat.le_of_ble_eq_true rfl⟩ hO2 ([] : List va_W) (jI 2) (jI (k : Int)) (Nat.le_of_ble_eq_true rfl) dL_comes_164 (fun r_ T_ y_ e_ => ?_)
    cases (eX.symm.trans e_)
    refine zj_iload C dL_comes_167 2 rfl ?_
    refine ij_icmp_ne C 183 dL_comes_169 (by decide) ⟨by omega, by omega⟩ ⟨by omega, by omega⟩ (fun h => False.elim (by omega)) (fun _ => ?_)
    refine zj_aload_n C dL_comes_172 7 rfl ?_
    refine lc_endDay C ⟨Nat.le_of_ble_eq_true rfl, Nat.le_of_ble_eq_true rfl⟩ ⟨Nat.le_of_ble_eq_true rfl, Nat.le_of_ble_eq_true rfl⟩ hO3 ([] : List va_W)  (Nat.le_of_ble_eq_true rfl) dL_comes_173 (fun r_ T_ x_ y_ e_ => ?_)
    cases (eX4.symm.trans e_)
    refine zj_iload C dL_comes_176 5 rfl ?_
    refine ij_iconst C dL_comes_178 ?_
    refine ij_iadd C dL_comes_179 ?_
    refine ij_icmp_eq C 185 dL_comes_180 (by decide) ⟨by omega, by omega⟩ ⟨by omega, by omega⟩ (fun _ => ?_) (fun h => False.elim (by omega))
    refine zj_aload_n C dL_comes_185 7 rfl ?_
    refine ij_iconst C dL_comes_186 ?_
    refine lc_price C ⟨Nat.le_of_ble_eq_true rfl, Nat.le_of_ble_eq_true rfl⟩ ⟨Nat.le_of_ble_eq_true rfl, Nat.le_of_ble_eq_true rfl⟩ hO4 ([] : List va_W) (jI 0) (Nat.le_of_ble_eq_true rfl) dL_comes_187 (fun r1_ x1_ e1_ => ?_)
    refine ij_l (mI T4) (vp_0 hG4 e1_) ?_
    refine zj_lload C dL_comes_190 3 rfl ?_
    refine ij_lcmp_lt C 200 dL_comes_192 dL_comes_193 (by decide) ⟨by omega, by omega⟩ ⟨by omega, by omega⟩ (fun hb => ?_) (fun hb => ?_)
    · skip
      refine zj_aload_n C dL_comes_200 7 rfl ?_
      refine lc_undo C ⟨Nat.le_of_ble_eq_true rfl, Nat.le_of_ble_eq_true rfl⟩ ⟨Nat.le_of_ble_eq_true rfl, Nat.le_of_ble_eq_true rfl⟩ hO4 ([] : List va_W)  (Nat.le_of_ble_eq_true rfl) dL_comes_201 (fun r_ T_ y_ e_ => ?_)
      cases (eX5.symm.trans e_)
      refine ij_if_lt C 214 dL_comes_204 (by decide) ⟨by omega, by omega⟩ (fun h => False.elim (by omega)) (fun _ => ?_)
      refine zj_aload_n C dL_comes_207 7 rfl ?_
      refine lc_undo C ⟨Nat.le_of_ble_eq_true rfl, Nat.le_of_ble_eq_true rfl⟩ ⟨Nat.le_of_ble_eq_true rfl, Nat.le_of_ble_eq_true rfl⟩ hO5 ([] : List va_W)  (Nat.le_of_ble_eq_true rfl) dL_comes_208 (fun r_ T_ y_ e_ => ?_)
      cases (eX6.symm.trans e_)
      refine ij_if_ge C 216 dL_comes_211 (by decide) ⟨by omega, by omega⟩ (fun _ => ?_) (fun h => False.elim (by omega))
      refine ij_iinc C (j := 0) (L2 := [(13, .int (jI ((k + 1 : Nat) : Int))), (12, .int (jI (-6))), (11, .int (jI (sI T 2))), (9, .long (jL (mI T))), (8, .int (jI r)), (4, .int (jI dv)), (2, .long (jL pv)), (0, .ref x0)]) ((k + 1 : Nat) : Int) (by omega) dL_comes_216 rfl (by decide) rfl ?_
      refine zj_goto C 148 dL_comes_219 (by decide) ?_
      refine zj_sub (L' := [(13, .int (jI ((k + 1 : Nat) : Int))), (12, .int (jI (-6))), (11, .int (jI (sI T 2))), (9, .long (jL (mI T))), (8, .int (jI r)), (4, .int (jI dv)), (2, .long (jL pv)), (0, .ref x0)]) [0, 1, 2, 3, 4, 5, 6, 7] rfl ?_
      refine ih (k + 1) _ _ _ (by omega) hG6 hO6 hT7 (fun j hj2 => ?_)
      by_cases e : j < k
      · exact hj j e
      · have e2 : j = k := by omega
        rw [e2]; omega
    · skip
      have er : r = (k : Int) := FS_0 hF hk1 hj (by omega)
      refine zj_iload C dL_comes_196 0 rfl ?_
      refine zj_istore C (L' := [(12, .int (jI (k : Int))), (13, .int (jI (k : Int))), (11, .int (jI (sI T 2))), (9, .long (jL (mI T))), (8, .int (jI r)), (4, .int (jI dv)), (2, .long (jL pv)), (0, .ref x0)]) dL_comes_198 (by decide) rfl ?_
      refine zj_aload_n C dL_comes_200 7 rfl ?_
      refine lc_undo C ⟨Nat.le_of_ble_eq_true rfl, Nat.le_of_ble_eq_true rfl⟩ ⟨Nat.le_of_ble_eq_true rfl, Nat.le_of_ble_eq_true rfl⟩ hO4 ([] : List va_W)  (Nat.le_of_ble_eq_true rfl) dL_comes_201 (fun r_ T_ y_ e_ => ?_)
      cases (eX5.symm.trans e_)
      refine ij_if_lt C 214 dL_comes_204 (by decide) ⟨by omega, by omega⟩ (fun h => False.elim (by omega)) (fun _ => ?_)
      refine zj_aload_n C dL_comes_207 7 rfl ?_
      refine lc_undo C ⟨Nat.le_of_ble_eq_true rfl, Nat.le_of_ble_eq_true rfl⟩ ⟨Nat.le_of_ble_eq_true rfl, Nat.le_of_ble_eq_true rfl⟩ hO5 ([] : List va_W)  (Nat.le_of_ble_eq_true rfl) dL_comes_208 (fun r_ T_ y_ e_ => ?_)
      cases (eX6.symm.trans e_)
      refine ij_if_ge C 216 dL_comes_211 (by decide) ⟨by omega, by omega⟩ (fun _ => ?_) (fun h => False.elim (by omega))
      refine ij_iinc C (j := 1) (L2 := [(13, .int (jI ((k + 1 : Nat) : Int))), (12, .int (jI (k : Int))), (11, .int (jI (sI T 2))), (9, .long (jL (mI T))), (8, .int (jI r)), (4, .int (jI dv)), (2, .long (jL pv)), (0, .ref x0)]) ((k + 1 : Nat) : Int) (by omega) dL_comes_216 rfl (by decide) rfl ?_
      refine zj_goto C 148 dL_comes_219 (by decide) ?_
      refine zj_sub (L' := [(13, .int (jI ((k + 1 : Nat) : Int))), (12, .int (jI (k : Int))), (11, .int (jI (sI T 2))), (9, .long (jL (mI T))), (8, .int (jI r)), (4, .int (jI dv)), (2, .long (jL pv)), (0, .ref x0)]) [0, 1, 2, 3, 4, 5, 6, 7] rfl ?_
      refine zj_iload C dL_comes_148 0 rfl ?_
      refine ij_bipush C dL_comes_150 (by decide) ?_
      refine ij_icmp_gt C 222 dL_comes_152 (by decide) ⟨by omega, by omega⟩ ⟨by decide, by decide⟩ (fun hw => ?_) (fun hw => ?_)
      · skip
        refine zj_sub (L' := [(12, .int (jI (k : Int))), (11, .int (jI (sI T 2))), (9, .long (jL (mI T))), (8, .int (jI r)), (4, .int (jI dv)), (2, .long (jL pv)), (0, .ref x0)]) [1, 2, 3, 4, 5, 6, 7] rfl ?_
        rw [er] at kk
        rw [er]
        exact kk _ _ _ hG6 hO6 hT7
      · skip
        refine zj_iload C dL_comes_155 1 rfl ?_
        refine ij_if_ge C 222 dL_comes_157 (by decide) ⟨by omega, by omega⟩ (fun _ => ?_) (fun h => False.elim (by omega))
        refine zj_sub (L' := [(12, .int (jI (k : Int))), (11, .int (jI (sI T 2))), (9, .long (jL (mI T))), (8, .int (jI r)), (4, .int (jI dv)), (2, .long (jL pv)), (0, .ref x0)]) [1, 2, 3, 4, 5, 6, 7] rfl ?_
        rw [er] at kk
        rw [er]
        exact kk _ _ _ hG6 hO6 hT7
set_option maxHeartbeats 4000000 in
set_option maxRecDepth 100000 in
theorem c_L_comes (l : Launch) (D : va_G) (cy : Nat → ClassId) (x0 x1 x2 d0 d1 p0 p1 h0 h1 : Nat) (a b : Nat → Nat) (hs sl : Nat → Nat → Nat) (T U : zTr) (x : zDd) (z : zPd) (y : zHs) (s : zSl) {Dd c : Int} (hG : GI Dd c T) (hO : LO T z y s) (hD : Dd + 61 ≤ 100000) (v : Int32) : zM l yL_comes (zW yL_comes cL_comes 14 (Option.some Jvm.ClassFile.FieldType.boolean)) rm_2 D cy [.ref x0, .int v] (LB cy x0 x1 x2 d0 d1 p0 p1 h0 h1 a b hs sl T U x z y s).flatten (fun r w => r = some (.int (jI 1)) ∧ ∃ T' U' x' y' s', GI Dd c T' ∧ LO T' z y' s' ∧ w = (LB cy x0 x1 x2 d0 d1 p0 p1 h0 h1 a b hs sl T' U' x' z y' s').flatten) 0 0 := by
  refine zM_of rfl (Nat.le_of_ble_eq_true rfl) (fun E C hret => ?_)
  have C : zO E cL_comes 14 "SwingUnitsLaw" rm_2 cy l D := C
  have hpr := prI_r T
  have rd := (GI_r hG).2.2.2.2.2.2.2.2.1
  show zJ E 14 0 0 (([] : List va_W) ++ LB cy x0 x1 x2 d0 d1 p0 p1 h0 h1 a b hs sl T U x z y s).flatten 0 [(0, .ref x0), (1, .int v)] []
  refine zj_aload_n C dL_comes_0 0 rfl ?_
  refine ls_print C ⟨Nat.le_of_ble_eq_true rfl, Nat.le_of_ble_eq_true rfl⟩ ⟨Nat.le_of_ble_eq_true rfl, Nat.le_of_ble_eq_true rfl⟩ hG hO ([] : List va_W) (Nat.le_of_ble_eq_true rfl) dL_comes_1 (fun x1_ => ?_)
  refine zj_lstore_n C (L' := [(2, .long (jL (prI T))), (0, .ref x0), (1, .int v)]) dL_comes_4 rfl (by decide) rfl ?_
  refine zj_aload_n C dL_comes_5 1 rfl ?_
  refine ij_bipush C dL_comes_6 (by decide) ?_
  refine lc_count C ⟨Nat.le_of_ble_eq_true rfl, Nat.le_of_ble_eq_true rfl⟩ ⟨Nat.le_of_ble_eq_true rfl, Nat.le_of_ble_eq_true rfl⟩ hO ([] : List va_W) (jI 8) (Nat.le_of_ble_eq_true rfl) dL_comes_8 (vc_8 hG z y) ?_
  refine zj_istore C (L' := [(4, .int (jI (dI T))), (2, .long (jL (prI T))), (0, .ref x0), (1, .int v)]) dL_comes_11 (by decide) rfl ?_
  refine zj_iload_n C dL_comes_13 3 rfl ?_
  refine ij_bipush C dL_comes_14 (by decide) ?_
  refine ls_up C ⟨Nat.le_of_ble_eq_true rfl, Nat.le_of_ble_eq_true rfl⟩ ⟨Nat.le_of_ble_eq_true rfl, Nat.le_of_ble_eq_true rfl⟩ ⟨by decide, by decide⟩ (Nat.le_of_ble_eq_true rfl) dL_comes_16 (fun u2_ hu2_1 hu2_2 => ?_)
  refine zj_istore C (L' := [(5, .int (jI u2_)), (4, .int (jI (dI T))), (2, .long (jL (prI T))), (0, .ref x0), (1, .int v)]) dL_comes_19 (by decide) rfl ?_
  obtain ⟨i, hii⟩ : ∃ i : Nat, u2_ = (i : Int) := ⟨(u2_).toNat, by omega⟩
  subst hii
  have hi : i < 6 := by omega
  obtain ⟨r, U1, x1_, eE, hES, hr1, hr2⟩ := exit_sp hG hD hi U x1_
  obtain ⟨s1, eS, hO1, hsv, hst⟩ := save_sp hG hO (k := 0) (by decide)
  have eS : f_X7_save T s (jI 0) = (jI (dI T), s1) := eS
  have hst : TE (gSl_st s1 0) T := hst
  refine zj_aload_n C dL_comes_21 3 rfl ?_
  refine zj_iload C dL_comes_22 0 rfl ?_
  refine lc_exitIn C ⟨Nat.le_of_ble_eq_true rfl, Nat.le_of_ble_eq_true rfl⟩ ⟨Nat.le_of_ble_eq_true rfl, Nat.le_of_ble_eq_true rfl⟩ hO ([] : List va_W) (jI (i : Int)) (exit_hP hG hD) (Nat.le_of_ble_eq_true rfl) dL_comes_24 (fun r_ U_ x_ e_ => ?_)
  cases (eE.symm.trans e_)
  refine zj_istore C (L' := [(6, .int (jI r)), (5, .int (jI (i : Int))), (4, .int (jI (dI T))), (2, .long (jL (prI T))), (0, .ref x0), (1, .int v)]) dL_comes_27 (by decide) rfl ?_
  refine zj_aload_n C dL_comes_29 4 rfl ?_
  refine ij_iconst C dL_comes_30 ?_
  refine lc_save C ⟨Nat.le_of_ble_eq_true rfl, Nat.le_of_ble_eq_true rfl⟩ ⟨Nat.le_of_ble_eq_true rfl, Nat.le_of_ble_eq_true rfl⟩ hO ([] : List va_W) (jI 0) (Nat.le_of_ble_eq_true rfl) dL_comes_31 (fun r_ s_ e_ => ?_)
  cases (eS.symm.trans e_)
  refine zj_iload C dL_comes_34 2 rfl ?_
  refine ij_icmp_eq C 41 dL_comes_36 (by decide) ⟨by omega, by omega⟩ ⟨by omega, by omega⟩ (fun _ => ?_) (fun h => False.elim (by omega))
  refine ij_iconst C dL_comes_41 ?_
  refine zj_istore C (L' := [(7, .int (jI 0)), (6, .int (jI r)), (5, .int (jI (i : Int))), (4, .int (jI (dI T))), (2, .long (jL (prI T))), (0, .ref x0), (1, .int v)]) dL_comes_42 (by decide) rfl ?_
  refine zj_sub (L' := [(7, .int (jI 0)), (6, .int (jI r)), (5, .int (jI (i : Int))), (4, .int (jI (dI T))), (2, .long (jL (prI T))), (0, .ref x0)]) [0, 1, 2, 3, 4, 5] rfl ?_
  show zJ E 14 0 0 (([] : List va_W) ++ LB cy x0 x1 x2 d0 d1 p0 p1 h0 h1 a b hs sl T U1 x1_ z y s1).flatten 44 [(7, .int (jI ((0 : Nat) : Int))), (6, .int (jI r)), (5, .int (jI (i : Int))), (4, .int (jI (dI T))), (2, .long (jL (prI T))), (0, .ref x0)] []
  have eD0 : Dd + ((0 : Nat) : Int) = Dd := by omega
  refine come_e C hG hD hi (TE_GI (become_TE U T) hG) hES (fun n T2 x2_ y2 hn hG2 hO2 hr0 hr6 => ?_) 60 0 T x1_ y rfl (TE_symm (become_TE U T)) (by rw [eD0]; exact hG) hO1 (fun j hj => absurd hj (Nat.not_lt_zero j))
  show zJ E 14 0 0 (([] : List va_W) ++ LB cy x0 x1 x2 d0 d1 p0 p1 h0 h1 a b hs sl T2 U1 x2_ z y2 s1).flatten 77 [(7, .int (jI (n : Int))), (6, .int (jI r)), (5, .int (jI (i : Int))), (4, .int (jI (dI T))), (2, .long (jL (prI T))), (0, .ref x0)] []
  obtain ⟨-, ⟨h6_, h7_⟩, -⟩ := GI_h hG2 hi
  obtain ⟨⟨h1_, h2_, h3_, h4_, h5_⟩, -⟩ := GI_h hG2 hi
  have ru2 := (GI_r hG2).2.2.2.2.1
  obtain ⟨T5, y5, eR, hT5, hG5, hO5⟩ := rest_sp hG hG2 hO2 (k := 0) (by decide) hsv hst
  have eR : f_X7_restore T2 y2 s1 (jI 0) = (jI (dI T), T5, y5) := eR
  have epr := TE_prI hT5 hG5 hG
  have edv : dI T = dI T5 := (TE_v hT5).2.2.2.2.2.2.2.2.1.symm
  refine zj_iload C dL_comes_77 1 rfl ?_
  refine zj_aload_n C dL_comes_79 5 rfl ?_
  refine zj_iload C dL_comes_80 2 rfl ?_
  refine ij_iconst C dL_comes_82 ?_
  refine lc_ofHolder C ⟨Nat.le_of_ble_eq_true rfl, Nat.le_of_ble_eq_true rfl⟩ ⟨Nat.le_of_ble_eq_true rfl, Nat.le_of_ble_eq_true rfl⟩ hO2 ([] : List va_W) (jI (i : Int)) (jI 3) (Nat.le_of_ble_eq_true rfl) dL_comes_83 (vh_3 hG2 hi) ?_
  have J : zJ E 14 0 0 (([] : List va_W) ++ LB cy x0 x1 x2 d0 d1 p0 p1 h0 h1 a b hs sl T2 U1 x2_ z y2 s1).flatten 96 [(7, .int (jI (n : Int))), (6, .int (jI r)), (5, .int (jI (i : Int))), (4, .int (jI (dI T))), (2, .long (jL (prI T))), (0, .ref x0)] [.int (jI r), .int (jI r)] := by
    refine ij_icmp_ne C 118 dL_comes_96 (by decide) ⟨by omega, by omega⟩ ⟨by omega, by omega⟩ (fun h => False.elim (by omega)) (fun _ => ?_)
    refine zj_aload_n C dL_comes_99 5 rfl ?_
    refine ij_iconst C dL_comes_100 ?_
    refine lc_restore C ⟨Nat.le_of_ble_eq_true rfl, Nat.le_of_ble_eq_true rfl⟩ ⟨Nat.le_of_ble_eq_true rfl, Nat.le_of_ble_eq_true rfl⟩ hO2 ([] : List va_W) (jI 0) (Nat.le_of_ble_eq_true rfl) dL_comes_101 (fun r_ T_ y_ e_ => ?_)
    cases (eR.symm.trans e_)
    refine zj_iload C dL_comes_104 3 rfl ?_
    refine ij_icmp_ne C 118 dL_comes_106 (by decide) ⟨by omega, by omega⟩ ⟨by omega, by omega⟩ (fun h => False.elim (by omega)) (fun _ => ?_)
    refine zj_aload_n C dL_comes_109 5 rfl ?_
    refine ls_print C ⟨Nat.le_of_ble_eq_true rfl, Nat.le_of_ble_eq_true rfl⟩ ⟨Nat.le_of_ble_eq_true rfl, Nat.le_of_ble_eq_true rfl⟩ hG5 hO5 ([] : List va_W) (Nat.le_of_ble_eq_true rfl) dL_comes_110 (fun x3_ => ?_)
    refine ij_el (prI T) epr ?_
    refine zj_lload_n C dL_comes_113 4 rfl ?_
    refine ij_lcmp_eq C 120 dL_comes_114 dL_comes_115 (by decide) ⟨by omega, by omega⟩ ⟨by omega, by omega⟩ (fun _ => ?_) (fun h => False.elim (by omega))
    obtain ⟨r7, U7, x7_, eF, hFS, hr71, hr72⟩ := fair_sp hG5 (by omega) U1 x3_
    have mb := (day_nums hG5).2.2.2.2.1
    have rs5 := (GI_s hG5).2.2.1
    refine zj_aload_n C dL_comes_120 5 rfl ?_
    refine lc_fairSwing C ⟨Nat.le_of_ble_eq_true rfl, Nat.le_of_ble_eq_true rfl⟩ ⟨Nat.le_of_ble_eq_true rfl, Nat.le_of_ble_eq_true rfl⟩ hO5 ([] : List va_W)  (fair_hP hG5) (Nat.le_of_ble_eq_true rfl) dL_comes_121 (fun r_ U_ x_ e_ => ?_)
    cases (eF.symm.trans e_)
    refine zj_istore C (L' := [(8, .int (jI r7)), (7, .int (jI (n : Int))), (6, .int (jI r)), (5, .int (jI (i : Int))), (4, .int (jI (dI T))), (2, .long (jL (prI T))), (0, .ref x0)]) dL_comes_124 (by decide) rfl ?_
    refine zj_aload_n C dL_comes_126 6 rfl ?_
    refine ij_iconst C dL_comes_127 ?_
    refine lc_price C ⟨Nat.le_of_ble_eq_true rfl, Nat.le_of_ble_eq_true rfl⟩ ⟨Nat.le_of_ble_eq_true rfl, Nat.le_of_ble_eq_true rfl⟩ hO5 ([] : List va_W) (jI 0) (Nat.le_of_ble_eq_true rfl) dL_comes_128 (fun r4_ x4_ e4_ => ?_)
    refine ij_l (mI T5) (vp_0 hG5 e4_) ?_
    refine zj_lstore C (L' := [(9, .long (jL (mI T5))), (8, .int (jI r7)), (7, .int (jI (n : Int))), (6, .int (jI r)), (5, .int (jI (i : Int))), (4, .int (jI (dI T))), (2, .long (jL (prI T))), (0, .ref x0)]) dL_comes_131 (by decide) rfl ?_
    refine zj_aload_n C dL_comes_133 7 rfl ?_
    refine ij_bipush C dL_comes_134 (by decide) ?_
    refine lc_count C ⟨Nat.le_of_ble_eq_true rfl, Nat.le_of_ble_eq_true rfl⟩ ⟨Nat.le_of_ble_eq_true rfl, Nat.le_of_ble_eq_true rfl⟩ hO5 ([] : List va_W) (jI 14) (Nat.le_of_ble_eq_true rfl) dL_comes_136 (vc_14 hG5 z y5) ?_
    refine zj_istore C (L' := [(11, .int (jI (sI T5 2))), (9, .long (jL (mI T5))), (8, .int (jI r7)), (7, .int (jI (n : Int))), (6, .int (jI r)), (5, .int (jI (i : Int))), (4, .int (jI (dI T))), (2, .long (jL (prI T))), (0, .ref x0)]) dL_comes_139 (by decide) rfl ?_
    refine ij_bipush C dL_comes_141 (by decide) ?_
    refine zj_istore C (L' := [(12, .int (jI (-6))), (11, .int (jI (sI T5 2))), (9, .long (jL (mI T5))), (8, .int (jI r7)), (7, .int (jI (n : Int))), (6, .int (jI r)), (5, .int (jI (i : Int))), (4, .int (jI (dI T))), (2, .long (jL (prI T))), (0, .ref x0)]) dL_comes_143 (by decide) rfl ?_
    refine ij_iconst C dL_comes_145 ?_
    refine zj_istore C (L' := [(13, .int (jI 0)), (12, .int (jI (-6))), (11, .int (jI (sI T5 2))), (9, .long (jL (mI T5))), (8, .int (jI r7)), (7, .int (jI (n : Int))), (6, .int (jI r)), (5, .int (jI (i : Int))), (4, .int (jI (dI T))), (2, .long (jL (prI T))), (0, .ref x0)]) dL_comes_146 (by decide) rfl ?_
    refine zj_sub (L' := [(13, .int (jI 0)), (12, .int (jI (-6))), (11, .int (jI (sI T5 2))), (9, .long (jL (mI T5))), (8, .int (jI r7)), (4, .int (jI (dI T))), (2, .long (jL (prI T))), (0, .ref x0)]) [0, 1, 2, 3, 4, 8, 9, 10] rfl ?_
    show zJ E 14 0 0 (([] : List va_W) ++ LB cy x0 x1 x2 d0 d1 p0 p1 h0 h1 a b hs sl T5 U7 x4_ z y5 s1).flatten 148 [(13, .int (jI ((0 : Nat) : Int))), (12, .int (jI (-6))), (11, .int (jI (sI T5 2))), (9, .long (jL (mI T5))), (8, .int (jI r7)), (4, .int (jI (dI T))), (2, .long (jL (prI T))), (0, .ref x0)] []
    refine come_f C hG5 hD edv hFS (fun T8 x8_ y8 hG8 hO8 hT8 => ?_) 101 0 T5 _ y5 rfl hG5 hO5 (TE_rf T5) (fun j hj => absurd hj (Nat.not_lt_zero j))
    show zJ E 14 0 0 (([] : List va_W) ++ LB cy x0 x1 x2 d0 d1 p0 p1 h0 h1 a b hs sl T8 U7 x8_ z y8 s1).flatten 222 [(12, .int (jI r7)), (11, .int (jI (sI T5 2))), (9, .long (jL (mI T5))), (8, .int (jI r7)), (4, .int (jI (dI T))), (2, .long (jL (prI T))), (0, .ref x0)] []
    have epr8 : prI T8 = prI T := TE_prI (TE_trans hT8 hT5) hG8 hG
    refine zj_iload C dL_comes_222 3 rfl ?_
    refine zj_iload C dL_comes_224 0 rfl ?_
    refine ij_icmp_ne C 242 dL_comes_226 (by decide) ⟨by omega, by omega⟩ ⟨by omega, by omega⟩ (fun h => False.elim (by omega)) (fun _ => ?_)
    refine zj_aload_n C dL_comes_229 6 rfl ?_
    refine ls_print C ⟨Nat.le_of_ble_eq_true rfl, Nat.le_of_ble_eq_true rfl⟩ ⟨Nat.le_of_ble_eq_true rfl, Nat.le_of_ble_eq_true rfl⟩ hG8 hO8 ([] : List va_W) (Nat.le_of_ble_eq_true rfl) dL_comes_230 (fun x5_ => ?_)
    refine ij_el (prI T) epr8 ?_
    refine zj_lload_n C dL_comes_233 5 rfl ?_
    refine ij_lcmp_ne C 242 dL_comes_234 dL_comes_235 (by decide) ⟨by omega, by omega⟩ ⟨by omega, by omega⟩ (fun h => False.elim (by omega)) (fun _ => ?_)
    refine ij_iconst C dL_comes_238 ?_
    refine zj_goto C 243 dL_comes_239 (by decide) ?_
    exact hret _ _ (some (.int (jI 1))) _ ⟨rfl, _, _, _, _, _, hG8, hO8, rfl⟩ (zOk_z (Or.inr rfl)) dL_comes_243
  refine ij_if_ne C 94 dL_comes_86 (by decide) ⟨by omega, by omega⟩ (fun hb => ?_) (fun hb => ?_)
  · skip
    refine ij_bipush C dL_comes_94 (by decide) ?_
    refine ij_ei r (by have := hr6 (by omega); omega) ?_
    exact J
  · skip
    refine zj_iload C dL_comes_89 0 rfl ?_
    refine ij_ei r (by have := hr0 (by omega); omega) ?_
    refine zj_goto C 96 dL_comes_91 (by decide) ?_
    exact J
end COMES
