/-! back. Written by wip/p26/law13.py -/
section BACK
variable {E : zE} {cy : Nat → ClassId} {l : Launch} {D : va_G} {x0 x1 x2 d0 d1 p0 p1 h0 h1 : Nat} {a b : Nat → Nat} {hs sl : Nat → Nat → Nat} {T U : zTr} {x : zDd} {z : zPd} {y : zHs} {s : zSl} {Dd c : Int}
set_option maxHeartbeats 4000000 in
set_option maxRecDepth 100000 in
theorem back_u (C : zO E cL_back 7 "SwingUnitsLaw" rm_2 cy l D) (hG : GI Dd c T) {dn : Nat} (hdn : dn ≤ 5) (kk : ∀ (T2 : zTr) (y2 : zHs), GI Dd c T2 → LO T2 z y2 s → TE T2 T → zJ E 7 0 0 (([] : List va_W) ++ LB cy x0 x1 x2 d0 d1 p0 p1 h0 h1 a b hs sl T2 U x z y2 s).flatten 124 [(4, .int (jI (dI T))), (2, .long (jL (prI T))), (0, .ref x0)] []) : ∀ (q : List zTr) (k : Nat) (T2 : zTr) (y2 : zHs), k + q.length = dn → LO T2 z y2 s → HL y2 q → BK T q T2 → zJ E 7 0 0 (([] : List va_W) ++ LB cy x0 x1 x2 d0 d1 p0 p1 h0 h1 a b hs sl T2 U x z y2 s).flatten 102 [(6, .int (jI (k : Int))), (5, .int (jI (dn : Int))), (4, .int (jI (dI T))), (2, .long (jL (prI T))), (0, .ref x0)] [] := by
  intro q
  induction q with
  | nil =>
    intro k T2 y2 hk hO2 hH hB
    have ek : k = dn := by simpa using hk
    refine zj_iload C dL_back_102 0 rfl ?_
    refine zj_iload C dL_back_104 1 rfl ?_
    refine ij_icmp_ge C 124 dL_back_106 (by decide) ⟨by omega, by omega⟩ ⟨by omega, by omega⟩ (fun _ => ?_) (fun h => False.elim (by omega))
    refine zj_sub (L' := [(4, .int (jI (dI T))), (2, .long (jL (prI T))), (0, .ref x0)]) [2, 3, 4] rfl ?_
    exact kk T2 y2 (TE_GI hB hG) hO2 hB
  | cons u q ih =>
    intro k T2 y2 hk hO2 hH hB
    have hk1 : k + 1 + q.length = dn := by simp at hk; omega
    obtain ⟨⟨D3, c3, hu⟩, hB2⟩ := hB
    obtain ⟨T3, y3, r3, eX, hr3, hte, hG3, hO3, hH3⟩ := undo_sp hO2 hH hu
    refine zj_iload C dL_back_102 0 rfl ?_
    refine zj_iload C dL_back_104 1 rfl ?_
    refine ij_icmp_ge C 124 dL_back_106 (by decide) ⟨by omega, by omega⟩ ⟨by omega, by omega⟩ (fun h => False.elim (by omega)) (fun _ => ?_)
    refine zj_aload_n C dL_back_109 4 rfl ?_
    refine lc_undo C ⟨Nat.le_of_ble_eq_true rfl, Nat.le_of_ble_eq_true rfl⟩ ⟨Nat.le_of_ble_eq_true rfl, Nat.le_of_ble_eq_true rfl⟩ hO2 ([] : List va_W)  (Nat.le_of_ble_eq_true rfl) dL_back_110 (fun r_ T_ y_ e_ => ?_)
    cases (eX.symm.trans e_)
    refine ij_if_ge C 118 dL_back_113 (by decide) ⟨by omega, by omega⟩ (fun _ => ?_) (fun h => False.elim (by omega))
    refine ij_iinc C (j := 0) (L2 := [(6, .int (jI ((k + 1 : Nat) : Int))), (5, .int (jI (dn : Int))), (4, .int (jI (dI T))), (2, .long (jL (prI T))), (0, .ref x0)]) ((k + 1 : Nat) : Int) (by omega) dL_back_118 rfl (by decide) rfl ?_
    refine zj_goto C 102 dL_back_121 (by decide) ?_
    refine zj_sub (L' := [(6, .int (jI ((k + 1 : Nat) : Int))), (5, .int (jI (dn : Int))), (4, .int (jI (dI T))), (2, .long (jL (prI T))), (0, .ref x0)]) [0, 1, 2, 3, 4] rfl ?_
    exact ih (k + 1) T3 y3 hk1 hO3 hH3 (BK_TE hte hB2)
set_option maxHeartbeats 4000000 in
set_option maxRecDepth 100000 in
theorem back_t (C : zO E cL_back 7 "SwingUnitsLaw" rm_2 cy l D) (hG : GI Dd c T) (hD : Dd + 1 ≤ 100000) {dn : Nat} (hdn : dn ≤ 5) (hv : gSl_sv s 1 = nI 1) (hs1 : TE (gSl_st s 1) T) (hret : ∀ (T' : zTr) (x' : zDd) (y' : zHs) (L : List (Nat × Value)), GI Dd c T' → LO T' z y' s → zJ E 7 0 0 (([] : List va_W) ++ LB cy x0 x1 x2 d0 d1 p0 p1 h0 h1 a b hs sl T' U x' z y' s).flatten 164 L [.int (jI 1)]) (q : List zTr) (T2 : zTr) (y2 : zHs) (hq : q.length = dn) (hO2 : LO T2 z y2 s) (hH : HL y2 q) (hB : BK T q T2) : zJ E 7 0 0 (([] : List va_W) ++ LB cy x0 x1 x2 d0 d1 p0 p1 h0 h1 a b hs sl T2 U x z y2 s).flatten 99 [(5, .int (jI (dn : Int))), (4, .int (jI (dI T))), (2, .long (jL (prI T))), (0, .ref x0)] [] := by
  have hpr := prI_r T
  have rd := (GI_r hG).2.2.2.2.2.2.2.2.1
  refine ij_iconst C dL_back_99 ?_
  refine zj_istore C (L' := [(6, .int (jI 0)), (5, .int (jI (dn : Int))), (4, .int (jI (dI T))), (2, .long (jL (prI T))), (0, .ref x0)]) dL_back_100 (by decide) rfl ?_
  refine zj_sub (L' := [(6, .int (jI 0)), (5, .int (jI (dn : Int))), (4, .int (jI (dI T))), (2, .long (jL (prI T))), (0, .ref x0)]) [0, 1, 2, 3, 4] rfl ?_
  show zJ E 7 0 0 (([] : List va_W) ++ LB cy x0 x1 x2 d0 d1 p0 p1 h0 h1 a b hs sl T2 U x z y2 s).flatten 102 [(6, .int (jI ((0 : Nat) : Int))), (5, .int (jI (dn : Int))), (4, .int (jI (dI T))), (2, .long (jL (prI T))), (0, .ref x0)] []
  refine back_u C hG hdn (fun T3 y3 hG3 hO3 hte => ?_) q 0 T2 y2 (by omega) hO2 hH hB
  have epr : prI T3 = prI T := TE_prI hte hG3 hG
  refine zj_aload_n C dL_back_124 2 rfl ?_
  refine ls_print C ⟨Nat.le_of_ble_eq_true rfl, Nat.le_of_ble_eq_true rfl⟩ ⟨Nat.le_of_ble_eq_true rfl, Nat.le_of_ble_eq_true rfl⟩ hG3 hO3 ([] : List va_W) (Nat.le_of_ble_eq_true rfl) dL_back_125 (fun x1_ => ?_)
  refine ij_el (prI T) epr ?_
  refine zj_lload_n C dL_back_128 1 rfl ?_
  refine ij_lcmp_eq C 135 dL_back_129 dL_back_130 (by decide) ⟨by omega, by omega⟩ ⟨by omega, by omega⟩ (fun _ => ?_) (fun h => False.elim (by omega))
  obtain ⟨rform, rd4, hG4, -⟩ := run_parts hG3 x1_ hD
  have eX : f_X7_endDay T3 x1_ y3 = (gTr_day (runR x1_ T3), runR x1_ T3, runX x1_ T3, hist2 y3 T3 (gTr_day (runR x1_ T3))) := by rw [X7_endDay, rform]
  have hO4 := LO_op hG3 hO3 hG4 (gTr_day (runR x1_ T3))
  obtain ⟨y4, ey4⟩ : ∃ q, q = hist2 y3 T3 (gTr_day (runR x1_ T3)) := ⟨_, rfl⟩
  rw [← ey4] at eX hO4
  obtain ⟨T5, y5, eX5, hte5, hG5, hO5⟩ := rest_sp hG hG4 hO4 (k := 1) (by decide) hv hs1
  have eX5 : f_X7_restore _ y4 s (jI 1) = (jI (dI T), T5, y5) := eX5
  have epr5 : prI T5 = prI T := TE_prI hte5 hG5 hG
  refine zj_aload_n C dL_back_135 2 rfl ?_
  refine lc_endDay C ⟨Nat.le_of_ble_eq_true rfl, Nat.le_of_ble_eq_true rfl⟩ ⟨Nat.le_of_ble_eq_true rfl, Nat.le_of_ble_eq_true rfl⟩ hO3 ([] : List va_W)  (Nat.le_of_ble_eq_true rfl) dL_back_136 (fun r_ T_ x_ y_ e_ => ?_)
  cases (eX.symm.trans e_)
  refine zj_pop C dL_back_139 rfl ?_
  refine zj_aload_n C dL_back_140 2 rfl ?_
  refine ij_iconst C dL_back_141 ?_
  refine lc_restore C ⟨Nat.le_of_ble_eq_true rfl, Nat.le_of_ble_eq_true rfl⟩ ⟨Nat.le_of_ble_eq_true rfl, Nat.le_of_ble_eq_true rfl⟩ hO4 ([] : List va_W) (jI 1) (Nat.le_of_ble_eq_true rfl) dL_back_142 (fun r_ T_ y_ e_ => ?_)
  cases (eX5.symm.trans e_)
  refine zj_iload C dL_back_145 0 rfl ?_
  refine ij_icmp_ne C 163 dL_back_147 (by decide) ⟨by omega, by omega⟩ ⟨by omega, by omega⟩ (fun h => False.elim (by omega)) (fun _ => ?_)
  refine zj_aload_n C dL_back_150 2 rfl ?_
  refine ls_print C ⟨Nat.le_of_ble_eq_true rfl, Nat.le_of_ble_eq_true rfl⟩ ⟨Nat.le_of_ble_eq_true rfl, Nat.le_of_ble_eq_true rfl⟩ hG5 hO5 ([] : List va_W) (Nat.le_of_ble_eq_true rfl) dL_back_151 (fun x2_ => ?_)
  refine ij_el (prI T) epr5 ?_
  refine zj_lload_n C dL_back_154 1 rfl ?_
  refine ij_lcmp_ne C 163 dL_back_155 dL_back_156 (by decide) ⟨by omega, by omega⟩ ⟨by omega, by omega⟩ (fun h => False.elim (by omega)) (fun _ => ?_)
  refine ij_iconst C dL_back_159 ?_
  refine zj_goto C 164 dL_back_160 (by decide) ?_
  exact hret _ _ _ _ hG5 hO5
set_option maxHeartbeats 4000000 in
set_option maxRecDepth 100000 in
theorem c_L_back (l : Launch) (D : va_G) (cy : Nat → ClassId) (x0 x1 x2 d0 d1 p0 p1 h0 h1 : Nat) (a b : Nat → Nat) (hs sl : Nat → Nat → Nat) (T U : zTr) (x : zDd) (z : zPd) (y : zHs) (s : zSl) {Dd c : Int} (hG : GI Dd c T) (hO : LO T z y s) (hD : Dd + 1 ≤ 100000) (hcc : c + 3 ≤ 400) (v : Int32) : zM l yL_back (zW yL_back cL_back 7 (Option.some Jvm.ClassFile.FieldType.boolean)) rm_2 D cy [.ref x0, .int v] (LB cy x0 x1 x2 d0 d1 p0 p1 h0 h1 a b hs sl T U x z y s).flatten (fun r w => r = some (.int (jI 1)) ∧ ∃ T' x' y' s', GI Dd c T' ∧ LO T' z y' s' ∧ w = (LB cy x0 x1 x2 d0 d1 p0 p1 h0 h1 a b hs sl T' U x' z y' s').flatten) 0 0 := by
  refine zM_of rfl (Nat.le_of_ble_eq_true rfl) (fun E C hret => ?_)
  have C : zO E cL_back 7 "SwingUnitsLaw" rm_2 cy l D := C
  have hpr := prI_r T
  obtain ⟨⟨rc1, rc2⟩, ⟨rl1, rl2⟩, ⟨rq1, rq2⟩, -, -, -, -, -, ⟨rd1, rd2⟩, -⟩ := GI_r hG
  show zJ E 7 0 0 (([] : List va_W) ++ LB cy x0 x1 x2 d0 d1 p0 p1 h0 h1 a b hs sl T U x z y s).flatten 0 [(0, .ref x0), (1, .int v)] []
  obtain ⟨s1, eS, hO1, hsv, hst⟩ := save_sp hG hO (k := 1) (by decide)
  have eS : f_X7_save T s (jI 1) = (jI (dI T), s1) := eS
  refine zj_aload_n C dL_back_0 0 rfl ?_
  refine ls_print C ⟨Nat.le_of_ble_eq_true rfl, Nat.le_of_ble_eq_true rfl⟩ ⟨Nat.le_of_ble_eq_true rfl, Nat.le_of_ble_eq_true rfl⟩ hG hO ([] : List va_W) (Nat.le_of_ble_eq_true rfl) dL_back_1 (fun x1_ => ?_)
  refine zj_lstore_n C (L' := [(2, .long (jL (prI T))), (0, .ref x0), (1, .int v)]) dL_back_4 rfl (by decide) rfl ?_
  refine zj_aload_n C dL_back_5 1 rfl ?_
  refine ij_bipush C dL_back_6 (by decide) ?_
  refine lc_count C ⟨Nat.le_of_ble_eq_true rfl, Nat.le_of_ble_eq_true rfl⟩ ⟨Nat.le_of_ble_eq_true rfl, Nat.le_of_ble_eq_true rfl⟩ hO ([] : List va_W) (jI 8) (Nat.le_of_ble_eq_true rfl) dL_back_8 (vc_8 hG z y) ?_
  refine zj_istore C (L' := [(4, .int (jI (dI T))), (2, .long (jL (prI T))), (0, .ref x0), (1, .int v)]) dL_back_11 (by decide) rfl ?_
  refine zj_aload_n C dL_back_13 2 rfl ?_
  refine ij_iconst C dL_back_14 ?_
  refine lc_save C ⟨Nat.le_of_ble_eq_true rfl, Nat.le_of_ble_eq_true rfl⟩ ⟨Nat.le_of_ble_eq_true rfl, Nat.le_of_ble_eq_true rfl⟩ hO ([] : List va_W) (jI 1) (Nat.le_of_ble_eq_true rfl) dL_back_15 (fun r_ s_ e_ => ?_)
  cases (eS.symm.trans e_)
  refine zj_iload C dL_back_18 0 rfl ?_
  refine ij_icmp_eq C 25 dL_back_20 (by decide) ⟨by omega, by omega⟩ ⟨by omega, by omega⟩ (fun _ => ?_) (fun h => False.elim (by omega))
  refine ij_iconst C dL_back_25 ?_
  refine zj_istore C (L' := [(5, .int (jI 3)), (4, .int (jI (dI T))), (2, .long (jL (prI T))), (0, .ref x0), (1, .int v)]) dL_back_26 (by decide) rfl ?_
  refine zj_aload_n C dL_back_28 3 rfl ?_
  refine ij_iconst C dL_back_29 ?_
  refine zj_iload_n C dL_back_30 4 rfl ?_
  refine ij_sipush C dL_back_31 (by decide) ?_
  refine ls_up C ⟨Nat.le_of_ble_eq_true rfl, Nat.le_of_ble_eq_true rfl⟩ ⟨Nat.le_of_ble_eq_true rfl, Nat.le_of_ble_eq_true rfl⟩ ⟨by decide, by decide⟩ (Nat.le_of_ble_eq_true rfl) dL_back_34 (fun u2_ hu2_1 hu2_2 => ?_)
  refine ij_iadd C dL_back_37 ?_
  obtain ⟨eq1, hG1, -⟩ := quote_sp hG (by omega) (v := (1 + u2_)) ⟨by omega, by omega⟩
  have eQ : f_X7_quote T y (jI (1 + u2_)) = (jI (qI T), sTr_quote T (jI (1 + u2_)), hist2 y T (jI (qI T))) := by rw [X7_quote, eq1]
  have hO2 := LO_op hG hO1 hG1 (jI (qI T))
  have hH1 : HL (hist2 y T (jI (qI T))) [T] := op_HL (LO_HO hO1) (HL_nil y) (by decide) ⟨by omega, by omega⟩
  obtain ⟨T1, eT1⟩ : ∃ q, q = sTr_quote T (jI (1 + u2_)) := ⟨_, rfl⟩
  obtain ⟨y1, ey1⟩ : ∃ q, q = hist2 y T (jI (qI T)) := ⟨_, rfl⟩
  have hd1 : dI T1 = dI T := by rw [eT1]; rfl
  rw [← eT1, ← ey1] at eQ
  rw [← eT1, ← ey1] at hO2
  rw [← eT1] at hG1
  rw [← ey1] at hH1
  refine lc_quote C ⟨Nat.le_of_ble_eq_true rfl, Nat.le_of_ble_eq_true rfl⟩ ⟨Nat.le_of_ble_eq_true rfl, Nat.le_of_ble_eq_true rfl⟩ hO1 ([] : List va_W) (jI (1 + u2_)) (Nat.le_of_ble_eq_true rfl) dL_back_38 (fun r_ T_ y_ e_ => ?_)
  cases (eQ.symm.trans e_)
  refine ij_iconst C dL_back_41 ?_
  refine ij_icmp_lt C 63 dL_back_42 (by decide) ⟨by omega, by omega⟩ ⟨by decide, by decide⟩ (fun h => False.elim (by omega)) (fun _ => ?_)
  refine zj_aload_n C dL_back_45 3 rfl ?_
  obtain ⟨rform, rd4, hG2, -⟩ := run_parts hG1 x1_ hD
  have eE : f_X7_endDay T1 x1_ y1 = (jI (dI T + 1), runR x1_ T1, runX x1_ T1, hist2 y1 T1 (jI (dI T + 1))) := by
    rw [X7_endDay, rform]
    have e := jI_is (v := gTr_day (runR x1_ T1)) (rd4.trans (by rw [hd1]))
    dsimp only
    rw [e]
  have hO3 := LO_op hG1 hO2 hG2 (jI (dI T + 1))
  have hH2 : HL (hist2 y1 T1 (jI (dI T + 1))) [T1, T] := op_HL (LO_HO hO2) hH1 (by simp) ⟨by omega, by omega⟩
  obtain ⟨T2, eT2⟩ : ∃ q, q = runR x1_ T1 := ⟨_, rfl⟩
  obtain ⟨x2_, ex2⟩ : ∃ q, q = runX x1_ T1 := ⟨_, rfl⟩
  obtain ⟨y2, ey2⟩ : ∃ q, q = hist2 y1 T1 (jI (dI T + 1)) := ⟨_, rfl⟩
  rw [← eT2, ← ex2, ← ey2] at eE
  rw [← eT2, ← ey2] at hO3
  rw [← eT2] at hG2
  rw [← ey2] at hH2
  refine lc_endDay C ⟨Nat.le_of_ble_eq_true rfl, Nat.le_of_ble_eq_true rfl⟩ ⟨Nat.le_of_ble_eq_true rfl, Nat.le_of_ble_eq_true rfl⟩ hO2 ([] : List va_W)  (Nat.le_of_ble_eq_true rfl) dL_back_46 (fun r_ T_ x_ y_ e_ => ?_)
  cases (eE.symm.trans e_)
  refine zj_iload C dL_back_49 1 rfl ?_
  refine ij_iconst C dL_back_51 ?_
  refine ij_iadd C dL_back_52 ?_
  refine ij_icmp_ne C 63 dL_back_53 (by decide) ⟨by omega, by omega⟩ ⟨by omega, by omega⟩ (fun h => False.elim (by omega)) (fun _ => ?_)
  refine zj_aload_n C dL_back_56 3 rfl ?_
  obtain ⟨T3, y3, eP, hG3, hO4, ey3, -⟩ := pay_7 hG2 hO3
  obtain ⟨q1_, q2_, q3_, q4_, q5_⟩ := egI_r hG2
  have hgs := (GI_r hG2).2.2.2.2.2.2.1; have hgc := (GI_r hG2).1
  have hH3 : HL y3 [T2, T1, T] := by rw [ey3]; exact op_HL (LO_HO hO3) hH2 (by simp) ⟨by omega, by omega⟩
  refine lc_pay C ⟨Nat.le_of_ble_eq_true rfl, Nat.le_of_ble_eq_true rfl⟩ ⟨Nat.le_of_ble_eq_true rfl, Nat.le_of_ble_eq_true rfl⟩ hO3 ([] : List va_W)  (Nat.le_of_ble_eq_true rfl) dL_back_57 (fun r_ T_ y_ e_ => ?_)
  cases (eP.symm.trans e_)
  refine ij_if_ge C 65 dL_back_60 (by decide) ⟨by omega, by omega⟩ (fun _ => ?_) (fun h => False.elim (by omega))
  refine zj_sub (L' := [(5, .int (jI 3)), (4, .int (jI (dI T))), (2, .long (jL (prI T))), (1, .int v), (0, .ref x0)]) [0, 1, 2, 4, 3] rfl ?_
  have hret' : ∀ (T' : zTr) (x' : zDd) (y' : zHs) (L : List (Nat × Value)), GI Dd c T' → LO T' z y' s1 → zJ E 7 0 0 (([] : List va_W) ++ LB cy x0 x1 x2 d0 d1 p0 p1 h0 h1 a b hs sl T' U x' z y' s1).flatten 164 L [.int (jI 1)] := fun T' x' y' L g1 g2 => hret _ _ (some (.int (jI 1))) _ ⟨rfl, T', x', y', s1, g1, g2, rfl⟩ (zOk_z (Or.inr rfl)) dL_back_164
  have hst : TE (gSl_st s1 1) T := hst
  obtain ⟨n3a, n3b⟩ := (GI_r hG3).2.2.2.2.2.2.2.2.2.1
  refine zj_aload_n C dL_back_65 4 rfl ?_
  refine zj_iload_n C dL_back_66 3 rfl ?_
  refine ij_iconst C dL_back_67 ?_
  refine zj_ishr C dL_back_68 (fun v68 => ?_)
  refine ij_bipush C dL_back_69 (by decide) ?_
  refine ls_up C ⟨Nat.le_of_ble_eq_true rfl, Nat.le_of_ble_eq_true rfl⟩ ⟨Nat.le_of_ble_eq_true rfl, Nat.le_of_ble_eq_true rfl⟩ ⟨by decide, by decide⟩ (Nat.le_of_ble_eq_true rfl) dL_back_71 (fun u3_ hu3_1 hu3_2 => ?_)
  refine ij_sipush C dL_back_74 (by decide) ?_
  refine ij_iconst C dL_back_77 ?_
  obtain ⟨i5, hi5⟩ : ∃ i5 : Nat, u3_ = (i5 : Int) := ⟨(u3_).toNat, by omega⟩
  obtain ⟨eB0, eB1⟩ := buy_sp hG3 (by omega) (i := i5) (by omega) (a := 5000) (v := 0) ⟨by decide, by decide⟩ ⟨by decide, by decide⟩
  rw [← hi5] at eB0 eB1
  by_cases hn : gOd_n (gTr_bu T3) = 20
  · skip
    have eB : f_X7_buy T3 y3 (jI u3_) (jI 5000) (jI 0) = (jI (-4), T3, hist2 y3 T3 (jI (-4))) := by rw [X7_buy, eB0 hn]; rfl
    have hO5 := LO_op hG3 hO4 hG3 (jI (-4))
    have hH5 : HL (hist2 y3 T3 (jI (-4))) [T2, T1, T] := HL_no (LO_HO hO4) hH3 (by decide)
    obtain ⟨y5, ey5⟩ : ∃ q, q = hist2 y3 T3 (jI (-4)) := ⟨_, rfl⟩
    rw [← ey5] at eB hO5 hH5
    refine lc_buy C ⟨Nat.le_of_ble_eq_true rfl, Nat.le_of_ble_eq_true rfl⟩ ⟨Nat.le_of_ble_eq_true rfl, Nat.le_of_ble_eq_true rfl⟩ hO4 ([] : List va_W) (jI u3_) (jI 5000) (jI 0) (Nat.le_of_ble_eq_true rfl) dL_back_78 (fun r_ T_ y_ e_ => ?_)
    cases (eB.symm.trans e_)
    refine ij_if_lt C 87 dL_back_81 (by decide) ⟨by decide, by decide⟩ (fun _ => ?_) (fun h => False.elim (by omega))
    refine zj_sub (L' := [(5, .int (jI 3)), (4, .int (jI (dI T))), (2, .long (jL (prI T))), (1, .int v), (0, .ref x0)]) [0, 1, 2, 3, 4] rfl ?_
    obtain ⟨eI0, eI1⟩ := income_sp hG3 (by omega) (v := 77) ⟨by decide, by decide⟩
    by_cases hu : uAll T3 = 0
    · skip
      have eI : f_X7_income T3 y5 (jI 77) = (jI (-5), T3, hist2 y5 T3 (jI (-5))) := by rw [X7_income, eI0 hu]; rfl
      have hO6 := LO_op hG3 hO5 hG3 (jI (-5))
      have hH6 : HL (hist2 y5 T3 (jI (-5))) [T2, T1, T] := HL_no (LO_HO hO5) hH5 (by decide)
      refine zj_aload_n C dL_back_87 4 rfl ?_
      refine ij_bipush C dL_back_88 (by decide) ?_
      refine lc_income C ⟨Nat.le_of_ble_eq_true rfl, Nat.le_of_ble_eq_true rfl⟩ ⟨Nat.le_of_ble_eq_true rfl, Nat.le_of_ble_eq_true rfl⟩ hO5 ([] : List va_W) (jI 77) (Nat.le_of_ble_eq_true rfl) dL_back_90 (fun r_ T_ y_ e_ => ?_)
      cases (eI.symm.trans e_)
      refine ij_if_lt C 99 dL_back_93 (by decide) ⟨by decide, by decide⟩ (fun _ => ?_) (fun h => False.elim (by omega))
      refine zj_sub (L' := [(5, .int (jI 3)), (4, .int (jI (dI T))), (2, .long (jL (prI T))), (0, .ref x0)]) [0, 1, 2, 4] rfl ?_
      exact back_t C hG hD (dn := 3) (by decide) hsv hst hret' [T2, T1, T] _ _ rfl hO6 hH6 ⟨⟨_, _, hG2⟩, ⟨⟨_, _, hG1⟩, ⟨⟨_, _, hG⟩, (TE_rf T)⟩⟩⟩
    · skip
      obtain ⟨T6, eI2, hG6, -, -, hpo⟩ := eI1 (by have := (GI_r hG3).2.2.2.2.1; omega)
      have hpp := (GI_r hG3).2.2.2.2.2.2.1; have hpc := (GI_r hG3).1
      have eI : f_X7_income T3 y5 (jI 77) = (jI (poI T3 + 77), T6, hist2 y5 T3 (jI (poI T3 + 77))) := by rw [X7_income, eI2]
      have hO6 := LO_op hG3 hO5 hG6 (jI (poI T3 + 77))
      have hH6 : HL (hist2 y5 T3 (jI (poI T3 + 77))) (T3 :: [T2, T1, T]) := op_HL (LO_HO hO5) hH5 (by simp) ⟨by omega, by omega⟩
      refine zj_aload_n C dL_back_87 4 rfl ?_
      refine ij_bipush C dL_back_88 (by decide) ?_
      refine lc_income C ⟨Nat.le_of_ble_eq_true rfl, Nat.le_of_ble_eq_true rfl⟩ ⟨Nat.le_of_ble_eq_true rfl, Nat.le_of_ble_eq_true rfl⟩ hO5 ([] : List va_W) (jI 77) (Nat.le_of_ble_eq_true rfl) dL_back_90 (fun r_ T_ y_ e_ => ?_)
      cases (eI.symm.trans e_)
      refine ij_if_lt C 99 dL_back_93 (by decide) ⟨by omega, by omega⟩ (fun h => False.elim (by omega)) (fun _ => ?_)
      refine ij_iinc C (j := 0) (L2 := [(5, .int (jI 4)), (4, .int (jI (dI T))), (2, .long (jL (prI T))), (1, .int v), (0, .ref x0)]) 4 rfl dL_back_96 rfl (by decide) rfl ?_
      refine zj_sub (L' := [(5, .int (jI 4)), (4, .int (jI (dI T))), (2, .long (jL (prI T))), (0, .ref x0)]) [0, 1, 2, 4] rfl ?_
      exact back_t C hG hD (dn := 4) (by decide) hsv hst hret' [T3, T2, T1, T] _ _ rfl hO6 hH6 ⟨⟨_, _, hG3⟩, ⟨⟨_, _, hG2⟩, ⟨⟨_, _, hG1⟩, ⟨⟨_, _, hG⟩, (TE_rf T)⟩⟩⟩⟩
  · skip
    obtain ⟨T5, eB2, hG5, -⟩ := eB1 (by omega)
    obtain ⟨wh, hwh⟩ : ∃ q, q = (if (0 : Int) < sI T3 0 then dI T3 else dI T3 + 1) := ⟨_, rfl⟩
    have rd3 := (GI_r hG3).2.2.2.2.2.2.2.2.1
    have hwr : 0 ≤ wh ∧ wh ≤ 100001 := by rw [hwh]; split <;> omega
    rw [← hwh] at eB2
    have eB : f_X7_buy T3 y3 (jI u3_) (jI 5000) (jI 0) = (jI wh, T5, hist2 y3 T3 (jI wh)) := by rw [X7_buy, eB2]
    have hO5 := LO_op hG3 hO4 hG5 (jI wh)
    have hH5 : HL (hist2 y3 T3 (jI wh)) [T3, T2, T1, T] := op_HL (LO_HO hO4) hH3 (by simp) ⟨by omega, by omega⟩
    obtain ⟨y5, ey5⟩ : ∃ q, q = hist2 y3 T3 (jI wh) := ⟨_, rfl⟩
    rw [← ey5] at eB hO5 hH5
    refine lc_buy C ⟨Nat.le_of_ble_eq_true rfl, Nat.le_of_ble_eq_true rfl⟩ ⟨Nat.le_of_ble_eq_true rfl, Nat.le_of_ble_eq_true rfl⟩ hO4 ([] : List va_W) (jI u3_) (jI 5000) (jI 0) (Nat.le_of_ble_eq_true rfl) dL_back_78 (fun r_ T_ y_ e_ => ?_)
    cases (eB.symm.trans e_)
    refine ij_if_lt C 87 dL_back_81 (by decide) ⟨by omega, by omega⟩ (fun h => False.elim (by omega)) (fun _ => ?_)
    refine ij_iinc C (j := 0) (L2 := [(5, .int (jI 4)), (4, .int (jI (dI T))), (2, .long (jL (prI T))), (1, .int v), (0, .ref x0)]) 4 rfl dL_back_84 rfl (by decide) rfl ?_
    refine zj_sub (L' := [(5, .int (jI 4)), (4, .int (jI (dI T))), (2, .long (jL (prI T))), (1, .int v), (0, .ref x0)]) [0, 1, 2, 3, 4] rfl ?_
    obtain ⟨eI0, eI1⟩ := income_sp hG5 (by omega) (v := 77) ⟨by decide, by decide⟩
    by_cases hu : uAll T5 = 0
    · skip
      have eI : f_X7_income T5 y5 (jI 77) = (jI (-5), T5, hist2 y5 T5 (jI (-5))) := by rw [X7_income, eI0 hu]; rfl
      have hO6 := LO_op hG5 hO5 hG5 (jI (-5))
      have hH6 : HL (hist2 y5 T5 (jI (-5))) [T3, T2, T1, T] := HL_no (LO_HO hO5) hH5 (by decide)
      refine zj_aload_n C dL_back_87 4 rfl ?_
      refine ij_bipush C dL_back_88 (by decide) ?_
      refine lc_income C ⟨Nat.le_of_ble_eq_true rfl, Nat.le_of_ble_eq_true rfl⟩ ⟨Nat.le_of_ble_eq_true rfl, Nat.le_of_ble_eq_true rfl⟩ hO5 ([] : List va_W) (jI 77) (Nat.le_of_ble_eq_true rfl) dL_back_90 (fun r_ T_ y_ e_ => ?_)
      cases (eI.symm.trans e_)
      refine ij_if_lt C 99 dL_back_93 (by decide) ⟨by decide, by decide⟩ (fun _ => ?_) (fun h => False.elim (by omega))
      refine zj_sub (L' := [(5, .int (jI 4)), (4, .int (jI (dI T))), (2, .long (jL (prI T))), (0, .ref x0)]) [0, 1, 2, 4] rfl ?_
      exact back_t C hG hD (dn := 4) (by decide) hsv hst hret' [T3, T2, T1, T] _ _ rfl hO6 hH6 ⟨⟨_, _, hG3⟩, ⟨⟨_, _, hG2⟩, ⟨⟨_, _, hG1⟩, ⟨⟨_, _, hG⟩, (TE_rf T)⟩⟩⟩⟩
    · skip
      obtain ⟨T6, eI2, hG6, -, -, hpo⟩ := eI1 (by have := (GI_r hG5).2.2.2.2.1; omega)
      have hpp := (GI_r hG5).2.2.2.2.2.2.1; have hpc := (GI_r hG5).1
      have eI : f_X7_income T5 y5 (jI 77) = (jI (poI T5 + 77), T6, hist2 y5 T5 (jI (poI T5 + 77))) := by rw [X7_income, eI2]
      have hO6 := LO_op hG5 hO5 hG6 (jI (poI T5 + 77))
      have hH6 : HL (hist2 y5 T5 (jI (poI T5 + 77))) (T5 :: [T3, T2, T1, T]) := op_HL (LO_HO hO5) hH5 (by simp) ⟨by omega, by omega⟩
      refine zj_aload_n C dL_back_87 4 rfl ?_
      refine ij_bipush C dL_back_88 (by decide) ?_
      refine lc_income C ⟨Nat.le_of_ble_eq_true rfl, Nat.le_of_ble_eq_true rfl⟩ ⟨Nat.le_of_ble_eq_true rfl, Nat.le_of_ble_eq_true rfl⟩ hO5 ([] : List va_W) (jI 77) (Nat.le_of_ble_eq_true rfl) dL_back_90 (fun r_ T_ y_ e_ => ?_)
      cases (eI.symm.trans e_)
      refine ij_if_lt C 99 dL_back_93 (by decide) ⟨by omega, by omega⟩ (fun h => False.elim (by omega)) (fun _ => ?_)
      refine ij_iinc C (j := 0) (L2 := [(5, .int (jI 5)), (4, .int (jI (dI T))), (2, .long (jL (prI T))), (1, .int v), (0, .ref x0)]) 5 rfl dL_back_96 rfl (by decide) rfl ?_
      refine zj_sub (L' := [(5, .int (jI 5)), (4, .int (jI (dI T))), (2, .long (jL (prI T))), (0, .ref x0)]) [0, 1, 2, 4] rfl ?_
      exact back_t C hG hD (dn := 5) (by decide) hsv hst hret' [T5, T3, T2, T1, T] _ _ rfl hO6 hH6 ⟨⟨_, _, hG5⟩, ⟨⟨_, _, hG3⟩, ⟨⟨_, _, hG2⟩, ⟨⟨_, _, hG1⟩, ⟨⟨_, _, hG⟩, (TE_rf T)⟩⟩⟩⟩⟩
end BACK
