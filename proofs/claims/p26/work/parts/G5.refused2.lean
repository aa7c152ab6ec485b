/-! refused. Written by wip/p26/law16.py -/
section REF
variable {E : zE} {cy : Nat → ClassId} {l : Launch} {D : va_G} {x0 x1 x2 d0 d1 p0 p1 h0 h1 : Nat} {a b : Nat → Nat} {hs sl : Nat → Nat → Nat} {T U : zTr} {x : zDd} {z : zPd} {y : zHs} {s : zSl} {Dd c : Int}
set_option maxHeartbeats 4000000 in
set_option maxRecDepth 100000 in
theorem ref_b (C : zO E cL_refused 3 "SwingUnitsLaw" rm_2 cy l D) (hG : GI Dd c T) (hO : LO T z y s) (hcc : c + 1 ≤ 400) (hD : Dd + 61 ≤ 100000) (hu0 : uAll T = 0) (hl0 : lI T = 0) (hc0 : cI T = 0) (hen : gLd_ended (gTr_la T) = false) (hz : gPd_n z = 0) (hsv : gSl_sv s 0 = 0) (hy0 : gHs_count y = 0) (hret : ∀ (L : List (Nat × Value)) (U' : zTr) (x' : zDd) (z' : zPd) (y' : zHs), LO T z' y' s → zJ E 3 0 0 (([] : List va_W) ++ LB cy x0 x1 x2 d0 d1 p0 p1 h0 h1 a b hs sl T U' x' z' y' s).flatten 429 L [.int (jI 1)]) {wv : Int} (hw : wv < -1000 ∨ 1000000 < wv) (hr : r32 wv) : zJ E 3 0 0 (([] : List va_W) ++ LB cy x0 x1 x2 d0 d1 p0 p1 h0 h1 a b hs sl T U x z y s).flatten 35 [(2, .int (jI wv)), (0, .ref x0)] [] := by
  have hrr := hr
  obtain ⟨hr1, hr2⟩ := hrr
  obtain ⟨-, -, ⟨rq1, rq2⟩, -, -, -, ⟨rp1, rp2⟩, -, -, ⟨rb1, rb2⟩, ⟨rs1, rs2⟩, ⟨rw1, rw2⟩⟩ := GI_r hG
  obtain ⟨-, -, -, -, ⟨rt1, rt2⟩⟩ := GI_s hG
  obtain ⟨⟨h1_, h2_, h3_, h4_, h5_⟩, ⟨h6_, h7_⟩, -⟩ := GI_h hG (i := 0) (by decide)
  have hnl : gOd_n (gTr_le T) < 20 := by
    by_cases q : gOd_n (gTr_le T) = 0
    · omega
    · exfalso
      have e := hG.1.2.2.1.2.1 0 (by omega)
      have g := sS_ge hG.1.2.2.1 (fr := 0) (to := gOd_n (gTr_le T)) (i := 0) (by omega) (by omega) (Nat.le_refl _)
      omega
  have fx49 : f_X6_changeSetting T (jI 0) (jI wv) = (jI (-2), T) := rf_set2 hw hr (k := 0) (by decide)
  have fx60 : f_X6_changeSetting T (jI 1) (jI wv) = (jI (-2), T) := rf_set2 hw hr (k := 1) (by decide)
  have fx130 : f_X6_orderToLeave T (jI 0) (jI 1) (jI 0) = (jI (-5), T) := ((leave_sp hG hcc (i := 0) (by decide) (a := 1) (v := 0) ⟨by decide, by decide⟩ ⟨by decide, by decide⟩).2.1 hnl (by omega)).trans rfl
  have fx151 : f_X6_exitInKind T (jI 0) (jI 0) = (jI (-2), T) := by unfold f_X6_exitInKind; rw [show f_X7_isHolder (jI 0) = true from isH (i := 0) (by decide)]; rfl
  have fx162 : f_X6_exitInKind T (jI 0) (jI 1) = (jI (-5), T) := ((kind_sp hG hcc (i := 0) (by decide) (a := 1) ⟨by decide, by decide⟩).1 (by omega)).trans rfl
  have fx192 : f_X6_tradeLots T (jI 0) = (jI (-2), T) := rfl
  have fx202 : f_X6_tradeLots T (jI 1) = (jI (-5), T) := ((trade_sp hG hcc (b := 1) ⟨by decide, by decide⟩ (by decide)).2.1 (by omega) (Or.inr ⟨by decide, by have e : coI T 1 = 1 * (qI T + (qI T * sI T 4 + 999) / 1000) := rfl; obtain ⟨f1, f2, f3, f4, f5⟩ := feI_r hG; unfold feI at f3; omega⟩)).trans rfl
  have fx222 : f_X6_takeIncome T (jI 1) = (jI (-5), T) := ((income_sp hG hcc (v := 1) ⟨by decide, by decide⟩).1 hu0).trans rfl
  have fxla : f_X7_lastDay T (jI 0) = jI (-6) := by
    have e : f_X7_lastDay T (jI 0) = if gLd_ended (gTr_la T) = false then (-6) else (gLd_made (gTr_la T)).toInt32 := rfl
    rw [e, if_pos hen]; rfl
  have fxp1 : ∀ {x x1 : zDd} {r : Int64}, f_X7_price T x (jI wv) = (r, x1) → r = jL (-2) := fun {x x1 r} e => by rw [rf_pr hw hr] at e; exact (Prod.mk.inj e).1.symm
  have fxp2 : ∀ {x x1 : zDd} {r : Int64}, f_X7_price T x (jI 2) = (r, x1) → r = jL (-6) := fun {x x1 r} e => by rw [vp_2 hG e]; unfold lpI; rw [if_pos hen]
  have hS0 : hS (gTr_le T) 0 = 0 := by omega
  have fxput : f_X7_put z (jL 0) = (jI (-2), z) := by unfold f_X7_put; rw [show f_X5_countCharacters (jL 0) = 0 by decide +kernel]; rfl
  obtain ⟨z2, ef, ez, eg⟩ := fault_0 hz
  refine zj_aload_n C dL_refused_35 1 rfl ?_
  refine zj_iload_n C dL_refused_36 0 rfl ?_
  refine ij_iconst C dL_refused_37 ?_
  have eX1 : f_X7_set T y (jI wv) (jI 1) = (jI (-2), T, hist2 y T (jI (-2))) := by rw [X7_set, rf_set1 hw hr]
  have hO1 := LO_op hG hO hG (jI (-2))
  have hc1 := (count_no (y := y) (t := T) (r := jI (-2)) (by decide)).trans hy0
  obtain ⟨y1, ey1⟩ : ∃ q, q = hist2 y T (jI (-2)) := ⟨_, rfl⟩
  rw [← ey1] at eX1 hO1 hc1
  refine lc_set C ⟨Nat.le_of_ble_eq_true rfl, Nat.le_of_ble_eq_true rfl⟩ ⟨Nat.le_of_ble_eq_true rfl, Nat.le_of_ble_eq_true rfl⟩ hO ([] : List va_W) (jI wv) (jI 1) (Nat.le_of_ble_eq_true rfl) dL_refused_38 (fun r_ T_ y_ e_ => ?_)
  cases (eX1.symm.trans e_)
  refine ij_bipush C dL_refused_41 (by decide) ?_
  refine ij_icmp_ne C 428 dL_refused_43 (by decide) ⟨by decide, by decide⟩ ⟨by decide, by decide⟩ (fun h => False.elim (by omega)) (fun _ => ?_)
  refine zj_aload_n C dL_refused_46 1 rfl ?_
  refine ij_iconst C dL_refused_47 ?_
  refine zj_iload_n C dL_refused_48 0 rfl ?_
  have eX2 : f_X7_set T y1 (jI 0) (jI wv) = (jI (-2), T, hist2 y1 T (jI (-2))) := by rw [X7_set, fx49]
  have hO2 := LO_op hG hO1 hG (jI (-2))
  have hc2 := (count_no (y := y1) (t := T) (r := jI (-2)) (by decide)).trans hc1
  obtain ⟨y2, ey2⟩ : ∃ q, q = hist2 y1 T (jI (-2)) := ⟨_, rfl⟩
  rw [← ey2] at eX2 hO2 hc2
  refine lc_set C ⟨Nat.le_of_ble_eq_true rfl, Nat.le_of_ble_eq_true rfl⟩ ⟨Nat.le_of_ble_eq_true rfl, Nat.le_of_ble_eq_true rfl⟩ hO1 ([] : List va_W) (jI 0) (jI wv) (Nat.le_of_ble_eq_true rfl) dL_refused_49 (fun r_ T_ y_ e_ => ?_)
  cases (eX2.symm.trans e_)
  refine ij_bipush C dL_refused_52 (by decide) ?_
  refine ij_icmp_ne C 428 dL_refused_54 (by decide) ⟨by decide, by decide⟩ ⟨by decide, by decide⟩ (fun h => False.elim (by omega)) (fun _ => ?_)
  refine zj_aload_n C dL_refused_57 1 rfl ?_
  refine ij_iconst C dL_refused_58 ?_
  refine zj_iload_n C dL_refused_59 0 rfl ?_
  have eX3 : f_X7_set T y2 (jI 1) (jI wv) = (jI (-2), T, hist2 y2 T (jI (-2))) := by rw [X7_set, fx60]
  have hO3 := LO_op hG hO2 hG (jI (-2))
  have hc3 := (count_no (y := y2) (t := T) (r := jI (-2)) (by decide)).trans hc2
  obtain ⟨y3, ey3⟩ : ∃ q, q = hist2 y2 T (jI (-2)) := ⟨_, rfl⟩
  rw [← ey3] at eX3 hO3 hc3
  refine lc_set C ⟨Nat.le_of_ble_eq_true rfl, Nat.le_of_ble_eq_true rfl⟩ ⟨Nat.le_of_ble_eq_true rfl, Nat.le_of_ble_eq_true rfl⟩ hO2 ([] : List va_W) (jI 1) (jI wv) (Nat.le_of_ble_eq_true rfl) dL_refused_60 (fun r_ T_ y_ e_ => ?_)
  cases (eX3.symm.trans e_)
  refine ij_bipush C dL_refused_63 (by decide) ?_
  refine ij_icmp_ne C 428 dL_refused_65 (by decide) ⟨by decide, by decide⟩ ⟨by decide, by decide⟩ (fun h => False.elim (by omega)) (fun _ => ?_)
  refine zj_aload_n C dL_refused_68 1 rfl ?_
  refine zj_iload_n C dL_refused_69 0 rfl ?_
  refine ij_iconst C dL_refused_70 ?_
  refine ij_iconst C dL_refused_71 ?_
  have eX4 : f_X7_buy T y3 (jI wv) (jI 1) (jI 0) = (jI (-1), T, hist2 y3 T (jI (-1))) := by rw [X7_buy, rf_buy1 hw hr]
  have hO4 := LO_op hG hO3 hG (jI (-1))
  have hc4 := (count_no (y := y3) (t := T) (r := jI (-1)) (by decide)).trans hc3
  obtain ⟨y4, ey4⟩ : ∃ q, q = hist2 y3 T (jI (-1)) := ⟨_, rfl⟩
  rw [← ey4] at eX4 hO4 hc4
  refine lc_buy C ⟨Nat.le_of_ble_eq_true rfl, Nat.le_of_ble_eq_true rfl⟩ ⟨Nat.le_of_ble_eq_true rfl, Nat.le_of_ble_eq_true rfl⟩ hO3 ([] : List va_W) (jI wv) (jI 1) (jI 0) (Nat.le_of_ble_eq_true rfl) dL_refused_72 (fun r_ T_ y_ e_ => ?_)
  cases (eX4.symm.trans e_)
  refine ij_iconst C dL_refused_75 ?_
  refine ij_icmp_ne C 428 dL_refused_76 (by decide) ⟨by decide, by decide⟩ ⟨by decide, by decide⟩ (fun h => False.elim (by omega)) (fun _ => ?_)
  refine zj_aload_n C dL_refused_79 1 rfl ?_
  refine ij_iconst C dL_refused_80 ?_
  refine zj_iload_n C dL_refused_81 0 rfl ?_
  refine ij_iconst C dL_refused_82 ?_
  have eX5 : f_X7_buy T y4 (jI 0) (jI wv) (jI 0) = (jI (-2), T, hist2 y4 T (jI (-2))) := by rw [X7_buy, rf_buy2 hw hr]
  have hO5 := LO_op hG hO4 hG (jI (-2))
  have hc5 := (count_no (y := y4) (t := T) (r := jI (-2)) (by decide)).trans hc4
  obtain ⟨y5, ey5⟩ : ∃ q, q = hist2 y4 T (jI (-2)) := ⟨_, rfl⟩
  rw [← ey5] at eX5 hO5 hc5
  refine lc_buy C ⟨Nat.le_of_ble_eq_true rfl, Nat.le_of_ble_eq_true rfl⟩ ⟨Nat.le_of_ble_eq_true rfl, Nat.le_of_ble_eq_true rfl⟩ hO4 ([] : List va_W) (jI 0) (jI wv) (jI 0) (Nat.le_of_ble_eq_true rfl) dL_refused_83 (fun r_ T_ y_ e_ => ?_)
  cases (eX5.symm.trans e_)
  refine ij_bipush C dL_refused_86 (by decide) ?_
  refine ij_icmp_ne C 428 dL_refused_88 (by decide) ⟨by decide, by decide⟩ ⟨by decide, by decide⟩ (fun h => False.elim (by omega)) (fun _ => ?_)
  refine zj_aload_n C dL_refused_91 1 rfl ?_
  refine ij_iconst C dL_refused_92 ?_
  refine ij_iconst C dL_refused_93 ?_
  refine zj_iload_n C dL_refused_94 0 rfl ?_
  have eX6 : f_X7_buy T y5 (jI 0) (jI 1) (jI wv) = (jI (-2), T, hist2 y5 T (jI (-2))) := by rw [X7_buy, rf_buy3 hw hr]
  have hO6 := LO_op hG hO5 hG (jI (-2))
  have hc6 := (count_no (y := y5) (t := T) (r := jI (-2)) (by decide)).trans hc5
  obtain ⟨y6, ey6⟩ : ∃ q, q = hist2 y5 T (jI (-2)) := ⟨_, rfl⟩
  rw [← ey6] at eX6 hO6 hc6
  refine lc_buy C ⟨Nat.le_of_ble_eq_true rfl, Nat.le_of_ble_eq_true rfl⟩ ⟨Nat.le_of_ble_eq_true rfl, Nat.le_of_ble_eq_true rfl⟩ hO5 ([] : List va_W) (jI 0) (jI 1) (jI wv) (Nat.le_of_ble_eq_true rfl) dL_refused_95 (fun r_ T_ y_ e_ => ?_)
  cases (eX6.symm.trans e_)
  refine ij_bipush C dL_refused_98 (by decide) ?_
  refine ij_icmp_ne C 428 dL_refused_100 (by decide) ⟨by decide, by decide⟩ ⟨by decide, by decide⟩ (fun h => False.elim (by omega)) (fun _ => ?_)
  refine zj_aload_n C dL_refused_103 1 rfl ?_
  refine zj_iload_n C dL_refused_104 0 rfl ?_
  refine ij_iconst C dL_refused_105 ?_
  refine ij_iconst C dL_refused_106 ?_
  have eX7 : f_X7_leave T y6 (jI wv) (jI 1) (jI 0) = (jI (-1), T, hist2 y6 T (jI (-1))) := by rw [X7_leave, rf_lv1 hw hr]
  have hO7 := LO_op hG hO6 hG (jI (-1))
  have hc7 := (count_no (y := y6) (t := T) (r := jI (-1)) (by decide)).trans hc6
  obtain ⟨y7, ey7⟩ : ∃ q, q = hist2 y6 T (jI (-1)) := ⟨_, rfl⟩
  rw [← ey7] at eX7 hO7 hc7
  refine lc_leave C ⟨Nat.le_of_ble_eq_true rfl, Nat.le_of_ble_eq_true rfl⟩ ⟨Nat.le_of_ble_eq_true rfl, Nat.le_of_ble_eq_true rfl⟩ hO6 ([] : List va_W) (jI wv) (jI 1) (jI 0) (Nat.le_of_ble_eq_true rfl) dL_refused_107 (fun r_ T_ y_ e_ => ?_)
  cases (eX7.symm.trans e_)
  refine ij_iconst C dL_refused_110 ?_
  refine ij_icmp_ne C 428 dL_refused_111 (by decide) ⟨by decide, by decide⟩ ⟨by decide, by decide⟩ (fun h => False.elim (by omega)) (fun _ => ?_)
  refine zj_aload_n C dL_refused_114 1 rfl ?_
  refine ij_iconst C dL_refused_115 ?_
  refine ij_iconst C dL_refused_116 ?_
  refine zj_iload_n C dL_refused_117 0 rfl ?_
  have eX8 : f_X7_leave T y7 (jI 0) (jI 1) (jI wv) = (jI (-2), T, hist2 y7 T (jI (-2))) := by rw [X7_leave, rf_lv2 hw hr]
  have hO8 := LO_op hG hO7 hG (jI (-2))
  have hc8 := (count_no (y := y7) (t := T) (r := jI (-2)) (by decide)).trans hc7
  obtain ⟨y8, ey8⟩ : ∃ q, q = hist2 y7 T (jI (-2)) := ⟨_, rfl⟩
  rw [← ey8] at eX8 hO8 hc8
  refine lc_leave C ⟨Nat.le_of_ble_eq_true rfl, Nat.le_of_ble_eq_true rfl⟩ ⟨Nat.le_of_ble_eq_true rfl, Nat.le_of_ble_eq_true rfl⟩ hO7 ([] : List va_W) (jI 0) (jI 1) (jI wv) (Nat.le_of_ble_eq_true rfl) dL_refused_118 (fun r_ T_ y_ e_ => ?_)
  cases (eX8.symm.trans e_)
  refine ij_bipush C dL_refused_121 (by decide) ?_
  refine ij_icmp_ne C 428 dL_refused_123 (by decide) ⟨by decide, by decide⟩ ⟨by decide, by decide⟩ (fun h => False.elim (by omega)) (fun _ => ?_)
  refine zj_aload_n C dL_refused_126 1 rfl ?_
  refine ij_iconst C dL_refused_127 ?_
  refine ij_iconst C dL_refused_128 ?_
  refine ij_iconst C dL_refused_129 ?_
  have eX9 : f_X7_leave T y8 (jI 0) (jI 1) (jI 0) = (jI (-5), T, hist2 y8 T (jI (-5))) := by rw [X7_leave, fx130]
  have hO9 := LO_op hG hO8 hG (jI (-5))
  have hc9 := (count_no (y := y8) (t := T) (r := jI (-5)) (by decide)).trans hc8
  obtain ⟨y9, ey9⟩ : ∃ q, q = hist2 y8 T (jI (-5)) := ⟨_, rfl⟩
  rw [← ey9] at eX9 hO9 hc9
  refine lc_leave C ⟨Nat.le_of_ble_eq_true rfl, Nat.le_of_ble_eq_true rfl⟩ ⟨Nat.le_of_ble_eq_true rfl, Nat.le_of_ble_eq_true rfl⟩ hO8 ([] : List va_W) (jI 0) (jI 1) (jI 0) (Nat.le_of_ble_eq_true rfl) dL_refused_130 (fun r_ T_ y_ e_ => ?_)
  cases (eX9.symm.trans e_)
  refine ij_bipush C dL_refused_133 (by decide) ?_
  refine ij_icmp_ne C 428 dL_refused_135 (by decide) ⟨by decide, by decide⟩ ⟨by decide, by decide⟩ (fun h => False.elim (by omega)) (fun _ => ?_)
  refine zj_aload_n C dL_refused_138 1 rfl ?_
  refine zj_iload_n C dL_refused_139 0 rfl ?_
  refine ij_iconst C dL_refused_140 ?_
  have eX10 : f_X7_inKind T y9 (jI wv) (jI 1) = (jI (-1), T, hist2 y9 T (jI (-1))) := by rw [X7_inKind, rf_kd1 hw hr]
  have hO10 := LO_op hG hO9 hG (jI (-1))
  have hc10 := (count_no (y := y9) (t := T) (r := jI (-1)) (by decide)).trans hc9
  obtain ⟨y10, ey10⟩ : ∃ q, q = hist2 y9 T (jI (-1)) := ⟨_, rfl⟩
  rw [← ey10] at eX10 hO10 hc10
  refine lc_inKind C ⟨Nat.le_of_ble_eq_true rfl, Nat.le_of_ble_eq_true rfl⟩ ⟨Nat.le_of_ble_eq_true rfl, Nat.le_of_ble_eq_true rfl⟩ hO9 ([] : List va_W) (jI wv) (jI 1) (Nat.le_of_ble_eq_true rfl) dL_refused_141 (fun r_ T_ y_ e_ => ?_)
  cases (eX10.symm.trans e_)
  refine ij_iconst C dL_refused_144 ?_
  refine ij_icmp_ne C 428 dL_refused_145 (by decide) ⟨by decide, by decide⟩ ⟨by decide, by decide⟩ (fun h => False.elim (by omega)) (fun _ => ?_)
  refine zj_aload_n C dL_refused_148 1 rfl ?_
  refine ij_iconst C dL_refused_149 ?_
  refine ij_iconst C dL_refused_150 ?_
  have eX11 : f_X7_inKind T y10 (jI 0) (jI 0) = (jI (-2), T, hist2 y10 T (jI (-2))) := by rw [X7_inKind, fx151]
  have hO11 := LO_op hG hO10 hG (jI (-2))
  have hc11 := (count_no (y := y10) (t := T) (r := jI (-2)) (by decide)).trans hc10
  obtain ⟨y11, ey11⟩ : ∃ q, q = hist2 y10 T (jI (-2)) := ⟨_, rfl⟩
  rw [← ey11] at eX11 hO11 hc11
  refine lc_inKind C ⟨Nat.le_of_ble_eq_true rfl, Nat.le_of_ble_eq_true rfl⟩ ⟨Nat.le_of_ble_eq_true rfl, Nat.le_of_ble_eq_true rfl⟩ hO10 ([] : List va_W) (jI 0) (jI 0) (Nat.le_of_ble_eq_true rfl) dL_refused_151 (fun r_ T_ y_ e_ => ?_)
  cases (eX11.symm.trans e_)
  refine ij_bipush C dL_refused_154 (by decide) ?_
  refine ij_icmp_ne C 428 dL_refused_156 (by decide) ⟨by decide, by decide⟩ ⟨by decide, by decide⟩ (fun h => False.elim (by omega)) (fun _ => ?_)
  refine zj_aload_n C dL_refused_159 1 rfl ?_
  refine ij_iconst C dL_refused_160 ?_
  refine ij_iconst C dL_refused_161 ?_
  have eX12 : f_X7_inKind T y11 (jI 0) (jI 1) = (jI (-5), T, hist2 y11 T (jI (-5))) := by rw [X7_inKind, fx162]
  have hO12 := LO_op hG hO11 hG (jI (-5))
  have hc12 := (count_no (y := y11) (t := T) (r := jI (-5)) (by decide)).trans hc11
  obtain ⟨y12, ey12⟩ : ∃ q, q = hist2 y11 T (jI (-5)) := ⟨_, rfl⟩
  rw [← ey12] at eX12 hO12 hc12
  refine lc_inKind C ⟨Nat.le_of_ble_eq_true rfl, Nat.le_of_ble_eq_true rfl⟩ ⟨Nat.le_of_ble_eq_true rfl, Nat.le_of_ble_eq_true rfl⟩ hO11 ([] : List va_W) (jI 0) (jI 1) (Nat.le_of_ble_eq_true rfl) dL_refused_162 (fun r_ T_ y_ e_ => ?_)
  cases (eX12.symm.trans e_)
  refine ij_bipush C dL_refused_165 (by decide) ?_
  refine ij_icmp_ne C 428 dL_refused_167 (by decide) ⟨by decide, by decide⟩ ⟨by decide, by decide⟩ (fun h => False.elim (by omega)) (fun _ => ?_)
  refine zj_aload_n C dL_refused_170 1 rfl ?_
  refine zj_iload_n C dL_refused_171 0 rfl ?_
  have eX13 : f_X7_quote T y12 (jI wv) = (jI (-2), T, hist2 y12 T (jI (-2))) := by rw [X7_quote, rf_qu hw hr]
  have hO13 := LO_op hG hO12 hG (jI (-2))
  have hc13 := (count_no (y := y12) (t := T) (r := jI (-2)) (by decide)).trans hc12
  obtain ⟨y13, ey13⟩ : ∃ q, q = hist2 y12 T (jI (-2)) := ⟨_, rfl⟩
  rw [← ey13] at eX13 hO13 hc13
  refine lc_quote C ⟨Nat.le_of_ble_eq_true rfl, Nat.le_of_ble_eq_true rfl⟩ ⟨Nat.le_of_ble_eq_true rfl, Nat.le_of_ble_eq_true rfl⟩ hO12 ([] : List va_W) (jI wv) (Nat.le_of_ble_eq_true rfl) dL_refused_172 (fun r_ T_ y_ e_ => ?_)
  cases (eX13.symm.trans e_)
  refine ij_bipush C dL_refused_175 (by decide) ?_
  refine ij_icmp_ne C 428 dL_refused_177 (by decide) ⟨by decide, by decide⟩ ⟨by decide, by decide⟩ (fun h => False.elim (by omega)) (fun _ => ?_)
  refine zj_aload_n C dL_refused_180 1 rfl ?_
  refine zj_iload_n C dL_refused_181 0 rfl ?_
  have eX14 : f_X7_trade T y13 (jI wv) = (jI (-2), T, hist2 y13 T (jI (-2))) := by rw [X7_trade, rf_tr hw hr]
  have hO14 := LO_op hG hO13 hG (jI (-2))
  have hc14 := (count_no (y := y13) (t := T) (r := jI (-2)) (by decide)).trans hc13
  obtain ⟨y14, ey14⟩ : ∃ q, q = hist2 y13 T (jI (-2)) := ⟨_, rfl⟩
  rw [← ey14] at eX14 hO14 hc14
  refine lc_trade C ⟨Nat.le_of_ble_eq_true rfl, Nat.le_of_ble_eq_true rfl⟩ ⟨Nat.le_of_ble_eq_true rfl, Nat.le_of_ble_eq_true rfl⟩ hO13 ([] : List va_W) (jI wv) (Nat.le_of_ble_eq_true rfl) dL_refused_182 (fun r_ T_ y_ e_ => ?_)
  cases (eX14.symm.trans e_)
  refine ij_bipush C dL_refused_185 (by decide) ?_
  refine ij_icmp_ne C 428 dL_refused_187 (by decide) ⟨by decide, by decide⟩ ⟨by decide, by decide⟩ (fun h => False.elim (by omega)) (fun _ => ?_)
  refine zj_aload_n C dL_refused_190 1 rfl ?_
  refine ij_iconst C dL_refused_191 ?_
  have eX15 : f_X7_trade T y14 (jI 0) = (jI (-2), T, hist2 y14 T (jI (-2))) := by rw [X7_trade, fx192]
  have hO15 := LO_op hG hO14 hG (jI (-2))
  have hc15 := (count_no (y := y14) (t := T) (r := jI (-2)) (by decide)).trans hc14
  obtain ⟨y15, ey15⟩ : ∃ q, q = hist2 y14 T (jI (-2)) := ⟨_, rfl⟩
  rw [← ey15] at eX15 hO15 hc15
  refine lc_trade C ⟨Nat.le_of_ble_eq_true rfl, Nat.le_of_ble_eq_true rfl⟩ ⟨Nat.le_of_ble_eq_true rfl, Nat.le_of_ble_eq_true rfl⟩ hO14 ([] : List va_W) (jI 0) (Nat.le_of_ble_eq_true rfl) dL_refused_192 (fun r_ T_ y_ e_ => ?_)
  cases (eX15.symm.trans e_)
  refine ij_bipush C dL_refused_195 (by decide) ?_
  refine ij_icmp_ne C 428 dL_refused_197 (by decide) ⟨by decide, by decide⟩ ⟨by decide, by decide⟩ (fun h => False.elim (by omega)) (fun _ => ?_)
  refine zj_aload_n C dL_refused_200 1 rfl ?_
  refine ij_iconst C dL_refused_201 ?_
  have eX16 : f_X7_trade T y15 (jI 1) = (jI (-5), T, hist2 y15 T (jI (-5))) := by rw [X7_trade, fx202]
  have hO16 := LO_op hG hO15 hG (jI (-5))
  have hc16 := (count_no (y := y15) (t := T) (r := jI (-5)) (by decide)).trans hc15
  obtain ⟨y16, ey16⟩ : ∃ q, q = hist2 y15 T (jI (-5)) := ⟨_, rfl⟩
  rw [← ey16] at eX16 hO16 hc16
  refine lc_trade C ⟨Nat.le_of_ble_eq_true rfl, Nat.le_of_ble_eq_true rfl⟩ ⟨Nat.le_of_ble_eq_true rfl, Nat.le_of_ble_eq_true rfl⟩ hO15 ([] : List va_W) (jI 1) (Nat.le_of_ble_eq_true rfl) dL_refused_202 (fun r_ T_ y_ e_ => ?_)
  cases (eX16.symm.trans e_)
  refine ij_bipush C dL_refused_205 (by decide) ?_
  refine ij_icmp_ne C 428 dL_refused_207 (by decide) ⟨by decide, by decide⟩ ⟨by decide, by decide⟩ (fun h => False.elim (by omega)) (fun _ => ?_)
  refine zj_aload_n C dL_refused_210 1 rfl ?_
  refine zj_iload_n C dL_refused_211 0 rfl ?_
  have eX17 : f_X7_income T y16 (jI wv) = (jI (-2), T, hist2 y16 T (jI (-2))) := by rw [X7_income, rf_in hw hr]
  have hO17 := LO_op hG hO16 hG (jI (-2))
  have hc17 := (count_no (y := y16) (t := T) (r := jI (-2)) (by decide)).trans hc16
  obtain ⟨y17, ey17⟩ : ∃ q, q = hist2 y16 T (jI (-2)) := ⟨_, rfl⟩
  rw [← ey17] at eX17 hO17 hc17
  refine lc_income C ⟨Nat.le_of_ble_eq_true rfl, Nat.le_of_ble_eq_true rfl⟩ ⟨Nat.le_of_ble_eq_true rfl, Nat.le_of_ble_eq_true rfl⟩ hO16 ([] : List va_W) (jI wv) (Nat.le_of_ble_eq_true rfl) dL_refused_212 (fun r_ T_ y_ e_ => ?_)
  cases (eX17.symm.trans e_)
  refine ij_bipush C dL_refused_215 (by decide) ?_
  refine ij_icmp_ne C 428 dL_refused_217 (by decide) ⟨by decide, by decide⟩ ⟨by decide, by decide⟩ (fun h => False.elim (by omega)) (fun _ => ?_)
  refine zj_aload_n C dL_refused_220 1 rfl ?_
  refine ij_iconst C dL_refused_221 ?_
  have eX18 : f_X7_income T y17 (jI 1) = (jI (-5), T, hist2 y17 T (jI (-5))) := by rw [X7_income, fx222]
  have hO18 := LO_op hG hO17 hG (jI (-5))
  have hc18 := (count_no (y := y17) (t := T) (r := jI (-5)) (by decide)).trans hc17
  obtain ⟨y18, ey18⟩ : ∃ q, q = hist2 y17 T (jI (-5)) := ⟨_, rfl⟩
  rw [← ey18] at eX18 hO18 hc18
  refine lc_income C ⟨Nat.le_of_ble_eq_true rfl, Nat.le_of_ble_eq_true rfl⟩ ⟨Nat.le_of_ble_eq_true rfl, Nat.le_of_ble_eq_true rfl⟩ hO17 ([] : List va_W) (jI 1) (Nat.le_of_ble_eq_true rfl) dL_refused_222 (fun r_ T_ y_ e_ => ?_)
  cases (eX18.symm.trans e_)
  refine ij_bipush C dL_refused_225 (by decide) ?_
  refine ij_icmp_ne C 428 dL_refused_227 (by decide) ⟨by decide, by decide⟩ ⟨by decide, by decide⟩ (fun h => False.elim (by omega)) (fun _ => ?_)
  refine zj_aload_n C dL_refused_230 1 rfl ?_
  refine zj_iload_n C dL_refused_231 0 rfl ?_
  refine ij_iconst C dL_refused_232 ?_
  refine lc_ofHolder C ⟨Nat.le_of_ble_eq_true rfl, Nat.le_of_ble_eq_true rfl⟩ ⟨Nat.le_of_ble_eq_true rfl, Nat.le_of_ble_eq_true rfl⟩ hO18 ([] : List va_W) (jI wv) (jI 0) (Nat.le_of_ble_eq_true rfl) dL_refused_233 (rf_ho1 hw hr) ?_
  refine ij_iconst C dL_refused_236 ?_
  refine ij_icmp_ne C 428 dL_refused_237 (by decide) ⟨by decide, by decide⟩ ⟨by decide, by decide⟩ (fun h => False.elim (by omega)) (fun _ => ?_)
  refine zj_aload_n C dL_refused_240 1 rfl ?_
  refine ij_iconst C dL_refused_241 ?_
  refine zj_iload_n C dL_refused_242 0 rfl ?_
  refine lc_ofHolder C ⟨Nat.le_of_ble_eq_true rfl, Nat.le_of_ble_eq_true rfl⟩ ⟨Nat.le_of_ble_eq_true rfl, Nat.le_of_ble_eq_true rfl⟩ hO18 ([] : List va_W) (jI 0) (jI wv) (Nat.le_of_ble_eq_true rfl) dL_refused_243 (rf_ho2 hw hr) ?_
  refine ij_bipush C dL_refused_246 (by decide) ?_
  refine ij_icmp_ne C 428 dL_refused_248 (by decide) ⟨by decide, by decide⟩ ⟨by decide, by decide⟩ (fun h => False.elim (by omega)) (fun _ => ?_)
  refine zj_aload_n C dL_refused_251 1 rfl ?_
  refine zj_iload_n C dL_refused_252 0 rfl ?_
  refine lc_count C ⟨Nat.le_of_ble_eq_true rfl, Nat.le_of_ble_eq_true rfl⟩ ⟨Nat.le_of_ble_eq_true rfl, Nat.le_of_ble_eq_true rfl⟩ hO18 ([] : List va_W) (jI wv) (Nat.le_of_ble_eq_true rfl) dL_refused_253 (rf_cnt hw hr _ _) ?_
  refine ij_bipush C dL_refused_256 (by decide) ?_
  refine ij_icmp_ne C 428 dL_refused_258 (by decide) ⟨by decide, by decide⟩ ⟨by decide, by decide⟩ (fun h => False.elim (by omega)) (fun _ => ?_)
  refine zj_aload_n C dL_refused_261 1 rfl ?_
  refine zj_iload_n C dL_refused_262 0 rfl ?_
  refine ij_iconst C dL_refused_263 ?_
  refine ij_iconst C dL_refused_264 ?_
  refine lc_order C ⟨Nat.le_of_ble_eq_true rfl, Nat.le_of_ble_eq_true rfl⟩ ⟨Nat.le_of_ble_eq_true rfl, Nat.le_of_ble_eq_true rfl⟩ hO18 ([] : List va_W) (jI wv) (jI 0) (jI 0) (Nat.le_of_ble_eq_true rfl) dL_refused_265 (rf_or1 hw hr) ?_
  refine ij_bipush C dL_refused_268 (by decide) ?_
  refine ij_icmp_ne C 428 dL_refused_270 (by decide) ⟨by decide, by decide⟩ ⟨by decide, by decide⟩ (fun h => False.elim (by omega)) (fun _ => ?_)
  refine zj_aload_n C dL_refused_273 1 rfl ?_
  refine ij_iconst C dL_refused_274 ?_
  refine zj_iload_n C dL_refused_275 0 rfl ?_
  refine ij_iconst C dL_refused_276 ?_
  refine lc_order C ⟨Nat.le_of_ble_eq_true rfl, Nat.le_of_ble_eq_true rfl⟩ ⟨Nat.le_of_ble_eq_true rfl, Nat.le_of_ble_eq_true rfl⟩ hO18 ([] : List va_W) (jI 0) (jI wv) (jI 0) (Nat.le_of_ble_eq_true rfl) dL_refused_277 (rf_or2 hw hr (by omega)) ?_
  refine ij_iconst C dL_refused_280 ?_
  refine ij_icmp_ne C 428 dL_refused_281 (by decide) ⟨by decide, by decide⟩ ⟨by decide, by decide⟩ (fun h => False.elim (by omega)) (fun _ => ?_)
  refine zj_aload_n C dL_refused_284 1 rfl ?_
  refine ij_iconst C dL_refused_285 ?_
  refine ij_iconst C dL_refused_286 ?_
  refine zj_iload_n C dL_refused_287 0 rfl ?_
  refine lc_order C ⟨Nat.le_of_ble_eq_true rfl, Nat.le_of_ble_eq_true rfl⟩ ⟨Nat.le_of_ble_eq_true rfl, Nat.le_of_ble_eq_true rfl⟩ hO18 ([] : List va_W) (jI 0) (jI 0) (jI wv) (Nat.le_of_ble_eq_true rfl) dL_refused_288 (rf_or3 hw hr) ?_
  refine ij_bipush C dL_refused_291 (by decide) ?_
  refine ij_icmp_ne C 428 dL_refused_293 (by decide) ⟨by decide, by decide⟩ ⟨by decide, by decide⟩ (fun h => False.elim (by omega)) (fun _ => ?_)
  refine zj_aload_n C dL_refused_296 1 rfl ?_
  refine zj_iload_n C dL_refused_297 0 rfl ?_
  refine lc_lastDay C ⟨Nat.le_of_ble_eq_true rfl, Nat.le_of_ble_eq_true rfl⟩ ⟨Nat.le_of_ble_eq_true rfl, Nat.le_of_ble_eq_true rfl⟩ hO18 ([] : List va_W) (jI wv) (Nat.le_of_ble_eq_true rfl) dL_refused_298 (rf_la hw hr) ?_
  refine ij_bipush C dL_refused_301 (by decide) ?_
  refine ij_icmp_ne C 428 dL_refused_303 (by decide) ⟨by decide, by decide⟩ ⟨by decide, by decide⟩ (fun h => False.elim (by omega)) (fun _ => ?_)
  refine zj_aload_n C dL_refused_306 1 rfl ?_
  refine ij_iconst C dL_refused_307 ?_
  refine lc_lastDay C ⟨Nat.le_of_ble_eq_true rfl, Nat.le_of_ble_eq_true rfl⟩ ⟨Nat.le_of_ble_eq_true rfl, Nat.le_of_ble_eq_true rfl⟩ hO18 ([] : List va_W) (jI 0) (Nat.le_of_ble_eq_true rfl) dL_refused_308 fxla ?_
  refine ij_bipush C dL_refused_311 (by decide) ?_
  refine ij_icmp_ne C 428 dL_refused_313 (by decide) ⟨by decide, by decide⟩ ⟨by decide, by decide⟩ (fun h => False.elim (by omega)) (fun _ => ?_)
  refine zj_aload_n C dL_refused_316 1 rfl ?_
  refine zj_iload_n C dL_refused_317 0 rfl ?_
  refine lc_price C ⟨Nat.le_of_ble_eq_true rfl, Nat.le_of_ble_eq_true rfl⟩ ⟨Nat.le_of_ble_eq_true rfl, Nat.le_of_ble_eq_true rfl⟩ hO18 ([] : List va_W) (jI wv) (Nat.le_of_ble_eq_true rfl) dL_refused_318 (fun r1_ x1_ e1_ => ?_)
  refine ij_l (-2) (fxp1 e1_) ?_
  refine zj_ldc2 C dL_refused_321 tgv_719 ?_
  refine ij_l (-2) (by decide) ?_
  refine ij_lcmp_ne C 428 dL_refused_324 dL_refused_325 (by decide) ⟨by decide, by decide⟩ ⟨by decide, by decide⟩ (fun h => False.elim (by omega)) (fun _ => ?_)
  refine zj_aload_n C dL_refused_328 1 rfl ?_
  refine ij_iconst C dL_refused_329 ?_
  refine lc_price C ⟨Nat.le_of_ble_eq_true rfl, Nat.le_of_ble_eq_true rfl⟩ ⟨Nat.le_of_ble_eq_true rfl, Nat.le_of_ble_eq_true rfl⟩ hO18 ([] : List va_W) (jI 2) (Nat.le_of_ble_eq_true rfl) dL_refused_330 (fun r2_ x2_ e2_ => ?_)
  refine ij_l (-6) (fxp2 e2_) ?_
  refine zj_ldc2 C dL_refused_333 tgv_720 ?_
  refine ij_l (-6) (by decide) ?_
  refine ij_lcmp_ne C 428 dL_refused_336 dL_refused_337 (by decide) ⟨by decide, by decide⟩ ⟨by decide, by decide⟩ (fun h => False.elim (by omega)) (fun _ => ?_)
  refine zj_aload_n C dL_refused_340 1 rfl ?_
  refine zj_iload_n C dL_refused_341 0 rfl ?_
  refine lc_exitIn C ⟨Nat.le_of_ble_eq_true rfl, Nat.le_of_ble_eq_true rfl⟩ ⟨Nat.le_of_ble_eq_true rfl, Nat.le_of_ble_eq_true rfl⟩ hO18 ([] : List va_W) (jI wv) (exit_hP hG hD) (Nat.le_of_ble_eq_true rfl) dL_refused_342 (fun r_ U_ x_ e_ => ?_)
  cases ((rf_ex hw hr U x2_).symm.trans e_)
  refine ij_iconst C dL_refused_345 ?_
  refine ij_icmp_ne C 428 dL_refused_346 (by decide) ⟨by decide, by decide⟩ ⟨by decide, by decide⟩ (fun h => False.elim (by omega)) (fun _ => ?_)
  refine zj_aload_n C dL_refused_349 1 rfl ?_
  refine ij_iconst C dL_refused_350 ?_
  have eXe : f_X7_exitIn T U x2_ (jI 0) = (jI 0, f_X6_become U T, x2_) := exit_0 hG (i := 0) (by decide) hS0 U x2_
  refine lc_exitIn C ⟨Nat.le_of_ble_eq_true rfl, Nat.le_of_ble_eq_true rfl⟩ ⟨Nat.le_of_ble_eq_true rfl, Nat.le_of_ble_eq_true rfl⟩ hO18 ([] : List va_W) (jI 0) (exit_hP hG hD) (Nat.le_of_ble_eq_true rfl) dL_refused_351 (fun r_ U_ x_ e_ => ?_)
  cases (eXe.symm.trans e_)
  refine ij_if_ne C 428 dL_refused_354 (by decide) ⟨by decide, by decide⟩ (fun h => False.elim (by omega)) (fun _ => ?_)
  refine zj_aload_n C dL_refused_357 1 rfl ?_
  refine zj_lconst C (v := jL 0) dL_refused_358 (by decide) ?_
  refine lc_put C ⟨Nat.le_of_ble_eq_true rfl, Nat.le_of_ble_eq_true rfl⟩ ⟨Nat.le_of_ble_eq_true rfl, Nat.le_of_ble_eq_true rfl⟩ hO18 ([] : List va_W) (jL 0) (Nat.le_of_ble_eq_true rfl) dL_refused_359 (fun r_ z_ e_ => ?_)
  cases (fxput.symm.trans e_)
  refine ij_bipush C dL_refused_362 (by decide) ?_
  refine ij_icmp_ne C 428 dL_refused_364 (by decide) ⟨by decide, by decide⟩ ⟨by decide, by decide⟩ (fun h => False.elim (by omega)) (fun _ => ?_)
  refine zj_aload_n C dL_refused_367 1 rfl ?_
  have eXc : f_X7_carryOut T x2_ z y18 = (jI (-3), T, x2_, z2, y18) := by unfold f_X7_carryOut; rw [zsl_e, ef]; rfl
  have hPc : ∃ P : zDd → zTr → zPd → Prop, P x2_ T (f_X5_start (f_X5_findFault z).2) ∧ ∀ X T Z, P X T Z → okT T ∧ ((f_X5_readOrder Z).1 = true → P (f_X7_carryOutOrder T X (f_X5_readOrder Z).2).2.2 (f_X7_carryOutOrder T X (f_X5_readOrder Z).2).2.1 (f_X5_skip (f_X5_readOrder Z).2 (nI 59)).2) := by
    refine ⟨fun _ T' Z => okT T' ∧ (f_X5_readOrder Z).1 = false, ⟨Inv_ok hG.1, ?_⟩, fun X T' Z h => ⟨h.1, fun q => by rw [h.2] at q; cases q⟩⟩
    rw [ef]
    have e : f_X5_signAt (f_X5_start z2) (gPd_at (f_X5_start z2)) = nI 0 := if_pos (by show gPd_n z2 ≤ 0; omega)
    unfold f_X5_readOrder
    rw [zsl_e]
    rw [e]
    rfl
  have hOc : LO T z2 y18 s := by obtain ⟨g1, g2, g3, g4, g5⟩ := hO18; exact ⟨g1, g2, g3, by omega, by rw [eg]; exact g5⟩
  refine lc_carryOut C ⟨Nat.le_of_ble_eq_true rfl, Nat.le_of_ble_eq_true rfl⟩ ⟨Nat.le_of_ble_eq_true rfl, Nat.le_of_ble_eq_true rfl⟩ hO18 ([] : List va_W)  hPc (Nat.le_of_ble_eq_true rfl) dL_refused_368 (fun r_ T_ x_ z_ y_ e_ => ?_)
  cases (eXc.symm.trans e_)
  refine ij_bipush C dL_refused_371 (by decide) ?_
  refine ij_icmp_ne C 428 dL_refused_373 (by decide) ⟨by decide, by decide⟩ ⟨by decide, by decide⟩ (fun h => False.elim (by omega)) (fun _ => ?_)
  refine zj_aload_n C dL_refused_376 1 rfl ?_
  refine zj_iload_n C dL_refused_377 0 rfl ?_
  refine lc_save C ⟨Nat.le_of_ble_eq_true rfl, Nat.le_of_ble_eq_true rfl⟩ ⟨Nat.le_of_ble_eq_true rfl, Nat.le_of_ble_eq_true rfl⟩ hOc ([] : List va_W) (jI wv) (Nat.le_of_ble_eq_true rfl) dL_refused_378 (fun r_ s_ e_ => ?_)
  cases ((rf_sv hw hr s).symm.trans e_)
  refine ij_bipush C dL_refused_381 (by decide) ?_
  refine ij_icmp_ne C 428 dL_refused_383 (by decide) ⟨by decide, by decide⟩ ⟨by decide, by decide⟩ (fun h => False.elim (by omega)) (fun _ => ?_)
  refine zj_aload_n C dL_refused_386 1 rfl ?_
  refine zj_iload_n C dL_refused_387 0 rfl ?_
  refine lc_restore C ⟨Nat.le_of_ble_eq_true rfl, Nat.le_of_ble_eq_true rfl⟩ ⟨Nat.le_of_ble_eq_true rfl, Nat.le_of_ble_eq_true rfl⟩ hOc ([] : List va_W) (jI wv) (Nat.le_of_ble_eq_true rfl) dL_refused_388 (fun r_ T_ y_ e_ => ?_)
  cases ((rf_re hw hr y18 s).symm.trans e_)
  refine ij_bipush C dL_refused_391 (by decide) ?_
  refine ij_icmp_ne C 428 dL_refused_393 (by decide) ⟨by decide, by decide⟩ ⟨by decide, by decide⟩ (fun h => False.elim (by omega)) (fun _ => ?_)
  refine zj_aload_n C dL_refused_396 1 rfl ?_
  refine ij_iconst C dL_refused_397 ?_
  have eXr : f_X7_restore T y18 s (jI 0) = (jI (-5), T, y18) := by unfold f_X7_restore; rw [if_neg (by decide), if_pos (by decide), show (jI 0).toNatClampNeg = 0 from rfl, if_pos hsv]; rfl
  refine lc_restore C ⟨Nat.le_of_ble_eq_true rfl, Nat.le_of_ble_eq_true rfl⟩ ⟨Nat.le_of_ble_eq_true rfl, Nat.le_of_ble_eq_true rfl⟩ hOc ([] : List va_W) (jI 0) (Nat.le_of_ble_eq_true rfl) dL_refused_398 (fun r_ T_ y_ e_ => ?_)
  cases (eXr.symm.trans e_)
  refine ij_bipush C dL_refused_401 (by decide) ?_
  refine ij_icmp_ne C 428 dL_refused_403 (by decide) ⟨by decide, by decide⟩ ⟨by decide, by decide⟩ (fun h => False.elim (by omega)) (fun _ => ?_)
  refine zj_aload_n C dL_refused_406 1 rfl ?_
  have eXu : f_X7_undo T y18 = (jI (-5), T, y18) := by unfold f_X7_undo; rw [if_pos hc18]; rfl
  refine lc_undo C ⟨Nat.le_of_ble_eq_true rfl, Nat.le_of_ble_eq_true rfl⟩ ⟨Nat.le_of_ble_eq_true rfl, Nat.le_of_ble_eq_true rfl⟩ hOc ([] : List va_W)  (Nat.le_of_ble_eq_true rfl) dL_refused_407 (fun r_ T_ y_ e_ => ?_)
  cases (eXu.symm.trans e_)
  refine ij_bipush C dL_refused_410 (by decide) ?_
  refine ij_icmp_ne C 428 dL_refused_412 (by decide) ⟨by decide, by decide⟩ ⟨by decide, by decide⟩ (fun h => False.elim (by omega)) (fun _ => ?_)
  refine zj_aload_n C dL_refused_415 1 rfl ?_
  refine ij_bipush C dL_refused_416 (by decide) ?_
  refine lc_count C ⟨Nat.le_of_ble_eq_true rfl, Nat.le_of_ble_eq_true rfl⟩ ⟨Nat.le_of_ble_eq_true rfl, Nat.le_of_ble_eq_true rfl⟩ hOc ([] : List va_W) (jI 18) (Nat.le_of_ble_eq_true rfl) dL_refused_418 ((vc_18 hG _ y18).trans (by rw [hc18]; try rfl)) ?_
  refine ij_if_ne C 428 dL_refused_421 (by decide) ⟨by decide, by decide⟩ (fun h => False.elim (by omega)) (fun _ => ?_)
  refine ij_iconst C dL_refused_424 ?_
  refine zj_goto C 429 dL_refused_425 (by decide) ?_
  exact hret _ _ _ _ _ hOc
set_option maxHeartbeats 4000000 in
set_option maxRecDepth 100000 in
theorem c_L_refused (l : Launch) (D : va_G) (cy : Nat → ClassId) (x0 x1 x2 d0 d1 p0 p1 h0 h1 : Nat) (a b : Nat → Nat) (hs sl : Nat → Nat → Nat) (T U : zTr) (x : zDd) (z : zPd) (y : zHs) (s : zSl) {Dd c : Int} (hG : GI Dd c T) (hO : LO T z y s) (hcc : c + 1 ≤ 400) (hD : Dd + 61 ≤ 100000) (hu0 : uAll T = 0) (hl0 : lI T = 0) (hc0 : cI T = 0) (hen : gLd_ended (gTr_la T) = false) (hz : gPd_n z = 0) (hsv : gSl_sv s 0 = 0) (hy0 : gHs_count y = 0) (v : Int32) : zM l yL_refused (zW yL_refused cL_refused 3 (Option.some Jvm.ClassFile.FieldType.boolean)) rm_2 D cy [.ref x0, .int v] (LB cy x0 x1 x2 d0 d1 p0 p1 h0 h1 a b hs sl T U x z y s).flatten (fun r w => r = some (.int (jI 1)) ∧ ∃ U' x' z' y', LO T z' y' s ∧ w = (LB cy x0 x1 x2 d0 d1 p0 p1 h0 h1 a b hs sl T U' x' z' y' s).flatten) 0 0 := by
  refine zM_of rfl (Nat.le_of_ble_eq_true rfl) (fun E C hret => ?_)
  have C : zO E cL_refused 3 "SwingUnitsLaw" rm_2 cy l D := C
  have hret' : ∀ (L : List (Nat × Value)) (U' : zTr) (x' : zDd) (z' : zPd) (y' : zHs), LO T z' y' s → zJ E 3 0 0 (([] : List va_W) ++ LB cy x0 x1 x2 d0 d1 p0 p1 h0 h1 a b hs sl T U' x' z' y' s).flatten 429 L [.int (jI 1)] := fun L U' x' z' y' g => hret _ _ (some (.int (jI 1))) _ ⟨rfl, U', x', z', y', g, rfl⟩ (zOk_z (Or.inr rfl)) dL_refused_429
  show zJ E 3 0 0 (([] : List va_W) ++ LB cy x0 x1 x2 d0 d1 p0 p1 h0 h1 a b hs sl T U x z y s).flatten 0 [(0, .ref x0), (1, .int v)] []
  refine zj_iload_n C dL_refused_0 1 rfl ?_
  refine ij_iconst C dL_refused_1 ?_
  refine ls_up C ⟨Nat.le_of_ble_eq_true rfl, Nat.le_of_ble_eq_true rfl⟩ ⟨Nat.le_of_ble_eq_true rfl, Nat.le_of_ble_eq_true rfl⟩ ⟨by decide, by decide⟩ (Nat.le_of_ble_eq_true rfl) dL_refused_2 (fun u1_ hu1_1 hu1_2 => ?_)
  refine ij_if_ne C 23 dL_refused_5 (by decide) ⟨by omega, by omega⟩ (fun hb => ?_) (fun hb => ?_)
  · skip
    refine zj_ldc C dL_refused_23 tgv_718 ?_
    refine ij_i 1000001 (by decide) ?_
    refine zj_iload_n C dL_refused_25 1 rfl ?_
    refine ij_iconst C dL_refused_26 ?_
    refine zj_ishr C dL_refused_27 (fun v27 => ?_)
    refine zj_ldc C dL_refused_28 tgv_717 ?_
    refine ij_i 1000000000 (by decide) ?_
    refine ls_up C ⟨Nat.le_of_ble_eq_true rfl, Nat.le_of_ble_eq_true rfl⟩ ⟨Nat.le_of_ble_eq_true rfl, Nat.le_of_ble_eq_true rfl⟩ ⟨by decide, by decide⟩ (Nat.le_of_ble_eq_true rfl) dL_refused_30 (fun u2_ hu2_1 hu2_2 => ?_)
    refine ij_iadd C dL_refused_33 ?_
    refine zj_istore_n C (L' := [(2, .int (jI (1000001 + u2_))), (0, .ref x0), (1, .int v)]) dL_refused_34 rfl (by decide) rfl ?_
    refine zj_sub (L' := [(2, .int (jI (1000001 + u2_))), (0, .ref x0)]) [0, 1] rfl ?_
    exact ref_b C hG hO hcc hD hu0 hl0 hc0 hen hz hsv hy0 hret' (by omega) ⟨by omega, by omega⟩
  · skip
    refine ij_sipush C dL_refused_8 (by decide) ?_
    refine zj_iload_n C dL_refused_11 1 rfl ?_
    refine ij_iconst C dL_refused_12 ?_
    refine zj_ishr C dL_refused_13 (fun v13 => ?_)
    refine zj_ldc C dL_refused_14 tgv_717 ?_
    refine ij_i 1000000000 (by decide) ?_
    refine ls_up C ⟨Nat.le_of_ble_eq_true rfl, Nat.le_of_ble_eq_true rfl⟩ ⟨Nat.le_of_ble_eq_true rfl, Nat.le_of_ble_eq_true rfl⟩ ⟨by decide, by decide⟩ (Nat.le_of_ble_eq_true rfl) dL_refused_16 (fun u3_ hu3_1 hu3_2 => ?_)
    refine ij_isub C dL_refused_19 ?_
    refine zj_goto C 34 dL_refused_20 (by decide) ?_
    refine zj_istore_n C (L' := [(2, .int (jI ((-1001) - u3_))), (0, .ref x0), (1, .int v)]) dL_refused_34 rfl (by decide) rfl ?_
    refine zj_sub (L' := [(2, .int (jI ((-1001) - u3_))), (0, .ref x0)]) [0, 1] rfl ?_
    exact ref_b C hG hO hcc hD hu0 hl0 hc0 hen hz hsv hy0 hret' (by omega) ⟨by omega, by omega⟩
end REF
