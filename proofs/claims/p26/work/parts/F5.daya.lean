/-! day: what is read first, and the price. Written by wip/p26/law5.py -/
abbrev rm_day : Room := { frames := 9, cells := 7, slots := 86, locals := 230 }
section DAYA
variable {E : zE} {cy : Nat → ClassId} {l : Launch} {D : va_G} {x0 x1 x2 d0 d1 p0 p1 h0 h1 : Nat} {a b : Nat → Nat} {hs sl : Nat → Nat → Nat} {T U : zTr} {x : zDd} {z : zPd} {y : zHs} {s : zSl} {Dd c : Int}
set_option maxHeartbeats 4000000 in
set_option maxRecDepth 100000 in
theorem day_a1 (C : zO E cL_day 37 "SwingUnitsLaw" rm_day cy l D) (hG : GI Dd c T) (hO : LO T z y s) {qa qu qp qb qs qn qw : Nat} {fa : Nat → Int} (kk : ∀ fu fp fb : Nat → Int, (∀ j, j < 6 → fu j = uU T j ∧ fp j = paI T j ∧ fb j = boI T j) → zJ E 37 7 86 (([IA cy qw 20 (fun _ => 0), LA cy qn 20 (fun _ => 0), LA cy qs 20 (fun _ => 0), LA cy qb 6 fb, LA cy qp 6 fp, LA cy qu 6 fu, LA cy qa 8 fa] : List va_W) ++ LB cy x0 x1 x2 d0 d1 p0 p1 h0 h1 a b hs sl T U x z y s).flatten 148 [(11, .int (jI (6 : Int))), (10, .ref qw), (9, .ref qn), (8, .ref qs), (7, .ref qb), (6, .ref qp), (5, .ref qu), (4, .ref qa), (3, .int (jI (gOd_n (gTr_bu T) : Int))), (2, .int (jI (gOd_n (gTr_le T) : Int))), (1, .int (jI (dI T))), (0, .ref x0)] []) : ∀ (m i : Nat) (fu fp fb : Nat → Int), i + m = 6 → (∀ j, j < i → fu j = uU T j ∧ fp j = paI T j ∧ fb j = boI T j) → zJ E 37 7 86 (([IA cy qw 20 (fun _ => 0), LA cy qn 20 (fun _ => 0), LA cy qs 20 (fun _ => 0), LA cy qb 6 fb, LA cy qp 6 fp, LA cy qu 6 fu, LA cy qa 8 fa] : List va_W) ++ LB cy x0 x1 x2 d0 d1 p0 p1 h0 h1 a b hs sl T U x z y s).flatten 96 [(11, .int (jI (i : Int))), (10, .ref qw), (9, .ref qn), (8, .ref qs), (7, .ref qb), (6, .ref qp), (5, .ref qu), (4, .ref qa), (3, .int (jI (gOd_n (gTr_bu T) : Int))), (2, .int (jI (gOd_n (gTr_le T) : Int))), (1, .int (jI (dI T))), (0, .ref x0)] [] := by
  intro m
  induction m with
  | zero =>
    intro i fu fp fb hi hf
    have ei : i = 6 := by omega
    subst ei
    refine zj_iload C dL_day_96 0 rfl ?_
    refine ij_bipush C dL_day_98 (by decide) ?_
    refine ij_icmp_ge C 148 dL_day_100 (by decide) ⟨by omega, by omega⟩ ⟨by decide, by decide⟩ (fun _ => ?_) (fun h => False.elim (by omega))
    exact kk fu fp fb hf
  | succ m ih =>
    intro i fu fp fb hi hf
    have h6 : i < 6 := by omega
    obtain ⟨⟨u1, u2, u3, u4, u5⟩, -, ⟨rb1, rb2⟩, ⟨rp1, rp2⟩, -⟩ := GI_h hG h6
    have ru := (GI_r hG).2.2.2.2.1
    refine zj_iload C dL_day_96 0 rfl ?_
    refine ij_bipush C dL_day_98 (by decide) ?_
    refine ij_icmp_ge C 148 dL_day_100 (by decide) ⟨by omega, by omega⟩ ⟨by decide, by decide⟩ (fun h => False.elim (by omega)) (fun _ => ?_)
    refine zj_aload C dL_day_103 6 rfl ?_
    refine zj_iload C dL_day_105 0 rfl ?_
    refine zj_aload_n C dL_day_107 11 rfl ?_
    refine zj_iload C dL_day_108 0 rfl ?_
    refine ij_iconst C dL_day_110 ?_
    refine lc_ofHolder C ⟨Nat.le_of_ble_eq_true rfl, Nat.le_of_ble_eq_true rfl⟩ ⟨Nat.le_of_ble_eq_true rfl, Nat.le_of_ble_eq_true rfl⟩ hO ([IA cy qw 20 (fun _ => 0), LA cy qn 20 (fun _ => 0), LA cy qs 20 (fun _ => 0), LA cy qb 6 fb, LA cy qp 6 fp, LA cy qu 6 fu, LA cy qa 8 fa] : List va_W) (jI (i : Int)) (jI 0) (Nat.le_of_ble_eq_true rfl) dL_day_111 (vh_0 hG h6) ?_
    refine ij_i2l C ⟨by omega, by omega⟩ dL_day_114 ?_
    refine ij_lastore C 5 (f := fu) (ws' := (([IA cy qw 20 (fun _ => 0), LA cy qn 20 (fun _ => 0), LA cy qs 20 (fun _ => 0), LA cy qb 6 fb, LA cy qp 6 fp, LA cy qu 6 (iup fu i (uU T i)), LA cy qa 8 fa] : List va_W) ++ LB cy x0 x1 x2 d0 d1 p0 p1 h0 h1 a b hs sl T U x z y s).flatten) i rfl (by omega) (by decide) rfl dL_day_115 rfl ?_
    refine zj_aload C dL_day_116 5 rfl ?_
    refine zj_iload C dL_day_118 0 rfl ?_
    refine zj_aload_n C dL_day_120 11 rfl ?_
    refine zj_iload C dL_day_121 0 rfl ?_
    refine ij_iconst C dL_day_123 ?_
    refine lc_ofHolder C ⟨Nat.le_of_ble_eq_true rfl, Nat.le_of_ble_eq_true rfl⟩ ⟨Nat.le_of_ble_eq_true rfl, Nat.le_of_ble_eq_true rfl⟩ hO ([IA cy qw 20 (fun _ => 0), LA cy qn 20 (fun _ => 0), LA cy qs 20 (fun _ => 0), LA cy qb 6 fb, LA cy qp 6 fp, LA cy qu 6 (iup fu i (uU T i)), LA cy qa 8 fa] : List va_W) (jI (i : Int)) (jI 5) (Nat.le_of_ble_eq_true rfl) dL_day_124 (vh_5 hG h6) ?_
    refine ij_i2l C ⟨by omega, by omega⟩ dL_day_127 ?_
    refine ij_lastore C 4 (f := fp) (ws' := (([IA cy qw 20 (fun _ => 0), LA cy qn 20 (fun _ => 0), LA cy qs 20 (fun _ => 0), LA cy qb 6 fb, LA cy qp 6 (iup fp i (paI T i)), LA cy qu 6 (iup fu i (uU T i)), LA cy qa 8 fa] : List va_W) ++ LB cy x0 x1 x2 d0 d1 p0 p1 h0 h1 a b hs sl T U x z y s).flatten) i rfl (by omega) (by decide) rfl dL_day_128 rfl ?_
    refine zj_aload C dL_day_129 4 rfl ?_
    refine zj_iload C dL_day_131 0 rfl ?_
    refine zj_aload_n C dL_day_133 11 rfl ?_
    refine zj_iload C dL_day_134 0 rfl ?_
    refine ij_iconst C dL_day_136 ?_
    refine lc_ofHolder C ⟨Nat.le_of_ble_eq_true rfl, Nat.le_of_ble_eq_true rfl⟩ ⟨Nat.le_of_ble_eq_true rfl, Nat.le_of_ble_eq_true rfl⟩ hO ([IA cy qw 20 (fun _ => 0), LA cy qn 20 (fun _ => 0), LA cy qs 20 (fun _ => 0), LA cy qb 6 fb, LA cy qp 6 (iup fp i (paI T i)), LA cy qu 6 (iup fu i (uU T i)), LA cy qa 8 fa] : List va_W) (jI (i : Int)) (jI 4) (Nat.le_of_ble_eq_true rfl) dL_day_137 (vh_4 hG h6) ?_
    refine ij_i2l C ⟨by omega, by omega⟩ dL_day_140 ?_
    refine ij_lastore C 3 (f := fb) (ws' := (([IA cy qw 20 (fun _ => 0), LA cy qn 20 (fun _ => 0), LA cy qs 20 (fun _ => 0), LA cy qb 6 (iup fb i (boI T i)), LA cy qp 6 (iup fp i (paI T i)), LA cy qu 6 (iup fu i (uU T i)), LA cy qa 8 fa] : List va_W) ++ LB cy x0 x1 x2 d0 d1 p0 p1 h0 h1 a b hs sl T U x z y s).flatten) i rfl (by omega) (by decide) rfl dL_day_141 rfl ?_
    refine ij_iinc C (j := 0) (L2 := [(11, .int (jI ((i + 1 : Nat) : Int))), (10, .ref qw), (9, .ref qn), (8, .ref qs), (7, .ref qb), (6, .ref qp), (5, .ref qu), (4, .ref qa), (3, .int (jI (gOd_n (gTr_bu T) : Int))), (2, .int (jI (gOd_n (gTr_le T) : Int))), (1, .int (jI (dI T))), (0, .ref x0)]) ((i + 1 : Nat) : Int) (by omega) dL_day_142 rfl (by decide) rfl ?_
    refine zj_goto C 96 dL_day_145 (by decide) ?_
    refine zj_sub (L' := [(11, .int (jI ((i + 1 : Nat) : Int))), (10, .ref qw), (9, .ref qn), (8, .ref qs), (7, .ref qb), (6, .ref qp), (5, .ref qu), (4, .ref qa), (3, .int (jI (gOd_n (gTr_bu T) : Int))), (2, .int (jI (gOd_n (gTr_le T) : Int))), (1, .int (jI (dI T))), (0, .ref x0)]) [0, 1, 2, 3, 4, 5, 6, 7, 8, 9, 10, 11] rfl ?_
    refine ih (i + 1) _ _ _ (by omega) (fun j hj => ?_)
    unfold iup
    by_cases ej : j = i
    · subst ej; rw [if_pos rfl, if_pos rfl, if_pos rfl]; exact ⟨rfl, rfl, rfl⟩
    · rw [if_neg ej, if_neg ej, if_neg ej]; exact hf j (by omega)
set_option maxHeartbeats 4000000 in
set_option maxRecDepth 100000 in
theorem day_a2 (C : zO E cL_day 37 "SwingUnitsLaw" rm_day cy l D) (hG : GI Dd c T) (hO : LO T z y s) {qa qu qp qb qs qn qw : Nat} {fa fu fp fb : Nat → Int} (kk : zJ E 37 7 86 (([IA cy qw 20 (fun _ => 0), LA cy qn 20 (fun _ => 0), LA cy qs 20 (fun _ => 0), LA cy qb 6 fb, LA cy qp 6 fp, LA cy qu 6 fu, LA cy qa 8 fa] : List va_W) ++ LB cy x0 x1 x2 d0 d1 p0 p1 h0 h1 a b hs sl T U x z y s).flatten 195 [(15, .int (jI (gOd_n (gTr_bu T) : Int))), (13, .long (jL 0)), (11, .long (jL (inS T))), (10, .ref qw), (9, .ref qn), (8, .ref qs), (7, .ref qb), (6, .ref qp), (5, .ref qu), (4, .ref qa), (3, .int (jI (gOd_n (gTr_bu T) : Int))), (2, .int (jI (gOd_n (gTr_le T) : Int))), (1, .int (jI (dI T))), (0, .ref x0)] []) : ∀ (m k : Nat), k + m = gOd_n (gTr_bu T) → zJ E 37 7 86 (([IA cy qw 20 (fun _ => 0), LA cy qn 20 (fun _ => 0), LA cy qs 20 (fun _ => 0), LA cy qb 6 fb, LA cy qp 6 fp, LA cy qu 6 fu, LA cy qa 8 fa] : List va_W) ++ LB cy x0 x1 x2 d0 d1 p0 p1 h0 h1 a b hs sl T U x z y s).flatten 157 [(15, .int (jI (k : Int))), (13, .long (jL 0)), (11, .long (jL (dueS (gTr_bu T) (dI T) k))), (10, .ref qw), (9, .ref qn), (8, .ref qs), (7, .ref qb), (6, .ref qp), (5, .ref qu), (4, .ref qa), (3, .int (jI (gOd_n (gTr_bu T) : Int))), (2, .int (jI (gOd_n (gTr_le T) : Int))), (1, .int (jI (dI T))), (0, .ref x0)] [] := by
  have rdI := (GI_r hG).2.2.2.2.2.2.2.2.1
  have rnb := (GI_r hG).2.2.2.2.2.2.2.2.2.1
  have rnl := (GI_r hG).2.2.2.2.2.2.2.2.2.2.1
  intro m
  induction m with
  | zero =>
    intro k hk
    have ek : k = gOd_n (gTr_bu T) := by omega
    subst ek
    refine zj_iload C dL_day_157 0 rfl ?_
    refine zj_iload_n C dL_day_159 10 rfl ?_
    refine ij_icmp_ge C 195 dL_day_160 (by decide) ⟨by omega, by omega⟩ ⟨by omega, by omega⟩ (fun _ => ?_) (fun h => False.elim (by omega))
    rw [inS_t hG]
    exact kk
  | succ m ih =>
    intro k hk
    have hkn : k < gOd_n (gTr_bu T) := by omega
    obtain ⟨⟨ra, rb⟩, ⟨rc, rd⟩, re, rf⟩ := GI_ob hG hkn
    refine zj_iload C dL_day_157 0 rfl ?_
    refine zj_iload_n C dL_day_159 10 rfl ?_
    refine ij_icmp_ge C 195 dL_day_160 (by decide) ⟨by omega, by omega⟩ ⟨by omega, by omega⟩ (fun h => False.elim (by omega)) (fun _ => ?_)
    refine zj_aload_n C dL_day_163 13 rfl ?_
    refine ij_iconst C dL_day_164 ?_
    refine zj_iload C dL_day_165 0 rfl ?_
    refine ij_iconst C dL_day_167 ?_
    refine lc_order C ⟨Nat.le_of_ble_eq_true rfl, Nat.le_of_ble_eq_true rfl⟩ ⟨Nat.le_of_ble_eq_true rfl, Nat.le_of_ble_eq_true rfl⟩ hO ([IA cy qw 20 (fun _ => 0), LA cy qn 20 (fun _ => 0), LA cy qs 20 (fun _ => 0), LA cy qb 6 fb, LA cy qp 6 fp, LA cy qu 6 fu, LA cy qa 8 fa] : List va_W) (jI 0) (jI (k : Int)) (jI 2) (Nat.le_of_ble_eq_true rfl) dL_day_168 (vo_02 hG hkn) ?_
    refine zj_iload_n C dL_day_171 12 rfl ?_
    have J : zJ E 37 7 86 (([IA cy qw 20 (fun _ => 0), LA cy qn 20 (fun _ => 0), LA cy qs 20 (fun _ => 0), LA cy qb 6 fb, LA cy qp 6 fp, LA cy qu 6 fu, LA cy qa 8 fa] : List va_W) ++ LB cy x0 x1 x2 d0 d1 p0 p1 h0 h1 a b hs sl T U x z y s).flatten 189 [(15, .int (jI (k : Int))), (13, .long (jL 0)), (11, .long (jL (dueS (gTr_bu T) (dI T) (k + 1)))), (10, .ref qw), (9, .ref qn), (8, .ref qs), (7, .ref qb), (6, .ref qp), (5, .ref qu), (4, .ref qa), (3, .int (jI (gOd_n (gTr_bu T) : Int))), (2, .int (jI (gOd_n (gTr_le T) : Int))), (1, .int (jI (dI T))), (0, .ref x0)] [] := by
      refine ij_iinc C (j := 0) (L2 := [(15, .int (jI ((k + 1 : Nat) : Int))), (13, .long (jL 0)), (11, .long (jL (dueS (gTr_bu T) (dI T) (k + 1)))), (10, .ref qw), (9, .ref qn), (8, .ref qs), (7, .ref qb), (6, .ref qp), (5, .ref qu), (4, .ref qa), (3, .int (jI (gOd_n (gTr_bu T) : Int))), (2, .int (jI (gOd_n (gTr_le T) : Int))), (1, .int (jI (dI T))), (0, .ref x0)]) ((k + 1 : Nat) : Int) (by omega) dL_day_189 rfl (by decide) rfl ?_
      refine zj_goto C 157 dL_day_192 (by decide) ?_
      refine zj_sub (L' := [(15, .int (jI ((k + 1 : Nat) : Int))), (13, .long (jL 0)), (11, .long (jL (dueS (gTr_bu T) (dI T) (k + 1)))), (10, .ref qw), (9, .ref qn), (8, .ref qs), (7, .ref qb), (6, .ref qp), (5, .ref qu), (4, .ref qa), (3, .int (jI (gOd_n (gTr_bu T) : Int))), (2, .int (jI (gOd_n (gTr_le T) : Int))), (1, .int (jI (dI T))), (0, .ref x0)]) [0, 1, 2, 3, 4, 5, 6, 7, 8, 9, 10, 11, 12, 13] rfl ?_
      exact ih (k + 1) (by omega)
    refine ij_icmp_gt C 189 dL_day_172 (by decide) ⟨by omega, by omega⟩ ⟨by omega, by omega⟩ (fun hb => ?_) (fun hb => ?_)
    · skip
      have e : dueS (gTr_bu T) (dI T) (k + 1) = dueS (gTr_bu T) (dI T) k := by rw [dueS_s, if_neg (by omega)]; omega
      rw [e] at J
      exact J
    · skip
      refine zj_lload C dL_day_175 2 rfl ?_
      refine zj_aload_n C dL_day_177 13 rfl ?_
      refine ij_iconst C dL_day_178 ?_
      refine zj_iload C dL_day_179 0 rfl ?_
      refine ij_iconst C dL_day_181 ?_
      refine lc_order C ⟨Nat.le_of_ble_eq_true rfl, Nat.le_of_ble_eq_true rfl⟩ ⟨Nat.le_of_ble_eq_true rfl, Nat.le_of_ble_eq_true rfl⟩ hO ([IA cy qw 20 (fun _ => 0), LA cy qn 20 (fun _ => 0), LA cy qs 20 (fun _ => 0), LA cy qb 6 fb, LA cy qp 6 fp, LA cy qu 6 fu, LA cy qa 8 fa] : List va_W) (jI 0) (jI (k : Int)) (jI 1) (Nat.le_of_ble_eq_true rfl) dL_day_182 (vo_01 hG hkn) ?_
      refine ij_i2l C ⟨by omega, by omega⟩ dL_day_185 ?_
      refine ij_ladd C dL_day_186 ?_
      refine ij_el (dueS (gTr_bu T) (dI T) (k + 1)) (by rw [dueS_s, if_pos (by omega)]) ?_
      refine zj_lstore C (L' := [(11, .long (jL (dueS (gTr_bu T) (dI T) (k + 1)))), (15, .int (jI (k : Int))), (13, .long (jL 0)), (10, .ref qw), (9, .ref qn), (8, .ref qs), (7, .ref qb), (6, .ref qp), (5, .ref qu), (4, .ref qa), (3, .int (jI (gOd_n (gTr_bu T) : Int))), (2, .int (jI (gOd_n (gTr_le T) : Int))), (1, .int (jI (dI T))), (0, .ref x0)]) dL_day_187 (by decide) rfl ?_
      refine zj_sub (L' := [(15, .int (jI (k : Int))), (13, .long (jL 0)), (11, .long (jL (dueS (gTr_bu T) (dI T) (k + 1)))), (10, .ref qw), (9, .ref qn), (8, .ref qs), (7, .ref qb), (6, .ref qp), (5, .ref qu), (4, .ref qa), (3, .int (jI (gOd_n (gTr_bu T) : Int))), (2, .int (jI (gOd_n (gTr_le T) : Int))), (1, .int (jI (dI T))), (0, .ref x0)]) [1, 2, 0, 3, 4, 5, 6, 7, 8, 9, 10, 11, 12, 13] rfl ?_
      exact J
set_option maxHeartbeats 4000000 in
set_option maxRecDepth 100000 in
theorem day_a3 (C : zO E cL_day 37 "SwingUnitsLaw" rm_day cy l D) (hG : GI Dd c T) (hO : LO T z y s) {qa qu qp qb qs qn qw : Nat} {fa fu fp fb : Nat → Int} (kk : ∀ fn fw : Nat → Int, (∀ j, j < gOd_n (gTr_le T) → fn j = oS (gTr_le T) j ∧ fw j = oH (gTr_le T) j) → zJ E 37 7 86 (([IA cy qw 20 fw, LA cy qn 20 fn, LA cy qs 20 (fun _ => 0), LA cy qb 6 fb, LA cy qp 6 fp, LA cy qu 6 fu, LA cy qa 8 fa] : List va_W) ++ LB cy x0 x1 x2 d0 d1 p0 p1 h0 h1 a b hs sl T U x z y s).flatten 259 [(15, .int (jI (gOd_n (gTr_le T) : Int))), (13, .long (jL (wI T))), (11, .long (jL (inS T))), (10, .ref qw), (9, .ref qn), (8, .ref qs), (7, .ref qb), (6, .ref qp), (5, .ref qu), (4, .ref qa), (3, .int (jI (gOd_n (gTr_bu T) : Int))), (2, .int (jI (gOd_n (gTr_le T) : Int))), (1, .int (jI (dI T))), (0, .ref x0)] []) : ∀ (m k : Nat) (fn fw : Nat → Int), k + m = gOd_n (gTr_le T) → (∀ j, j < k → fn j = oS (gTr_le T) j ∧ fw j = oH (gTr_le T) j) → zJ E 37 7 86 (([IA cy qw 20 fw, LA cy qn 20 fn, LA cy qs 20 (fun _ => 0), LA cy qb 6 fb, LA cy qp 6 fp, LA cy qu 6 fu, LA cy qa 8 fa] : List va_W) ++ LB cy x0 x1 x2 d0 d1 p0 p1 h0 h1 a b hs sl T U x z y s).flatten 198 [(15, .int (jI (k : Int))), (13, .long (jL (dueS (gTr_le T) (dI T) k))), (11, .long (jL (inS T))), (10, .ref qw), (9, .ref qn), (8, .ref qs), (7, .ref qb), (6, .ref qp), (5, .ref qu), (4, .ref qa), (3, .int (jI (gOd_n (gTr_bu T) : Int))), (2, .int (jI (gOd_n (gTr_le T) : Int))), (1, .int (jI (dI T))), (0, .ref x0)] [] := by
  have rdI := (GI_r hG).2.2.2.2.2.2.2.2.1
  have rnb := (GI_r hG).2.2.2.2.2.2.2.2.2.1
  have rnl := (GI_r hG).2.2.2.2.2.2.2.2.2.2.1
  intro m
  induction m with
  | zero =>
    intro k fn fw hk hf
    have ek : k = gOd_n (gTr_le T) := by omega
    subst ek
    refine zj_iload C dL_day_198 0 rfl ?_
    refine zj_iload_n C dL_day_200 11 rfl ?_
    refine ij_icmp_ge C 259 dL_day_201 (by decide) ⟨by omega, by omega⟩ ⟨by omega, by omega⟩ (fun _ => ?_) (fun h => False.elim (by omega))
    rw [wI_t hG]
    exact kk fn fw hf
  | succ m ih =>
    intro k fn fw hk hf
    have hkn : k < gOd_n (gTr_le T) := by omega
    obtain ⟨⟨ra, rb⟩, ⟨rc, rd⟩, re, rf⟩ := GI_ol hG hkn
    refine zj_iload C dL_day_198 0 rfl ?_
    refine zj_iload_n C dL_day_200 11 rfl ?_
    refine ij_icmp_ge C 259 dL_day_201 (by decide) ⟨by omega, by omega⟩ ⟨by omega, by omega⟩ (fun h => False.elim (by omega)) (fun _ => ?_)
    refine zj_aload C dL_day_204 4 rfl ?_
    refine zj_iload C dL_day_206 0 rfl ?_
    refine zj_aload_n C dL_day_208 13 rfl ?_
    refine ij_iconst C dL_day_209 ?_
    refine zj_iload C dL_day_210 0 rfl ?_
    refine ij_iconst C dL_day_212 ?_
    refine lc_order C ⟨Nat.le_of_ble_eq_true rfl, Nat.le_of_ble_eq_true rfl⟩ ⟨Nat.le_of_ble_eq_true rfl, Nat.le_of_ble_eq_true rfl⟩ hO ([IA cy qw 20 fw, LA cy qn 20 fn, LA cy qs 20 (fun _ => 0), LA cy qb 6 fb, LA cy qp 6 fp, LA cy qu 6 fu, LA cy qa 8 fa] : List va_W) (jI 1) (jI (k : Int)) (jI 1) (Nat.le_of_ble_eq_true rfl) dL_day_213 (vo_11 hG hkn) ?_
    refine ij_i2l C ⟨by omega, by omega⟩ dL_day_216 ?_
    refine ij_lastore C 1 (f := fn) (ws' := (([IA cy qw 20 fw, LA cy qn 20 (iup fn k (oS (gTr_le T) k)), LA cy qs 20 (fun _ => 0), LA cy qb 6 fb, LA cy qp 6 fp, LA cy qu 6 fu, LA cy qa 8 fa] : List va_W) ++ LB cy x0 x1 x2 d0 d1 p0 p1 h0 h1 a b hs sl T U x z y s).flatten) k rfl (by omega) (by decide) rfl dL_day_217 rfl ?_
    refine zj_aload C dL_day_218 3 rfl ?_
    refine zj_iload C dL_day_220 0 rfl ?_
    refine zj_aload_n C dL_day_222 13 rfl ?_
    refine ij_iconst C dL_day_223 ?_
    refine zj_iload C dL_day_224 0 rfl ?_
    refine ij_iconst C dL_day_226 ?_
    refine lc_order C ⟨Nat.le_of_ble_eq_true rfl, Nat.le_of_ble_eq_true rfl⟩ ⟨Nat.le_of_ble_eq_true rfl, Nat.le_of_ble_eq_true rfl⟩ hO ([IA cy qw 20 fw, LA cy qn 20 (iup fn k (oS (gTr_le T) k)), LA cy qs 20 (fun _ => 0), LA cy qb 6 fb, LA cy qp 6 fp, LA cy qu 6 fu, LA cy qa 8 fa] : List va_W) (jI 1) (jI (k : Int)) (jI 0) (Nat.le_of_ble_eq_true rfl) dL_day_227 (vo_10 hG hkn) ?_
    refine ij_iastore C 0 (f := fw) (ws' := (([IA cy qw 20 (iup fw k (oH (gTr_le T) k)), LA cy qn 20 (iup fn k (oS (gTr_le T) k)), LA cy qs 20 (fun _ => 0), LA cy qb 6 fb, LA cy qp 6 fp, LA cy qu 6 fu, LA cy qa 8 fa] : List va_W) ++ LB cy x0 x1 x2 d0 d1 p0 p1 h0 h1 a b hs sl T U x z y s).flatten) k rfl (by omega) (by decide) rfl dL_day_230 rfl ?_
    refine zj_aload_n C dL_day_231 13 rfl ?_
    refine ij_iconst C dL_day_232 ?_
    refine zj_iload C dL_day_233 0 rfl ?_
    refine ij_iconst C dL_day_235 ?_
    refine lc_order C ⟨Nat.le_of_ble_eq_true rfl, Nat.le_of_ble_eq_true rfl⟩ ⟨Nat.le_of_ble_eq_true rfl, Nat.le_of_ble_eq_true rfl⟩ hO ([IA cy qw 20 (iup fw k (oH (gTr_le T) k)), LA cy qn 20 (iup fn k (oS (gTr_le T) k)), LA cy qs 20 (fun _ => 0), LA cy qb 6 fb, LA cy qp 6 fp, LA cy qu 6 fu, LA cy qa 8 fa] : List va_W) (jI 1) (jI (k : Int)) (jI 2) (Nat.le_of_ble_eq_true rfl) dL_day_236 (vo_12 hG hkn) ?_
    refine zj_iload_n C dL_day_239 12 rfl ?_
    have J : zJ E 37 7 86 (([IA cy qw 20 (iup fw k (oH (gTr_le T) k)), LA cy qn 20 (iup fn k (oS (gTr_le T) k)), LA cy qs 20 (fun _ => 0), LA cy qb 6 fb, LA cy qp 6 fp, LA cy qu 6 fu, LA cy qa 8 fa] : List va_W) ++ LB cy x0 x1 x2 d0 d1 p0 p1 h0 h1 a b hs sl T U x z y s).flatten 253 [(15, .int (jI (k : Int))), (13, .long (jL (dueS (gTr_le T) (dI T) (k + 1)))), (11, .long (jL (inS T))), (10, .ref qw), (9, .ref qn), (8, .ref qs), (7, .ref qb), (6, .ref qp), (5, .ref qu), (4, .ref qa), (3, .int (jI (gOd_n (gTr_bu T) : Int))), (2, .int (jI (gOd_n (gTr_le T) : Int))), (1, .int (jI (dI T))), (0, .ref x0)] [] := by
      refine ij_iinc C (j := 0) (L2 := [(15, .int (jI ((k + 1 : Nat) : Int))), (13, .long (jL (dueS (gTr_le T) (dI T) (k + 1)))), (11, .long (jL (inS T))), (10, .ref qw), (9, .ref qn), (8, .ref qs), (7, .ref qb), (6, .ref qp), (5, .ref qu), (4, .ref qa), (3, .int (jI (gOd_n (gTr_bu T) : Int))), (2, .int (jI (gOd_n (gTr_le T) : Int))), (1, .int (jI (dI T))), (0, .ref x0)]) ((k + 1 : Nat) : Int) (by omega) dL_day_253 rfl (by decide) rfl ?_
      refine zj_goto C 198 dL_day_256 (by decide) ?_
      refine zj_sub (L' := [(15, .int (jI ((k + 1 : Nat) : Int))), (13, .long (jL (dueS (gTr_le T) (dI T) (k + 1)))), (11, .long (jL (inS T))), (10, .ref qw), (9, .ref qn), (8, .ref qs), (7, .ref qb), (6, .ref qp), (5, .ref qu), (4, .ref qa), (3, .int (jI (gOd_n (gTr_bu T) : Int))), (2, .int (jI (gOd_n (gTr_le T) : Int))), (1, .int (jI (dI T))), (0, .ref x0)]) [0, 1, 2, 3, 4, 5, 6, 7, 8, 9, 10, 11, 12, 13] rfl ?_
      refine ih (k + 1) _ _ (by omega) (fun j hj => ?_)
      unfold iup
      by_cases ej : j = k
      · subst ej; rw [if_pos rfl, if_pos rfl]; exact ⟨rfl, rfl⟩
      · rw [if_neg ej, if_neg ej]; exact hf j (by omega)
    refine ij_icmp_gt C 253 dL_day_240 (by decide) ⟨by omega, by omega⟩ ⟨by omega, by omega⟩ (fun hb => ?_) (fun hb => ?_)
    · skip
      have e : dueS (gTr_le T) (dI T) (k + 1) = dueS (gTr_le T) (dI T) k := by rw [dueS_s, if_neg (by omega)]; omega
      rw [e] at J
      exact J
    · skip
      refine zj_lload C dL_day_243 1 rfl ?_
      refine zj_aload C dL_day_245 4 rfl ?_
      refine zj_iload C dL_day_247 0 rfl ?_
      refine ij_laload C 1 (f := (iup fn k (oS (gTr_le T) k))) k rfl (by omega) (by decide) rfl dL_day_249 ?_
      refine ij_el (oS (gTr_le T) k) (iup_s _ _ _) ?_
      refine ij_ladd C dL_day_250 ?_
      refine ij_el (dueS (gTr_le T) (dI T) (k + 1)) (by rw [dueS_s, if_pos (by omega)]) ?_
      refine zj_lstore C (L' := [(13, .long (jL (dueS (gTr_le T) (dI T) (k + 1)))), (15, .int (jI (k : Int))), (11, .long (jL (inS T))), (10, .ref qw), (9, .ref qn), (8, .ref qs), (7, .ref qb), (6, .ref qp), (5, .ref qu), (4, .ref qa), (3, .int (jI (gOd_n (gTr_bu T) : Int))), (2, .int (jI (gOd_n (gTr_le T) : Int))), (1, .int (jI (dI T))), (0, .ref x0)]) dL_day_251 (by decide) rfl ?_
      refine zj_sub (L' := [(15, .int (jI (k : Int))), (13, .long (jL (dueS (gTr_le T) (dI T) (k + 1)))), (11, .long (jL (inS T))), (10, .ref qw), (9, .ref qn), (8, .ref qs), (7, .ref qb), (6, .ref qp), (5, .ref qu), (4, .ref qa), (3, .int (jI (gOd_n (gTr_bu T) : Int))), (2, .int (jI (gOd_n (gTr_le T) : Int))), (1, .int (jI (dI T))), (0, .ref x0)]) [1, 0, 2, 3, 4, 5, 6, 7, 8, 9, 10, 11, 12, 13] rfl ?_
      exact J
set_option maxHeartbeats 4000000 in
set_option maxRecDepth 100000 in
theorem day_a4 (C : zO E cL_day 37 "SwingUnitsLaw" rm_day cy l D) (hG : GI Dd c T) (hO : LO T z y s) {qa qu qp qb qs qn qw : Nat} {fa fu fp fb fn fw : Nat → Int} (ha : fa 2 = uAll T) (kk : ∀ x' : zDd, zJ E 37 7 86 (([IA cy qw 20 fw, LA cy qn 20 fn, LA cy qs 20 (fun _ => 0), LA cy qb 6 fb, LA cy qp 6 fp, LA cy qu 6 fu, LA cy qa 8 fa] : List va_W) ++ LB cy x0 x1 x2 d0 d1 p0 p1 h0 h1 a b hs sl T U x' z y s).flatten 494 [(26, .long (jL (pI T))), (25, .int (jI (2 + dirI T))), (17, .long (jL (aI T))), (13, .long (jL (wI T))), (10, .ref qw), (9, .ref qn), (8, .ref qs), (7, .ref qb), (6, .ref qp), (5, .ref qu), (4, .ref qa), (3, .int (jI (gOd_n (gTr_bu T) : Int))), (2, .int (jI (gOd_n (gTr_le T) : Int))), (1, .int (jI (dI T))), (0, .ref x0)] []) : zJ E 37 7 86 (([IA cy qw 20 fw, LA cy qn 20 fn, LA cy qs 20 (fun _ => 0), LA cy qb 6 fb, LA cy qp 6 fp, LA cy qu 6 fu, LA cy qa 8 fa] : List va_W) ++ LB cy x0 x1 x2 d0 d1 p0 p1 h0 h1 a b hs sl T U x z y s).flatten 259 [(15, .int (jI (gOd_n (gTr_le T) : Int))), (13, .long (jL (wI T))), (11, .long (jL (inS T))), (10, .ref qw), (9, .ref qn), (8, .ref qs), (7, .ref qb), (6, .ref qp), (5, .ref qu), (4, .ref qa), (3, .int (jI (gOd_n (gTr_bu T) : Int))), (2, .int (jI (gOd_n (gTr_le T) : Int))), (1, .int (jI (dI T))), (0, .ref x0)] [] := by
  obtain ⟨⟨w1, w2⟩, ⟨i1, i2⟩, ⟨g1, g2⟩, ⟨a1, a2, a3, a4, a5⟩, ⟨m1, m2⟩, ⟨am1, am2⟩, ⟨n0, n1, n2⟩, ⟨t1, t2⟩, ⟨dd1, dd2⟩, ⟨pp1, pp2⟩⟩ := day_nums hG
  obtain ⟨-, -, -, ⟨v1, v2, -⟩, ⟨u1, u2⟩, -⟩ := GI_r hG
  obtain ⟨-, s1, s2, s3, -⟩ := GI_s hG
  obtain ⟨dt0, dt1⟩ := dir_t T
  obtain ⟨q1, q2, q3, q4, q5⟩ := price_t hG
  refine zj_aload_n C dL_day_259 13 rfl ?_
  refine ij_bipush C dL_day_260 (by decide) ?_
  refine lc_count C ⟨Nat.le_of_ble_eq_true rfl, Nat.le_of_ble_eq_true rfl⟩ ⟨Nat.le_of_ble_eq_true rfl, Nat.le_of_ble_eq_true rfl⟩ hO ([IA cy qw 20 fw, LA cy qn 20 fn, LA cy qs 20 (fun _ => 0), LA cy qb 6 fb, LA cy qp 6 fp, LA cy qu 6 fu, LA cy qa 8 fa] : List va_W) (jI 15) (Nat.le_of_ble_eq_true rfl) dL_day_262 (vc_15 hG z y) ?_
  refine ij_i2l C ⟨by omega, by omega⟩ dL_day_265 ?_
  refine zj_aload C dL_day_266 9 rfl ?_
  refine ij_iconst C dL_day_268 ?_
  refine ij_laload C 6 (f := fa) 2 rfl (by decide) (by decide) rfl dL_day_269 ?_
  refine ij_el (uAll T) ha ?_
  refine ij_lmul C dL_day_270 ?_
  refine zj_ldc2 C dL_day_271 tgv_471 ?_
  refine ij_l 1000 (by decide) ?_
  refine ij_ldiv C ⟨by omega, by omega⟩ ⟨by decide, by decide⟩ dL_day_274 ?_
  refine zj_lstore C (L' := [(15, .long (jL (((sI T 3) * (uAll T)) / 1000))), (13, .long (jL (wI T))), (11, .long (jL (inS T))), (10, .ref qw), (9, .ref qn), (8, .ref qs), (7, .ref qb), (6, .ref qp), (5, .ref qu), (4, .ref qa), (3, .int (jI (gOd_n (gTr_bu T) : Int))), (2, .int (jI (gOd_n (gTr_le T) : Int))), (1, .int (jI (dI T))), (0, .ref x0)]) dL_day_275 (by decide) rfl ?_
  refine zj_lload C dL_day_277 1 rfl ?_
  refine zj_lload C dL_day_279 0 rfl ?_
  have J1 : zJ E 37 7 86 (([IA cy qw 20 fw, LA cy qn 20 fn, LA cy qs 20 (fun _ => 0), LA cy qb 6 fb, LA cy qp 6 fp, LA cy qu 6 fu, LA cy qa 8 fa] : List va_W) ++ LB cy x0 x1 x2 d0 d1 p0 p1 h0 h1 a b hs sl T U x z y s).flatten 292 [(15, .long (jL (((sI T 3) * (uAll T)) / 1000))), (13, .long (jL (wI T))), (11, .long (jL (inS T))), (10, .ref qw), (9, .ref qn), (8, .ref qs), (7, .ref qb), (6, .ref qp), (5, .ref qu), (4, .ref qa), (3, .int (jI (gOd_n (gTr_bu T) : Int))), (2, .int (jI (gOd_n (gTr_le T) : Int))), (1, .int (jI (dI T))), (0, .ref x0)] [.long (jL (aI T))] := by
    refine zj_lstore C (L' := [(17, .long (jL (aI T))), (15, .long (jL (((sI T 3) * (uAll T)) / 1000))), (13, .long (jL (wI T))), (11, .long (jL (inS T))), (10, .ref qw), (9, .ref qn), (8, .ref qs), (7, .ref qb), (6, .ref qp), (5, .ref qu), (4, .ref qa), (3, .int (jI (gOd_n (gTr_bu T) : Int))), (2, .int (jI (gOd_n (gTr_le T) : Int))), (1, .int (jI (dI T))), (0, .ref x0)]) dL_day_292 (by decide) rfl ?_
    refine zj_aload C dL_day_294 10 rfl ?_
    refine ij_iconst C dL_day_296 ?_
    refine ij_laload C 6 (f := fa) 2 rfl (by decide) (by decide) rfl dL_day_297 ?_
    refine ij_el (uAll T) ha ?_
    refine zj_lconst C (v := jL 0) dL_day_298 (by decide) ?_
    have J2 : zJ E 37 7 86 (([IA cy qw 20 fw, LA cy qn 20 fn, LA cy qs 20 (fun _ => 0), LA cy qb 6 fb, LA cy qp 6 fp, LA cy qu 6 fu, LA cy qa 8 fa] : List va_W) ++ LB cy x0 x1 x2 d0 d1 p0 p1 h0 h1 a b hs sl T U x z y s).flatten 324 [(17, .long (jL (aI T))), (15, .long (jL (((sI T 3) * (uAll T)) / 1000))), (13, .long (jL (wI T))), (11, .long (jL (inS T))), (10, .ref qw), (9, .ref qn), (8, .ref qs), (7, .ref qb), (6, .ref qp), (5, .ref qu), (4, .ref qa), (3, .int (jI (gOd_n (gTr_bu T) : Int))), (2, .int (jI (gOd_n (gTr_le T) : Int))), (1, .int (jI (dI T))), (0, .ref x0)] [.long (jL (mI T))] := by
      refine zj_lstore C (L' := [(19, .long (jL (mI T))), (17, .long (jL (aI T))), (15, .long (jL (((sI T 3) * (uAll T)) / 1000))), (13, .long (jL (wI T))), (11, .long (jL (inS T))), (10, .ref qw), (9, .ref qn), (8, .ref qs), (7, .ref qb), (6, .ref qp), (5, .ref qu), (4, .ref qa), (3, .int (jI (gOd_n (gTr_bu T) : Int))), (2, .int (jI (gOd_n (gTr_le T) : Int))), (1, .int (jI (dI T))), (0, .ref x0)]) dL_day_324 (by decide) rfl ?_
      refine zj_lload C dL_day_326 4 rfl ?_
      refine zj_lload C dL_day_328 1 rfl ?_
      refine zj_lload C dL_day_330 0 rfl ?_
      refine ij_lmul C dL_day_332 ?_
      refine zj_ldc2 C dL_day_333 tgv_471 ?_
      refine ij_l 1000 (by decide) ?_
      refine ij_ldiv C ⟨by omega, by omega⟩ ⟨by decide, by decide⟩ dL_day_336 ?_
      refine ij_lsub C dL_day_337 ?_
      refine ij_el (nI1 T) n0 ?_
      refine zj_lstore C (L' := [(21, .long (jL (nI1 T))), (19, .long (jL (mI T))), (17, .long (jL (aI T))), (15, .long (jL (((sI T 3) * (uAll T)) / 1000))), (13, .long (jL (wI T))), (11, .long (jL (inS T))), (10, .ref qw), (9, .ref qn), (8, .ref qs), (7, .ref qb), (6, .ref qp), (5, .ref qu), (4, .ref qa), (3, .int (jI (gOd_n (gTr_bu T) : Int))), (2, .int (jI (gOd_n (gTr_le T) : Int))), (1, .int (jI (dI T))), (0, .ref x0)]) dL_day_338 (by decide) rfl ?_
      refine zj_aload_n C dL_day_340 16 rfl ?_
      refine ij_bipush C dL_day_341 (by decide) ?_
      refine lc_count C ⟨Nat.le_of_ble_eq_true rfl, Nat.le_of_ble_eq_true rfl⟩ ⟨Nat.le_of_ble_eq_true rfl, Nat.le_of_ble_eq_true rfl⟩ hO ([IA cy qw 20 fw, LA cy qn 20 fn, LA cy qs 20 (fun _ => 0), LA cy qb 6 fb, LA cy qp 6 fp, LA cy qu 6 fu, LA cy qa 8 fa] : List va_W) (jI 13) (Nat.le_of_ble_eq_true rfl) dL_day_343 (vc_13 hG z y) ?_
      refine ij_i2l C ⟨by omega, by omega⟩ dL_day_346 ?_
      refine zj_aload_n C dL_day_347 16 rfl ?_
      refine ij_iconst C dL_day_348 ?_
      refine lc_count C ⟨Nat.le_of_ble_eq_true rfl, Nat.le_of_ble_eq_true rfl⟩ ⟨Nat.le_of_ble_eq_true rfl, Nat.le_of_ble_eq_true rfl⟩ hO ([IA cy qw 20 fw, LA cy qn 20 fn, LA cy qs 20 (fun _ => 0), LA cy qb 6 fb, LA cy qp 6 fp, LA cy qu 6 fu, LA cy qa 8 fa] : List va_W) (jI 3) (Nat.le_of_ble_eq_true rfl) dL_day_349 (vc_3 hG z y) ?_
      refine ij_i2l C ⟨by omega, by omega⟩ dL_day_352 ?_
      refine ij_lmul C dL_day_353 ?_
      refine zj_lstore C (L' := [(23, .long (jL ((sI T 1) * (vI T)))), (21, .long (jL (nI1 T))), (19, .long (jL (mI T))), (17, .long (jL (aI T))), (15, .long (jL (((sI T 3) * (uAll T)) / 1000))), (13, .long (jL (wI T))), (11, .long (jL (inS T))), (10, .ref qw), (9, .ref qn), (8, .ref qs), (7, .ref qb), (6, .ref qp), (5, .ref qu), (4, .ref qa), (3, .int (jI (gOd_n (gTr_bu T) : Int))), (2, .int (jI (gOd_n (gTr_le T) : Int))), (1, .int (jI (dI T))), (0, .ref x0)]) dL_day_354 (by decide) rfl ?_
      refine zj_aload C dL_day_356 13 rfl ?_
      refine ij_iconst C dL_day_358 ?_
      refine ij_laload C 6 (f := fa) 2 rfl (by decide) (by decide) rfl dL_day_359 ?_
      refine ij_el (uAll T) ha ?_
      refine zj_lconst C (v := jL 0) dL_day_360 (by decide) ?_
      have J3 : zJ E 37 7 86 (([IA cy qw 20 fw, LA cy qn 20 fn, LA cy qs 20 (fun _ => 0), LA cy qb 6 fb, LA cy qp 6 fp, LA cy qu 6 fu, LA cy qa 8 fa] : List va_W) ++ LB cy x0 x1 x2 d0 d1 p0 p1 h0 h1 a b hs sl T U x z y s).flatten 417 [(23, .long (jL ((sI T 1) * (vI T)))), (21, .long (jL (nI1 T))), (19, .long (jL (mI T))), (17, .long (jL (aI T))), (15, .long (jL (((sI T 3) * (uAll T)) / 1000))), (13, .long (jL (wI T))), (11, .long (jL (inS T))), (10, .ref qw), (9, .ref qn), (8, .ref qs), (7, .ref qb), (6, .ref qp), (5, .ref qu), (4, .ref qa), (3, .int (jI (gOd_n (gTr_bu T) : Int))), (2, .int (jI (gOd_n (gTr_le T) : Int))), (1, .int (jI (dI T))), (0, .ref x0)] [.int (jI (2 + dirI T))] := by
        refine zj_istore C (L' := [(25, .int (jI (2 + dirI T))), (23, .long (jL ((sI T 1) * (vI T)))), (21, .long (jL (nI1 T))), (19, .long (jL (mI T))), (17, .long (jL (aI T))), (15, .long (jL (((sI T 3) * (uAll T)) / 1000))), (13, .long (jL (wI T))), (11, .long (jL (inS T))), (10, .ref qw), (9, .ref qn), (8, .ref qs), (7, .ref qb), (6, .ref qp), (5, .ref qu), (4, .ref qa), (3, .int (jI (gOd_n (gTr_bu T) : Int))), (2, .int (jI (gOd_n (gTr_le T) : Int))), (1, .int (jI (dI T))), (0, .ref x0)]) dL_day_417 (by decide) rfl ?_
        refine zj_iload C dL_day_419 0 rfl ?_
        refine ij_iconst C dL_day_421 ?_
        have J4 : zJ E 37 7 86 (([IA cy qw 20 fw, LA cy qn 20 fn, LA cy qs 20 (fun _ => 0), LA cy qb 6 fb, LA cy qp 6 fp, LA cy qu 6 fu, LA cy qa 8 fa] : List va_W) ++ LB cy x0 x1 x2 d0 d1 p0 p1 h0 h1 a b hs sl T U x z y s).flatten 468 [(25, .int (jI (2 + dirI T))), (23, .long (jL ((sI T 1) * (vI T)))), (21, .long (jL (nI1 T))), (19, .long (jL (mI T))), (17, .long (jL (aI T))), (15, .long (jL (((sI T 3) * (uAll T)) / 1000))), (13, .long (jL (wI T))), (11, .long (jL (inS T))), (10, .ref qw), (9, .ref qn), (8, .ref qs), (7, .ref qb), (6, .ref qp), (5, .ref qu), (4, .ref qa), (3, .int (jI (gOd_n (gTr_bu T) : Int))), (2, .int (jI (gOd_n (gTr_le T) : Int))), (1, .int (jI (dI T))), (0, .ref x0)] [.long (jL (pI T))] := by
          refine zj_lstore C (L' := [(26, .long (jL (pI T))), (25, .int (jI (2 + dirI T))), (23, .long (jL ((sI T 1) * (vI T)))), (21, .long (jL (nI1 T))), (19, .long (jL (mI T))), (17, .long (jL (aI T))), (15, .long (jL (((sI T 3) * (uAll T)) / 1000))), (13, .long (jL (wI T))), (11, .long (jL (inS T))), (10, .ref qw), (9, .ref qn), (8, .ref qs), (7, .ref qb), (6, .ref qp), (5, .ref qu), (4, .ref qa), (3, .int (jI (gOd_n (gTr_bu T) : Int))), (2, .int (jI (gOd_n (gTr_le T) : Int))), (1, .int (jI (dI T))), (0, .ref x0)]) dL_day_468 (by decide) rfl ?_
          refine zj_aload_n C dL_day_470 19 rfl ?_
          refine ij_iconst C dL_day_471 ?_
          refine lc_price C ⟨Nat.le_of_ble_eq_true rfl, Nat.le_of_ble_eq_true rfl⟩ ⟨Nat.le_of_ble_eq_true rfl, Nat.le_of_ble_eq_true rfl⟩ hO ([IA cy qw 20 fw, LA cy qn 20 fn, LA cy qs 20 (fun _ => 0), LA cy qb 6 fb, LA cy qp 6 fp, LA cy qu 6 fu, LA cy qa 8 fa] : List va_W) (jI 0) (Nat.le_of_ble_eq_true rfl) dL_day_472 (fun r1_ x1_ e1_ => ?_)
          refine ij_l (mI T) (vp_0 hG e1_) ?_
          refine zj_lload C dL_day_475 4 rfl ?_
          refine ij_lcmp_ne C 492 dL_day_477 dL_day_478 (by decide) ⟨by omega, by omega⟩ ⟨by omega, by omega⟩ (fun h => False.elim (by omega)) (fun _ => ?_)
          refine zj_aload_n C dL_day_481 19 rfl ?_
          refine ij_iconst C dL_day_482 ?_
          refine lc_price C ⟨Nat.le_of_ble_eq_true rfl, Nat.le_of_ble_eq_true rfl⟩ ⟨Nat.le_of_ble_eq_true rfl, Nat.le_of_ble_eq_true rfl⟩ hO ([IA cy qw 20 fw, LA cy qn 20 fn, LA cy qs 20 (fun _ => 0), LA cy qb 6 fb, LA cy qp 6 fp, LA cy qu 6 fu, LA cy qa 8 fa] : List va_W) (jI 1) (Nat.le_of_ble_eq_true rfl) dL_day_483 (fun r2_ x2_ e2_ => ?_)
          refine ij_l (pI T) (vp_1 hG e2_) ?_
          refine zj_lload C dL_day_486 0 rfl ?_
          refine ij_lcmp_eq C 494 dL_day_488 dL_day_489 (by decide) ⟨by omega, by omega⟩ ⟨by omega, by omega⟩ (fun _ => ?_) (fun h => False.elim (by omega))
          refine zj_sub (L' := [(26, .long (jL (pI T))), (25, .int (jI (2 + dirI T))), (17, .long (jL (aI T))), (13, .long (jL (wI T))), (10, .ref qw), (9, .ref qn), (8, .ref qs), (7, .ref qb), (6, .ref qp), (5, .ref qu), (4, .ref qa), (3, .int (jI (gOd_n (gTr_bu T) : Int))), (2, .int (jI (gOd_n (gTr_le T) : Int))), (1, .int (jI (dI T))), (0, .ref x0)]) [0, 1, 5, 7, 9, 10, 11, 12, 13, 14, 15, 16, 17, 18, 19] rfl ?_
          exact kk x2_
        refine ij_icmp_ne C 430 dL_day_422 (by decide) ⟨by omega, by omega⟩ ⟨by decide, by decide⟩ (fun hb => ?_) (fun hb => ?_)
        · skip
          refine zj_lload C dL_day_430 3 rfl ?_
          refine zj_iload C dL_day_432 0 rfl ?_
          refine ij_iconst C dL_day_434 ?_
          refine ij_icmp_ne C 452 dL_day_435 (by decide) ⟨by omega, by omega⟩ ⟨by decide, by decide⟩ (fun hb2 => ?_) (fun hb2 => ?_)
          · skip
            have e1 : dirI T = -1 := by omega
            have e2 := q3 e1
            refine zj_ldc2 C dL_day_452 tgv_471 ?_
            refine ij_l 1000 (by decide) ?_
            refine zj_aload_n C dL_day_455 18 rfl ?_
            refine ij_bipush C dL_day_456 (by decide) ?_
            refine lc_count C ⟨Nat.le_of_ble_eq_true rfl, Nat.le_of_ble_eq_true rfl⟩ ⟨Nat.le_of_ble_eq_true rfl, Nat.le_of_ble_eq_true rfl⟩ hO ([IA cy qw 20 fw, LA cy qn 20 fn, LA cy qs 20 (fun _ => 0), LA cy qb 6 fb, LA cy qp 6 fp, LA cy qu 6 fu, LA cy qa 8 fa] : List va_W) (jI 14) (Nat.le_of_ble_eq_true rfl) dL_day_458 (vc_14 hG z y) ?_
            refine ij_i2l C ⟨by omega, by omega⟩ dL_day_461 ?_
            refine ij_lsub C dL_day_462 ?_
            refine ij_lmul C dL_day_463 ?_
            refine zj_ldc2 C dL_day_464 tgv_471 ?_
            refine ij_l 1000 (by decide) ?_
            refine ij_ldiv C ⟨by omega, by omega⟩ ⟨by decide, by decide⟩ dL_day_467 ?_
            refine ij_el (pI T) e2.symm ?_
            exact J4
          · skip
            have e1 : dirI T = 1 := by omega
            have e2 := q2 e1
            refine zj_ldc2 C dL_day_438 tgv_471 ?_
            refine ij_l 1000 (by decide) ?_
            refine zj_aload_n C dL_day_441 18 rfl ?_
            refine ij_bipush C dL_day_442 (by decide) ?_
            refine lc_count C ⟨Nat.le_of_ble_eq_true rfl, Nat.le_of_ble_eq_true rfl⟩ ⟨Nat.le_of_ble_eq_true rfl, Nat.le_of_ble_eq_true rfl⟩ hO ([IA cy qw 20 fw, LA cy qn 20 fn, LA cy qs 20 (fun _ => 0), LA cy qb 6 fb, LA cy qp 6 fp, LA cy qu 6 fu, LA cy qa 8 fa] : List va_W) (jI 14) (Nat.le_of_ble_eq_true rfl) dL_day_444 (vc_14 hG z y) ?_
            refine ij_i2l C ⟨by omega, by omega⟩ dL_day_447 ?_
            refine ij_ladd C dL_day_448 ?_
            refine zj_goto C 463 dL_day_449 (by decide) ?_
            refine ij_lmul C dL_day_463 ?_
            refine zj_ldc2 C dL_day_464 tgv_471 ?_
            refine ij_l 1000 (by decide) ?_
            refine ij_ldiv C ⟨by omega, by omega⟩ ⟨by decide, by decide⟩ dL_day_467 ?_
            refine ij_el (pI T) e2.symm ?_
            exact J4
        · skip
          have e1 : dirI T = 0 := by omega
          have e2 := q1 e1
          refine zj_lload C dL_day_425 3 rfl ?_
          refine ij_el (pI T) e2.symm ?_
          refine zj_goto C 468 dL_day_427 (by decide) ?_
          exact J4
      refine ij_lcmp_ne C 369 dL_day_361 dL_day_362 (by decide) ⟨by omega, by omega⟩ ⟨by decide, by decide⟩ (fun hu => ?_) (fun hu => ?_)
      · skip
        obtain ⟨k1, k2, k3⟩ := dt1 (by omega)
        refine zj_lload C dL_day_369 1 rfl ?_
        refine zj_lconst C (v := jL 0) dL_day_371 (by decide) ?_
        refine ij_lcmp_le C 392 dL_day_372 dL_day_373 (by decide) ⟨by omega, by omega⟩ ⟨by decide, by decide⟩ (fun hp => ?_) (fun hp => ?_)
        · skip
          refine zj_lload C dL_day_392 1 rfl ?_
          refine zj_lconst C (v := jL 0) dL_day_394 (by decide) ?_
          refine ij_lcmp_ge C 416 dL_day_395 dL_day_396 (by decide) ⟨by omega, by omega⟩ ⟨by decide, by decide⟩ (fun hn => ?_) (fun hn => ?_)
          · skip
            have e1 := k3 (by omega) (by omega)
            refine ij_iconst C dL_day_416 ?_
            refine ij_ei (2 + dirI T) (by omega) ?_
            exact J3
          · skip
            refine zj_ldc2 C dL_day_399 tgv_471 ?_
            refine ij_l 1000 (by decide) ?_
            refine zj_lload C dL_day_402 1 rfl ?_
            refine ij_lmul C dL_day_404 ?_
            refine zj_lload C dL_day_405 0 rfl ?_
            refine ij_lneg C dL_day_407 ?_
            refine ij_lcmp_ge C 416 dL_day_408 dL_day_409 (by decide) ⟨by omega, by omega⟩ ⟨by omega, by omega⟩ (fun hn2 => ?_) (fun hn2 => ?_)
            · skip
              have e1 := k3 (by omega) (by omega)
              refine ij_iconst C dL_day_416 ?_
              refine ij_ei (2 + dirI T) (by omega) ?_
              exact J3
            · skip
              have e1 := k2 (by omega) (by omega) (by omega)
              refine ij_iconst C dL_day_412 ?_
              refine ij_ei (2 + dirI T) (by omega) ?_
              refine zj_goto C 417 dL_day_413 (by decide) ?_
              exact J3
        · skip
          refine zj_ldc2 C dL_day_376 tgv_471 ?_
          refine ij_l 1000 (by decide) ?_
          refine zj_lload C dL_day_379 1 rfl ?_
          refine ij_lmul C dL_day_381 ?_
          refine zj_lload C dL_day_382 0 rfl ?_
          refine ij_lcmp_le C 392 dL_day_384 dL_day_385 (by decide) ⟨by omega, by omega⟩ ⟨by omega, by omega⟩ (fun hp2 => ?_) (fun hp2 => ?_)
          · skip
            refine zj_lload C dL_day_392 1 rfl ?_
            refine zj_lconst C (v := jL 0) dL_day_394 (by decide) ?_
            refine ij_lcmp_ge C 416 dL_day_395 dL_day_396 (by decide) ⟨by omega, by omega⟩ ⟨by decide, by decide⟩ (fun hn => ?_) (fun hn => ?_)
            · skip
              have e1 := k3 (by omega) (by omega)
              refine ij_iconst C dL_day_416 ?_
              refine ij_ei (2 + dirI T) (by omega) ?_
              exact J3
            · skip
              refine zj_ldc2 C dL_day_399 tgv_471 ?_
              refine ij_l 1000 (by decide) ?_
              refine zj_lload C dL_day_402 1 rfl ?_
              refine ij_lmul C dL_day_404 ?_
              refine zj_lload C dL_day_405 0 rfl ?_
              refine ij_lneg C dL_day_407 ?_
              refine ij_lcmp_ge C 416 dL_day_408 dL_day_409 (by decide) ⟨by omega, by omega⟩ ⟨by omega, by omega⟩ (fun hn2 => ?_) (fun hn2 => ?_)
              · skip
                have e1 := k3 (by omega) (by omega)
                refine ij_iconst C dL_day_416 ?_
                refine ij_ei (2 + dirI T) (by omega) ?_
                exact J3
              · skip
                have e1 := k2 (by omega) (by omega) (by omega)
                refine ij_iconst C dL_day_412 ?_
                refine ij_ei (2 + dirI T) (by omega) ?_
                refine zj_goto C 417 dL_day_413 (by decide) ?_
                exact J3
          · skip
            have e1 := k1 (by omega) (by omega)
            refine ij_iconst C dL_day_388 ?_
            refine ij_ei (2 + dirI T) (by omega) ?_
            refine zj_goto C 417 dL_day_389 (by decide) ?_
            exact J3
      · skip
        have e1 := dt0 (by omega)
        refine ij_iconst C dL_day_365 ?_
        refine ij_ei (2 + dirI T) (by omega) ?_
        refine zj_goto C 417 dL_day_366 (by decide) ?_
        exact J3
    refine ij_lcmp_ne C 309 dL_day_299 dL_day_300 (by decide) ⟨by omega, by omega⟩ ⟨by decide, by decide⟩ (fun hm => ?_) (fun hm => ?_)
    · skip
      have em : mI T = 1000 * vI T / uAll T := if_neg (by omega)
      refine zj_ldc2 C dL_day_309 tgv_471 ?_
      refine ij_l 1000 (by decide) ?_
      refine zj_aload_n C dL_day_312 14 rfl ?_
      refine ij_iconst C dL_day_313 ?_
      refine lc_count C ⟨Nat.le_of_ble_eq_true rfl, Nat.le_of_ble_eq_true rfl⟩ ⟨Nat.le_of_ble_eq_true rfl, Nat.le_of_ble_eq_true rfl⟩ hO ([IA cy qw 20 fw, LA cy qn 20 fn, LA cy qs 20 (fun _ => 0), LA cy qb 6 fb, LA cy qp 6 fp, LA cy qu 6 fu, LA cy qa 8 fa] : List va_W) (jI 3) (Nat.le_of_ble_eq_true rfl) dL_day_314 (vc_3 hG z y) ?_
      refine ij_i2l C ⟨by omega, by omega⟩ dL_day_317 ?_
      refine ij_lmul C dL_day_318 ?_
      refine zj_aload C dL_day_319 10 rfl ?_
      refine ij_iconst C dL_day_321 ?_
      refine ij_laload C 6 (f := fa) 2 rfl (by decide) (by decide) rfl dL_day_322 ?_
      refine ij_el (uAll T) ha ?_
      refine ij_ldiv C ⟨by omega, by omega⟩ ⟨by omega, by omega⟩ dL_day_323 ?_
      refine ij_el (mI T) em.symm ?_
      exact J2
    · skip
      have em : mI T = 100000 := if_pos (by omega)
      refine zj_ldc2 C dL_day_303 tgv_488 ?_
      refine ij_l 100000 (by decide) ?_
      refine ij_el (mI T) em.symm ?_
      refine zj_goto C 324 dL_day_306 (by decide) ?_
      exact J2
  refine ij_lcmp_ge C 290 dL_day_281 dL_day_282 (by decide) ⟨by omega, by omega⟩ ⟨by omega, by omega⟩ (fun hg => ?_) (fun hg => ?_)
  · skip
    refine zj_lload C dL_day_290 0 rfl ?_
    refine ij_el (aI T) (a5 (by omega)).symm ?_
    exact J1
  · skip
    refine zj_lload C dL_day_285 1 rfl ?_
    refine ij_el (aI T) (a4 (by omega)).symm ?_
    refine zj_goto C 292 dL_day_287 (by decide) ?_
    exact J1
end DAYA
