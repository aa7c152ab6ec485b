/-! day: those who buy come in. Written by wip/p26/law8.py -/
/-- what the rows of the day hold when k orders to buy have been taken -/
def pD (x : zDd) (T : zTr) (k : Nat) (fa fu fb : Nat → Int) : Prop := fa 0 = cI (runB x T k) ∧ fa 1 = lI (runB x T k) ∧ fa 2 = uAll (runB x T k) ∧ fa 3 = mdI (runB x T k) ∧ fa 4 = lfI (runB x T k) ∧ fa 5 = soI (runB x T k) ∧ fa 6 = bkI (runB x T k) ∧ ∀ j, j < 6 → fu j = uU (runB x T k) j ∧ fb j = boI (runB x T k) j
theorem runE_iff {D c : Int} {T : zTr} (h : GI D c T) {i : Nat} (hi : i < gOd_n (gTr_bu T)) : i < runE T ↔ oD (gTr_bu T) i ≤ dI T := by
  have e : runE T = cntD (gTr_bu T) (dI T + 1) (gOd_n (gTr_bu T)) := cnt_due h.1.2.1.2.2 (gTr_day T)
  rw [e, cnt_iff (dI T + 1) (gOd_n (gTr_bu T)) (oSort_i h.1.2.1.2.2) i hi]
  omega
section DAYD
variable {E : zE} {cy : Nat → ClassId} {l : Launch} {D : va_G} {x0 x1 x2 d0 d1 p0 p1 h0 h1 : Nat} {a b : Nat → Nat} {hs sl : Nat → Nat → Nat} {T U : zTr} {x : zDd} {z : zPd} {y : zHs} {s : zSl} {Dd c : Int}
set_option maxHeartbeats 4000000 in
set_option maxRecDepth 100000 in
theorem day_d (C : zO E cL_day 37 "SwingUnitsLaw" rm_day cy l D) (hG : GI Dd c T) (hO : LO T z y s) {qa qu qp qb qs qn qw : Nat} {S0 : zMs} {sm : Nat → Int64} (hXB : ∀ k, k ≤ runE T → (∃ X, BS S0 T (runF x T) (runX x T) sm (runB x T k) k X) ∧ XB T (runF x T) (runB x T k) k) (hB : iB T) (hp : (gDd_price (runX x T)).toInt = pI T) (hi : (gDd_ui (runX x T)).toInt = iI T) (hOb : iO 1000000 (gTr_bu T)) (hcb : ∀ k, k ≤ runE T → cI (runB x T k) ≤ 10000000000) (hu1 : 0 ≤ uAll (runF x T)) {fp fs fn fw : Nat → Int} (kk : ∀ fa fu fb : Nat → Int, pD x T (runE T) fa fu fb → zJ E 37 7 86 (([IA cy qw 20 fw, LA cy qn 20 fn, LA cy qs 20 fs, LA cy qb 6 fb, LA cy qp 6 fp, LA cy qu 6 fu, LA cy qa 8 fa] : List va_W) ++ LB cy x0 x1 x2 d0 d1 p0 p1 h0 h1 a b hs sl T U x z y s).flatten 1086 [(31, .int (jI ((gOd_n (gTr_bu T) : Int) - (runE T : Int)))), (26, .long (jL (pI T))), (25, .int (jI (2 + dirI T))), (13, .long (jL (wI T))), (10, .ref qw), (9, .ref qn), (8, .ref qs), (7, .ref qb), (6, .ref qp), (5, .ref qu), (4, .ref qa), (3, .int (jI (gOd_n (gTr_bu T) : Int))), (2, .int (jI (gOd_n (gTr_le T) : Int))), (1, .int (jI (dI T))), (0, .ref x0)] []) : ∀ (m k K : Nat) (lt : Int) (fa fu fb : Nat → Int), k + m = gOd_n (gTr_bu T) → (K = k ∧ k ≤ runE T ∨ K = runE T ∧ runE T ≤ k) → lt = (k : Int) - (K : Int) → pD x T K fa fu fb → zJ E 37 7 86 (([IA cy qw 20 fw, LA cy qn 20 fn, LA cy qs 20 fs, LA cy qb 6 fb, LA cy qp 6 fp, LA cy qu 6 fu, LA cy qa 8 fa] : List va_W) ++ LB cy x0 x1 x2 d0 d1 p0 p1 h0 h1 a b hs sl T U x z y s).flatten 930 [(32, .int (jI (k : Int))), (31, .int (jI lt)), (26, .long (jL (pI T))), (25, .int (jI (2 + dirI T))), (13, .long (jL (wI T))), (10, .ref qw), (9, .ref qn), (8, .ref qs), (7, .ref qb), (6, .ref qp), (5, .ref qu), (4, .ref qa), (3, .int (jI (gOd_n (gTr_bu T) : Int))), (2, .int (jI (gOd_n (gTr_le T) : Int))), (1, .int (jI (dI T))), (0, .ref x0)] [] := by
  have rdI := (GI_r hG).2.2.2.2.2.2.2.2.1
  have rnb := (GI_r hG).2.2.2.2.2.2.2.2.2.1
  have rnl := (GI_r hG).2.2.2.2.2.2.2.2.2.2.1
  have hdl : runE T ≤ gOd_n (gTr_bu T) := xdue_le
  intro m
  induction m with
  | zero =>
    intro k K lt fa fu fb hk hK hlt hpd
    have ek : K = runE T := by omega
    subst ek
    have elt : lt = (gOd_n (gTr_bu T) : Int) - (runE T : Int) := by omega
    subst elt
    refine zj_iload C dL_day_930 0 rfl ?_
    refine zj_iload_n C dL_day_932 12 rfl ?_
    refine ij_icmp_ge C 1086 dL_day_933 (by decide) ⟨by omega, by omega⟩ ⟨by omega, by omega⟩ (fun _ => ?_) (fun h => False.elim (by omega))
    refine zj_sub (L' := [(31, .int (jI ((gOd_n (gTr_bu T) : Int) - (runE T : Int)))), (26, .long (jL (pI T))), (25, .int (jI (2 + dirI T))), (13, .long (jL (wI T))), (10, .ref qw), (9, .ref qn), (8, .ref qs), (7, .ref qb), (6, .ref qp), (5, .ref qu), (4, .ref qa), (3, .int (jI (gOd_n (gTr_bu T) : Int))), (2, .int (jI (gOd_n (gTr_le T) : Int))), (1, .int (jI (dI T))), (0, .ref x0)]) [1, 2, 3, 4, 5, 6, 7, 8, 9, 10, 11, 12, 13, 14, 15] rfl ?_
    exact kk _ _ _ hpd
  | succ m ih =>
    intro k K lt fa fu fb hk hK hlt hpd
    have hkn : k < gOd_n (gTr_bu T) := by omega
    obtain ⟨⟨ra, rb⟩, ⟨rc, rd⟩, re, rf⟩ := GI_ob hG hkn
    have hiff := runE_iff hG hkn
    refine zj_iload C dL_day_930 0 rfl ?_
    refine zj_iload_n C dL_day_932 12 rfl ?_
    refine ij_icmp_ge C 1086 dL_day_933 (by decide) ⟨by omega, by omega⟩ ⟨by omega, by omega⟩ (fun h => False.elim (by omega)) (fun _ => ?_)
    refine zj_aload_n C dL_day_936 15 rfl ?_
    refine ij_iconst C dL_day_937 ?_
    refine zj_iload C dL_day_938 0 rfl ?_
    refine ij_iconst C dL_day_940 ?_
    refine lc_order C ⟨Nat.le_of_ble_eq_true rfl, Nat.le_of_ble_eq_true rfl⟩ ⟨Nat.le_of_ble_eq_true rfl, Nat.le_of_ble_eq_true rfl⟩ hO ([IA cy qw 20 fw, LA cy qn 20 fn, LA cy qs 20 fs, LA cy qb 6 fb, LA cy qp 6 fp, LA cy qu 6 fu, LA cy qa 8 fa] : List va_W) (jI 0) (jI (k : Int)) (jI 2) (Nat.le_of_ble_eq_true rfl) dL_day_941 (vo_02 hG hkn) ?_
    refine zj_iload_n C dL_day_944 14 rfl ?_
    refine ij_icmp_le C 954 dL_day_945 (by decide) ⟨by omega, by omega⟩ ⟨by omega, by omega⟩ (fun hz => ?_) (fun hz => ?_)
    · skip
      have hke : k < runE T := hiff.mpr (by omega)
      have eK : K = k := by omega
      subst eK
      obtain ⟨⟨XX, hS⟩, hX⟩ := hXB K (by omega)
      have hW := hS.2.1
      have hWu : 0 ≤ uAll (runB x T K) ∧ uAll (runB x T K) ≤ 1000000000 := ⟨uAll_nn hW.2.2.2.1, hW.2.2.2.1.2⟩
      obtain ⟨jj, hj⟩ : ∃ jj : Nat, (jj : Int) = oH (gTr_bu T) K := ⟨(oH (gTr_bu T) K).toNat, by omega⟩
      obtain ⟨pj, pa, pl, pso, plf, pno, pyes⟩ := buy_st hB hp hi hOb hkn hW hX (hcb K (by omega)) hu1 (runB x T (K + 1)) rfl jj hj (oS (gTr_bu T) K) rfl
      obtain ⟨-, mk0, mk1, -⟩ := mkI_r hB hp (am := jL (oS (gTr_bu T) K)) (jL_t ⟨by omega, by omega⟩) pa
      obtain ⟨mkv, hmk⟩ : ∃ mkv, mkv = mkI T (oS (gTr_bu T) K) := ⟨_, rfl⟩
      rw [← hmk] at mk0 mk1 pno pyes
      have pp := (day_nums hG).2.2.2.2.2.2.2.2.2
      obtain ⟨c0, c1, c2, c3, c4, c5, c6, c7⟩ := hpd
      refine zj_aload_n C dL_day_954 15 rfl ?_
      refine ij_iconst C dL_day_955 ?_
      refine zj_iload C dL_day_956 0 rfl ?_
      refine ij_iconst C dL_day_958 ?_
      refine lc_order C ⟨Nat.le_of_ble_eq_true rfl, Nat.le_of_ble_eq_true rfl⟩ ⟨Nat.le_of_ble_eq_true rfl, Nat.le_of_ble_eq_true rfl⟩ hO ([IA cy qw 20 fw, LA cy qn 20 fn, LA cy qs 20 fs, LA cy qb 6 fb, LA cy qp 6 fp, LA cy qu 6 fu, LA cy qa 8 fa] : List va_W) (jI 0) (jI (K : Int)) (jI 1) (Nat.le_of_ble_eq_true rfl) dL_day_959 (vo_01 hG hkn) ?_
      refine ij_i2l C ⟨by omega, by omega⟩ dL_day_962 ?_
      refine zj_lstore C (L' := [(33, .long (jL (oS (gTr_bu T) K))), (32, .int (jI (K : Int))), (31, .int (jI lt)), (26, .long (jL (pI T))), (25, .int (jI (2 + dirI T))), (13, .long (jL (wI T))), (10, .ref qw), (9, .ref qn), (8, .ref qs), (7, .ref qb), (6, .ref qp), (5, .ref qu), (4, .ref qa), (3, .int (jI (gOd_n (gTr_bu T) : Int))), (2, .int (jI (gOd_n (gTr_le T) : Int))), (1, .int (jI (dI T))), (0, .ref x0)]) dL_day_963 (by decide) rfl ?_
      refine zj_lload C dL_day_965 3 rfl ?_
      refine zj_lconst C (v := jL 0) dL_day_967 (by decide) ?_
      have J1 : zJ E 37 7 86 (([IA cy qw 20 fw, LA cy qn 20 fn, LA cy qs 20 fs, LA cy qb 6 fb, LA cy qp 6 fp, LA cy qu 6 fu, LA cy qa 8 fa] : List va_W) ++ LB cy x0 x1 x2 d0 d1 p0 p1 h0 h1 a b hs sl T U x z y s).flatten 985 [(33, .long (jL (oS (gTr_bu T) K))), (32, .int (jI (K : Int))), (31, .int (jI lt)), (26, .long (jL (pI T))), (25, .int (jI (2 + dirI T))), (13, .long (jL (wI T))), (10, .ref qw), (9, .ref qn), (8, .ref qs), (7, .ref qb), (6, .ref qp), (5, .ref qu), (4, .ref qa), (3, .int (jI (gOd_n (gTr_bu T) : Int))), (2, .int (jI (gOd_n (gTr_le T) : Int))), (1, .int (jI (dI T))), (0, .ref x0)] [.long (jL mkv)] := by
        have J2 : (mkv = 0 ∨ 1000000000 < uAll (runB x T K) + mkv) → zJ E 37 7 86 (([IA cy qw 20 fw, LA cy qn 20 fn, LA cy qs 20 fs, LA cy qb 6 fb, LA cy qp 6 fp, LA cy qu 6 fu, LA cy qa 8 fa] : List va_W) ++ LB cy x0 x1 x2 d0 d1 p0 p1 h0 h1 a b hs sl T U x z y s).flatten 1008 [(35, .long (jL mkv)), (33, .long (jL (oS (gTr_bu T) K))), (32, .int (jI (K : Int))), (31, .int (jI lt)), (26, .long (jL (pI T))), (25, .int (jI (2 + dirI T))), (13, .long (jL (wI T))), (10, .ref qw), (9, .ref qn), (8, .ref qs), (7, .ref qb), (6, .ref qp), (5, .ref qu), (4, .ref qa), (3, .int (jI (gOd_n (gTr_bu T) : Int))), (2, .int (jI (gOd_n (gTr_le T) : Int))), (1, .int (jI (dI T))), (0, .ref x0)] [] := by
          intro hno
          refine zj_aload C dL_day_1008 13 rfl ?_
          refine ij_bipush C dL_day_1010 (by decide) ?_
          refine zj_dup2 C dL_day_1012 rfl rfl ?_
          refine ij_laload C 6 (f := fa) 6 rfl (by decide) (by decide) rfl dL_day_1013 ?_
          refine zj_lload C dL_day_1014 1 rfl ?_
          refine ij_ladd C dL_day_1016 ?_
          refine ij_lastore C 6 (f := fa) (ws' := (([IA cy qw 20 fw, LA cy qn 20 fn, LA cy qs 20 fs, LA cy qb 6 fb, LA cy qp 6 fp, LA cy qu 6 fu, LA cy qa 8 (iup fa 6 ((fa 6) + (oS (gTr_bu T) K)))] : List va_W) ++ LB cy x0 x1 x2 d0 d1 p0 p1 h0 h1 a b hs sl T U x z y s).flatten) 6 rfl (by decide) (by decide) rfl dL_day_1017 rfl ?_
          refine zj_goto C 1080 dL_day_1018 (by decide) ?_
          refine ij_iinc C (j := 2) (L2 := [(32, .int (jI ((K + 1 : Nat) : Int))), (35, .long (jL mkv)), (33, .long (jL (oS (gTr_bu T) K))), (31, .int (jI lt)), (26, .long (jL (pI T))), (25, .int (jI (2 + dirI T))), (13, .long (jL (wI T))), (10, .ref qw), (9, .ref qn), (8, .ref qs), (7, .ref qb), (6, .ref qp), (5, .ref qu), (4, .ref qa), (3, .int (jI (gOd_n (gTr_bu T) : Int))), (2, .int (jI (gOd_n (gTr_le T) : Int))), (1, .int (jI (dI T))), (0, .ref x0)]) ((K + 1 : Nat) : Int) (by omega) dL_day_1080 rfl (by decide) rfl ?_
          refine zj_goto C 930 dL_day_1083 (by decide) ?_
          refine zj_sub (L' := [(32, .int (jI ((K + 1 : Nat) : Int))), (31, .int (jI lt)), (26, .long (jL (pI T))), (25, .int (jI (2 + dirI T))), (13, .long (jL (wI T))), (10, .ref qw), (9, .ref qn), (8, .ref qs), (7, .ref qb), (6, .ref qp), (5, .ref qu), (4, .ref qa), (3, .int (jI (gOd_n (gTr_bu T) : Int))), (2, .int (jI (gOd_n (gTr_le T) : Int))), (1, .int (jI (dI T))), (0, .ref x0)]) [0, 3, 4, 5, 6, 7, 8, 9, 10, 11, 12, 13, 14, 15, 16, 17] rfl ?_
          obtain ⟨n1, n2, n3, n4, n5⟩ := pno hno
          have hu : ∀ j, uU (runB x T (K + 1)) j = uU (runB x T K) j ∧ boI (runB x T (K + 1)) j = boI (runB x T K) j := fun j => by unfold uU uO uN boI; rw [n2]; exact ⟨rfl, rfl⟩
          have hua : uAll (runB x T (K + 1)) = uAll (runB x T K) := isum_congr 6 (fun j _ => (hu j).1)
          refine ih (K + 1) (K + 1) lt _ _ _ (by omega) (Or.inl ⟨rfl, by omega⟩) (by omega) ⟨?_, ?_, ?_, ?_, ?_, ?_, ?_, fun j hj6 => ?_⟩
          · show fa 0 = _; omega
          · show fa 1 = _; omega
          · show fa 2 = _; omega
          · show fa 3 = _; omega
          · show fa 4 = _; omega
          · show fa 5 = _; omega
          · show fa 6 + oS (gTr_bu T) K = _; omega
          · obtain ⟨z1, z2⟩ := c7 j hj6; exact ⟨z1.trans (hu j).1.symm, z2.trans (hu j).2.symm⟩
        refine zj_lstore C (L' := [(35, .long (jL mkv)), (33, .long (jL (oS (gTr_bu T) K))), (32, .int (jI (K : Int))), (31, .int (jI lt)), (26, .long (jL (pI T))), (25, .int (jI (2 + dirI T))), (13, .long (jL (wI T))), (10, .ref qw), (9, .ref qn), (8, .ref qs), (7, .ref qb), (6, .ref qp), (5, .ref qu), (4, .ref qa), (3, .int (jI (gOd_n (gTr_bu T) : Int))), (2, .int (jI (gOd_n (gTr_le T) : Int))), (1, .int (jI (dI T))), (0, .ref x0)]) dL_day_985 (by decide) rfl ?_
        refine zj_lload C dL_day_987 0 rfl ?_
        refine zj_lconst C (v := jL 0) dL_day_989 (by decide) ?_
        refine ij_lcmp_eq C 1008 dL_day_990 dL_day_991 (by decide) ⟨by omega, by omega⟩ ⟨by decide, by decide⟩ (fun h0z => ?_) (fun h0z => ?_)
        · skip
          exact J2 (Or.inl (by omega))
        · skip
          refine zj_aload C dL_day_994 13 rfl ?_
          refine ij_iconst C dL_day_996 ?_
          refine ij_laload C 6 (f := fa) 2 rfl (by decide) (by decide) rfl dL_day_997 ?_
          refine zj_lload C dL_day_998 0 rfl ?_
          refine ij_ladd C dL_day_1000 ?_
          refine zj_ldc2 C dL_day_1001 tgv_524 ?_
          refine ij_l 1000000000 (by decide) ?_
          refine ij_lcmp_le C 1021 dL_day_1004 dL_day_1005 (by decide) ⟨by omega, by omega⟩ ⟨by decide, by decide⟩ (fun h1z => ?_) (fun h1z => ?_)
          · skip
            refine zj_aload C dL_day_1021 13 rfl ?_
            refine ij_iconst C dL_day_1023 ?_
            refine zj_dup2 C dL_day_1024 rfl rfl ?_
            refine ij_laload C 6 (f := fa) 0 rfl (by decide) (by decide) rfl dL_day_1025 ?_
            refine zj_lload C dL_day_1026 1 rfl ?_
            refine ij_ladd C dL_day_1028 ?_
            refine ij_lastore C 6 (f := fa) (ws' := (([IA cy qw 20 fw, LA cy qn 20 fn, LA cy qs 20 fs, LA cy qb 6 fb, LA cy qp 6 fp, LA cy qu 6 fu, LA cy qa 8 (iup fa 0 ((fa 0) + (oS (gTr_bu T) K)))] : List va_W) ++ LB cy x0 x1 x2 d0 d1 p0 p1 h0 h1 a b hs sl T U x z y s).flatten) 0 rfl (by decide) (by decide) rfl dL_day_1029 rfl ?_
            refine zj_aload C dL_day_1030 13 rfl ?_
            refine ij_iconst C dL_day_1032 ?_
            refine zj_dup2 C dL_day_1033 rfl rfl ?_
            refine ij_laload C 6 (f := (iup fa 0 ((fa 0) + (oS (gTr_bu T) K)))) 2 rfl (by decide) (by decide) rfl dL_day_1034 ?_
            refine ij_el (fa 2) rfl ?_
            refine zj_lload C dL_day_1035 0 rfl ?_
            refine ij_ladd C dL_day_1037 ?_
            refine ij_lastore C 6 (f := (iup fa 0 ((fa 0) + (oS (gTr_bu T) K)))) (ws' := (([IA cy qw 20 fw, LA cy qn 20 fn, LA cy qs 20 fs, LA cy qb 6 fb, LA cy qp 6 fp, LA cy qu 6 fu, LA cy qa 8 (iup (iup fa 0 ((fa 0) + (oS (gTr_bu T) K))) 2 ((fa 2) + mkv))] : List va_W) ++ LB cy x0 x1 x2 d0 d1 p0 p1 h0 h1 a b hs sl T U x z y s).flatten) 2 rfl (by decide) (by decide) rfl dL_day_1038 rfl ?_
            refine zj_aload C dL_day_1039 13 rfl ?_
            refine ij_iconst C dL_day_1041 ?_
            refine zj_dup2 C dL_day_1042 rfl rfl ?_
            refine ij_laload C 6 (f := (iup (iup fa 0 ((fa 0) + (oS (gTr_bu T) K))) 2 ((fa 2) + mkv))) 3 rfl (by decide) (by decide) rfl dL_day_1043 ?_
            refine ij_el (fa 3) rfl ?_
            refine zj_lload C dL_day_1044 0 rfl ?_
            refine ij_ladd C dL_day_1046 ?_
            refine ij_lastore C 6 (f := (iup (iup fa 0 ((fa 0) + (oS (gTr_bu T) K))) 2 ((fa 2) + mkv))) (ws' := (([IA cy qw 20 fw, LA cy qn 20 fn, LA cy qs 20 fs, LA cy qb 6 fb, LA cy qp 6 fp, LA cy qu 6 fu, LA cy qa 8 (iup (iup (iup fa 0 ((fa 0) + (oS (gTr_bu T) K))) 2 ((fa 2) + mkv)) 3 ((fa 3) + mkv))] : List va_W) ++ LB cy x0 x1 x2 d0 d1 p0 p1 h0 h1 a b hs sl T U x z y s).flatten) 3 rfl (by decide) (by decide) rfl dL_day_1047 rfl ?_
            refine zj_aload C dL_day_1048 12 rfl ?_
            refine zj_aload_n C dL_day_1050 17 rfl ?_
            refine ij_iconst C dL_day_1051 ?_
            refine zj_iload C dL_day_1052 2 rfl ?_
            refine ij_iconst C dL_day_1054 ?_
            refine lc_order C ⟨Nat.le_of_ble_eq_true rfl, Nat.le_of_ble_eq_true rfl⟩ ⟨Nat.le_of_ble_eq_true rfl, Nat.le_of_ble_eq_true rfl⟩ hO ([IA cy qw 20 fw, LA cy qn 20 fn, LA cy qs 20 fs, LA cy qb 6 fb, LA cy qp 6 fp, LA cy qu 6 fu, LA cy qa 8 (iup (iup (iup fa 0 ((fa 0) + (oS (gTr_bu T) K))) 2 ((fa 2) + mkv)) 3 ((fa 3) + mkv))] : List va_W) (jI 0) (jI (K : Int)) (jI 0) (Nat.le_of_ble_eq_true rfl) dL_day_1055 (vo_00 hG hkn) ?_
            refine ij_ei ((jj : Nat) : Int) hj.symm ?_
            refine zj_dup2 C dL_day_1058 rfl rfl ?_
            refine ij_laload C 5 (f := fu) jj rfl (by omega) (by decide) rfl dL_day_1059 ?_
            refine zj_lload C dL_day_1060 0 rfl ?_
            refine ij_ladd C dL_day_1062 ?_
            refine ij_lastore C 5 (f := fu) (ws' := (([IA cy qw 20 fw, LA cy qn 20 fn, LA cy qs 20 fs, LA cy qb 6 fb, LA cy qp 6 fp, LA cy qu 6 (iup fu jj ((fu jj) + mkv)), LA cy qa 8 (iup (iup (iup fa 0 ((fa 0) + (oS (gTr_bu T) K))) 2 ((fa 2) + mkv)) 3 ((fa 3) + mkv))] : List va_W) ++ LB cy x0 x1 x2 d0 d1 p0 p1 h0 h1 a b hs sl T U x z y s).flatten) jj rfl (by omega) (by decide) rfl dL_day_1063 rfl ?_
            refine zj_aload C dL_day_1064 10 rfl ?_
            refine zj_aload_n C dL_day_1066 17 rfl ?_
            refine ij_iconst C dL_day_1067 ?_
            refine zj_iload C dL_day_1068 2 rfl ?_
            refine ij_iconst C dL_day_1070 ?_
            refine lc_order C ⟨Nat.le_of_ble_eq_true rfl, Nat.le_of_ble_eq_true rfl⟩ ⟨Nat.le_of_ble_eq_true rfl, Nat.le_of_ble_eq_true rfl⟩ hO ([IA cy qw 20 fw, LA cy qn 20 fn, LA cy qs 20 fs, LA cy qb 6 fb, LA cy qp 6 fp, LA cy qu 6 (iup fu jj ((fu jj) + mkv)), LA cy qa 8 (iup (iup (iup fa 0 ((fa 0) + (oS (gTr_bu T) K))) 2 ((fa 2) + mkv)) 3 ((fa 3) + mkv))] : List va_W) (jI 0) (jI (K : Int)) (jI 0) (Nat.le_of_ble_eq_true rfl) dL_day_1071 (vo_00 hG hkn) ?_
            refine ij_ei ((jj : Nat) : Int) hj.symm ?_
            refine zj_dup2 C dL_day_1074 rfl rfl ?_
            refine ij_laload C 3 (f := fb) jj rfl (by omega) (by decide) rfl dL_day_1075 ?_
            refine zj_lload C dL_day_1076 1 rfl ?_
            refine ij_ladd C dL_day_1078 ?_
            refine ij_lastore C 3 (f := fb) (ws' := (([IA cy qw 20 fw, LA cy qn 20 fn, LA cy qs 20 fs, LA cy qb 6 (iup fb jj ((fb jj) + (oS (gTr_bu T) K))), LA cy qp 6 fp, LA cy qu 6 (iup fu jj ((fu jj) + mkv)), LA cy qa 8 (iup (iup (iup fa 0 ((fa 0) + (oS (gTr_bu T) K))) 2 ((fa 2) + mkv)) 3 ((fa 3) + mkv))] : List va_W) ++ LB cy x0 x1 x2 d0 d1 p0 p1 h0 h1 a b hs sl T U x z y s).flatten) jj rfl (by omega) (by decide) rfl dL_day_1079 rfl ?_
            refine ij_iinc C (j := 2) (L2 := [(32, .int (jI ((K + 1 : Nat) : Int))), (35, .long (jL mkv)), (33, .long (jL (oS (gTr_bu T) K))), (31, .int (jI lt)), (26, .long (jL (pI T))), (25, .int (jI (2 + dirI T))), (13, .long (jL (wI T))), (10, .ref qw), (9, .ref qn), (8, .ref qs), (7, .ref qb), (6, .ref qp), (5, .ref qu), (4, .ref qa), (3, .int (jI (gOd_n (gTr_bu T) : Int))), (2, .int (jI (gOd_n (gTr_le T) : Int))), (1, .int (jI (dI T))), (0, .ref x0)]) ((K + 1 : Nat) : Int) (by omega) dL_day_1080 rfl (by decide) rfl ?_
            refine zj_goto C 930 dL_day_1083 (by decide) ?_
            refine zj_sub (L' := [(32, .int (jI ((K + 1 : Nat) : Int))), (31, .int (jI lt)), (26, .long (jL (pI T))), (25, .int (jI (2 + dirI T))), (13, .long (jL (wI T))), (10, .ref qw), (9, .ref qn), (8, .ref qs), (7, .ref qb), (6, .ref qp), (5, .ref qu), (4, .ref qa), (3, .int (jI (gOd_n (gTr_bu T) : Int))), (2, .int (jI (gOd_n (gTr_le T) : Int))), (1, .int (jI (dI T))), (0, .ref x0)]) [0, 3, 4, 5, 6, 7, 8, 9, 10, 11, 12, 13, 14, 15, 16, 17] rfl ?_
            obtain ⟨n1, n2, n3, n4, n5, n6, n7, n8, n9, n10, n11, n12⟩ := pyes (by omega)
            refine ih (K + 1) (K + 1) lt _ _ _ (by omega) (Or.inl ⟨rfl, by omega⟩) (by omega) ⟨?_, ?_, ?_, ?_, ?_, ?_, ?_, fun j hj6 => ?_⟩
            · show fa 0 + oS (gTr_bu T) K = _; omega
            · show fa 1 = _; omega
            · show fa 2 + mkv = _; omega
            · show fa 3 + mkv = _; omega
            · show fa 4 = _; omega
            · show fa 5 = _; omega
            · show fa 6 = _; omega
            · obtain ⟨z1, z2⟩ := c7 j hj6
              unfold iup
              by_cases ej : j = jj
              · subst ej; rw [if_pos rfl, if_pos rfl]; exact ⟨by omega, by omega⟩
              · rw [if_neg ej, if_neg ej]; obtain ⟨z3, z4⟩ := n2 j ej; have z5 := z3.1; exact ⟨by omega, by omega⟩
          · skip
            exact J2 (Or.inr (by omega))
      refine ij_lcmp_ne C 976 dL_day_968 dL_day_969 (by decide) ⟨by omega, by omega⟩ ⟨by decide, by decide⟩ (fun hpz => ?_) (fun hpz => ?_)
      · skip
        have emk : mkv = 1000 * oS (gTr_bu T) K / pI T := by rw [hmk]; exact if_neg (by omega)
        refine zj_ldc2 C dL_day_976 tgv_471 ?_
        refine ij_l 1000 (by decide) ?_
        refine zj_lload C dL_day_979 0 rfl ?_
        refine ij_lmul C dL_day_981 ?_
        refine zj_lload C dL_day_982 3 rfl ?_
        refine ij_ldiv C ⟨by omega, by omega⟩ ⟨by omega, by omega⟩ dL_day_984 ?_
        refine ij_el mkv emk.symm ?_
        exact J1
      · skip
        have emk : mkv = 0 := by rw [hmk]; exact if_pos (by omega)
        refine zj_lconst C (v := jL 0) dL_day_972 (by decide) ?_
        refine ij_el mkv emk.symm ?_
        refine zj_goto C 985 dL_day_973 (by decide) ?_
        exact J1
    · skip
      have hke : ¬ k < runE T := fun q => by have := hiff.mp q; omega
      refine ij_iinc C (j := 1) (L2 := [(31, .int (jI (lt + 1))), (32, .int (jI (k : Int))), (26, .long (jL (pI T))), (25, .int (jI (2 + dirI T))), (13, .long (jL (wI T))), (10, .ref qw), (9, .ref qn), (8, .ref qs), (7, .ref qb), (6, .ref qp), (5, .ref qu), (4, .ref qa), (3, .int (jI (gOd_n (gTr_bu T) : Int))), (2, .int (jI (gOd_n (gTr_le T) : Int))), (1, .int (jI (dI T))), (0, .ref x0)]) (lt + 1) rfl dL_day_948 rfl (by decide) rfl ?_
      refine zj_goto C 1080 dL_day_951 (by decide) ?_
      refine ij_iinc C (j := 1) (L2 := [(32, .int (jI ((k + 1 : Nat) : Int))), (31, .int (jI (lt + 1))), (26, .long (jL (pI T))), (25, .int (jI (2 + dirI T))), (13, .long (jL (wI T))), (10, .ref qw), (9, .ref qn), (8, .ref qs), (7, .ref qb), (6, .ref qp), (5, .ref qu), (4, .ref qa), (3, .int (jI (gOd_n (gTr_bu T) : Int))), (2, .int (jI (gOd_n (gTr_le T) : Int))), (1, .int (jI (dI T))), (0, .ref x0)]) ((k + 1 : Nat) : Int) (by omega) dL_day_1080 rfl (by decide) rfl ?_
      refine zj_goto C 930 dL_day_1083 (by decide) ?_
      refine zj_sub (L' := [(32, .int (jI ((k + 1 : Nat) : Int))), (31, .int (jI (lt + 1))), (26, .long (jL (pI T))), (25, .int (jI (2 + dirI T))), (13, .long (jL (wI T))), (10, .ref qw), (9, .ref qn), (8, .ref qs), (7, .ref qb), (6, .ref qp), (5, .ref qu), (4, .ref qa), (3, .int (jI (gOd_n (gTr_bu T) : Int))), (2, .int (jI (gOd_n (gTr_le T) : Int))), (1, .int (jI (dI T))), (0, .ref x0)]) [0, 1, 2, 3, 4, 5, 6, 7, 8, 9, 10, 11, 12, 13, 14, 15] rfl ?_
      exact ih (k + 1) K _ _ _ _ (by omega) (Or.inr ⟨by omega, by omega⟩) (by omega) hpd
end DAYD
