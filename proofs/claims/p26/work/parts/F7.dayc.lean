/-! day: those who leave are paid. Written by wip/p26/law7.py -/
/-- what the rows of the day hold when k orders have been paid or not -/
def pC (x : zDd) (T : zTr) (k : Nat) (fa fu fp fn : Nat → Int) : Prop := fa 0 = cI (runP x T k).1 ∧ fa 1 = lI (runP x T k).1 ∧ fa 2 = uAll (runP x T k).1 ∧ fa 3 = 0 ∧ fa 4 = lfI (runP x T k).1 ∧ fa 5 = soI (runP x T k).1 ∧ fa 6 = 0 ∧ (∀ j, j < 6 → fu j = uU (runP x T k).1 j ∧ fp j = paI (runP x T k).1 j) ∧ ∀ j, j < gOd_n (gTr_le T) → fn j = oS (gTr_le (runP x T k).1) j
section DAYC
variable {E : zE} {cy : Nat → ClassId} {l : Launch} {D : va_G} {x0 x1 x2 d0 d1 p0 p1 h0 h1 : Nat} {a b : Nat → Nat} {hs sl : Nat → Nat → Nat} {T U : zTr} {x : zDd} {z : zPd} {y : zHs} {s : zSl} {Dd c : Int}
set_option maxHeartbeats 4000000 in
set_option maxRecDepth 100000 in
theorem day_c1 (C : zO E cL_day 37 "SwingUnitsLaw" rm_day cy l D) (hG : GI Dd c T) (hO : LO T z y s) {qa qu qp qb qs qn qw : Nat} {fu fp fb fs fn fw : Nat → Int} {am br : Int} {k : Nat} (hbr : 0 ≤ br ∧ br ≤ 10000) (ham : 0 ≤ am ∧ am ≤ 20020000000) : ∀ (m : Nat) (fa : Nat → Int), fa 1 = m → m ≤ 1000 → 0 ≤ fa 0 → fa 0 + 10000 * m ≤ 9020000000 → (∀ fa1 : Nat → Int, fa1 0 = fa 0 + (sellN am br (fa 0) m : Int) * br → fa1 1 = fa 1 - (sellN am br (fa 0) m : Int) → fa1 5 = fa 5 + (sellN am br (fa 0) m : Int) → (∀ i, i ≠ 0 → i ≠ 1 → i ≠ 5 → fa1 i = fa i) → zJ E 37 7 86 (([IA cy qw 20 fw, LA cy qn 20 fn, LA cy qs 20 fs, LA cy qb 6 fb, LA cy qp 6 fp, LA cy qu 6 fu, LA cy qa 8 fa1] : List va_W) ++ LB cy x0 x1 x2 d0 d1 p0 p1 h0 h1 a b hs sl T U x z y s).flatten 827 [(32, .long (jL am)), (31, .int (jI (k : Int))), (30, .int (jI 1)), (28, .long (jL br)), (26, .long (jL (pI T))), (25, .int (jI (2 + dirI T))), (13, .long (jL (wI T))), (10, .ref qw), (9, .ref qn), (8, .ref qs), (7, .ref qb), (6, .ref qp), (5, .ref qu), (4, .ref qa), (3, .int (jI (gOd_n (gTr_bu T) : Int))), (2, .int (jI (gOd_n (gTr_le T) : Int))), (1, .int (jI (dI T))), (0, .ref x0)] []) → zJ E 37 7 86 (([IA cy qw 20 fw, LA cy qn 20 fn, LA cy qs 20 fs, LA cy qb 6 fb, LA cy qp 6 fp, LA cy qu 6 fu, LA cy qa 8 fa] : List va_W) ++ LB cy x0 x1 x2 d0 d1 p0 p1 h0 h1 a b hs sl T U x z y s).flatten 780 [(32, .long (jL am)), (31, .int (jI (k : Int))), (30, .int (jI 1)), (28, .long (jL br)), (26, .long (jL (pI T))), (25, .int (jI (2 + dirI T))), (13, .long (jL (wI T))), (10, .ref qw), (9, .ref qn), (8, .ref qs), (7, .ref qb), (6, .ref qp), (5, .ref qu), (4, .ref qa), (3, .int (jI (gOd_n (gTr_bu T) : Int))), (2, .int (jI (gOd_n (gTr_le T) : Int))), (1, .int (jI (dI T))), (0, .ref x0)] [] := by
  intro m
  induction m with
  | zero =>
    intro fa e1 hm g1 g2 kk
    have k0 := kk fa (by show _ = fa 0 + (0 : Int) * br; omega) (by show _ = fa 1 - (0 : Int); omega) (by show _ = fa 5 + (0 : Int); omega) (fun _ _ _ _ => rfl)
    have e1z : fa 1 = 0 := e1
    refine zj_aload C dL_day_780 13 rfl ?_
    refine ij_iconst C dL_day_782 ?_
    refine ij_laload C 6 (f := fa) 0 rfl (by decide) (by decide) rfl dL_day_783 ?_
    refine zj_lload C dL_day_784 0 rfl ?_
    refine ij_lcmp_ge C 827 dL_day_786 dL_day_787 (by decide) ⟨by omega, by omega⟩ ⟨by omega, by omega⟩ (fun hb => ?_) (fun hb => ?_)
    · skip
      exact k0
    · skip
      refine zj_aload C dL_day_790 13 rfl ?_
      refine ij_iconst C dL_day_792 ?_
      refine ij_laload C 6 (f := fa) 1 rfl (by decide) (by decide) rfl dL_day_793 ?_
      refine zj_lconst C (v := jL 0) dL_day_794 (by decide) ?_
      refine ij_lcmp_le C 827 dL_day_795 dL_day_796 (by decide) ⟨by omega, by omega⟩ ⟨by decide, by decide⟩ (fun _ => ?_) (fun h => False.elim (by omega))
      exact k0
  | succ m ih =>
    intro fa e1 hm g1 g2 kk
    refine zj_aload C dL_day_780 13 rfl ?_
    refine ij_iconst C dL_day_782 ?_
    refine ij_laload C 6 (f := fa) 0 rfl (by decide) (by decide) rfl dL_day_783 ?_
    refine zj_lload C dL_day_784 0 rfl ?_
    refine ij_lcmp_ge C 827 dL_day_786 dL_day_787 (by decide) ⟨by omega, by omega⟩ ⟨by omega, by omega⟩ (fun hb => ?_) (fun hb => ?_)
    · skip
      have en : sellN am br (fa 0) (m + 1) = 0 := if_pos (by omega)
      rw [en] at kk
      exact kk fa (by show _ = fa 0 + (0 : Int) * br; omega) (by show _ = fa 1 - (0 : Int); omega) (by show _ = fa 5 + (0 : Int); omega) (fun _ _ _ _ => rfl)
    · skip
      have en : sellN am br (fa 0) (m + 1) = sellN am br (fa 0 + br) m + 1 := if_neg (by omega)
      refine zj_aload C dL_day_790 13 rfl ?_
      refine ij_iconst C dL_day_792 ?_
      refine ij_laload C 6 (f := fa) 1 rfl (by decide) (by decide) rfl dL_day_793 ?_
      refine zj_lconst C (v := jL 0) dL_day_794 (by decide) ?_
      refine ij_lcmp_le C 827 dL_day_795 dL_day_796 (by decide) ⟨by omega, by omega⟩ ⟨by decide, by decide⟩ (fun h => False.elim (by omega)) (fun _ => ?_)
      refine zj_aload C dL_day_799 13 rfl ?_
      refine ij_iconst C dL_day_801 ?_
      refine zj_dup2 C dL_day_802 rfl rfl ?_
      refine ij_laload C 6 (f := fa) 0 rfl (by decide) (by decide) rfl dL_day_803 ?_
      refine zj_lload C dL_day_804 3 rfl ?_
      refine ij_ladd C dL_day_806 ?_
      refine ij_lastore C 6 (f := fa) (ws' := (([IA cy qw 20 fw, LA cy qn 20 fn, LA cy qs 20 fs, LA cy qb 6 fb, LA cy qp 6 fp, LA cy qu 6 fu, LA cy qa 8 (iup fa 0 ((fa 0) + br))] : List va_W) ++ LB cy x0 x1 x2 d0 d1 p0 p1 h0 h1 a b hs sl T U x z y s).flatten) 0 rfl (by decide) (by decide) rfl dL_day_807 rfl ?_
      refine zj_aload C dL_day_808 13 rfl ?_
      refine ij_iconst C dL_day_810 ?_
      refine zj_dup2 C dL_day_811 rfl rfl ?_
      refine ij_laload C 6 (f := (iup fa 0 ((fa 0) + br))) 1 rfl (by decide) (by decide) rfl dL_day_812 ?_
      refine ij_el (fa 1) rfl ?_
      refine zj_lconst C (v := jL 1) dL_day_813 (by decide) ?_
      refine ij_lsub C dL_day_814 ?_
      refine ij_lastore C 6 (f := (iup fa 0 ((fa 0) + br))) (ws' := (([IA cy qw 20 fw, LA cy qn 20 fn, LA cy qs 20 fs, LA cy qb 6 fb, LA cy qp 6 fp, LA cy qu 6 fu, LA cy qa 8 (iup (iup fa 0 ((fa 0) + br)) 1 ((fa 1) - 1))] : List va_W) ++ LB cy x0 x1 x2 d0 d1 p0 p1 h0 h1 a b hs sl T U x z y s).flatten) 1 rfl (by decide) (by decide) rfl dL_day_815 rfl ?_
      refine zj_aload C dL_day_816 13 rfl ?_
      refine ij_iconst C dL_day_818 ?_
      refine zj_dup2 C dL_day_819 rfl rfl ?_
      refine ij_laload C 6 (f := (iup (iup fa 0 ((fa 0) + br)) 1 ((fa 1) - 1))) 5 rfl (by decide) (by decide) rfl dL_day_820 ?_
      refine ij_el (fa 5) rfl ?_
      refine zj_lconst C (v := jL 1) dL_day_821 (by decide) ?_
      refine ij_ladd C dL_day_822 ?_
      refine ij_lastore C 6 (f := (iup (iup fa 0 ((fa 0) + br)) 1 ((fa 1) - 1))) (ws' := (([IA cy qw 20 fw, LA cy qn 20 fn, LA cy qs 20 fs, LA cy qb 6 fb, LA cy qp 6 fp, LA cy qu 6 fu, LA cy qa 8 (iup (iup (iup fa 0 ((fa 0) + br)) 1 ((fa 1) - 1)) 5 ((fa 5) + 1))] : List va_W) ++ LB cy x0 x1 x2 d0 d1 p0 p1 h0 h1 a b hs sl T U x z y s).flatten) 5 rfl (by decide) (by decide) rfl dL_day_823 rfl ?_
      refine zj_goto C 780 dL_day_824 (by decide) ?_
      refine ih _ (by show fa 1 - 1 = _; omega) (by omega) (by show 0 ≤ fa 0 + br; omega) (by show fa 0 + br + 10000 * (m : Int) ≤ _; omega) (fun fa1 q0 q1 q5 qo => ?_)
      have q0 : fa1 0 = fa 0 + br + (sellN am br (fa 0 + br) m : Int) * br := q0
      have q1 : fa1 1 = fa 1 - 1 - (sellN am br (fa 0 + br) m : Int) := q1
      have q5 : fa1 5 = fa 5 + 1 + (sellN am br (fa 0 + br) m : Int) := q5
      refine kk fa1 ?_ ?_ ?_ (fun i i0 i1 i5 => ?_)
      · rw [en, q0, Int.natCast_add, Int.add_mul]; omega
      · rw [en, q1]; omega
      · rw [en, q5]; omega
      · rw [qo i i0 i1 i5, iup_n _ _ i5, iup_n _ _ i1, iup_n _ _ i0]
set_option maxHeartbeats 4000000 in
set_option maxRecDepth 100000 in
theorem day_c2 (C : zO E cL_day 37 "SwingUnitsLaw" rm_day cy l D) (hG : GI Dd c T) (hO : LO T z y s) {qa qu qp qb qs qn qw : Nat} {S0 : zMs} {sm : Nat → Int64} (hc : ctx T (runX x T) sm (runD T)) (hPI : ∀ k, k ≤ runD T → PI S0 T (runX x T) sm (20000 + 4 * qI T) (runP x T k).1 k) (hl : 0 ≤ lI T ∧ lI T ≤ 1000) (hq : 0 ≤ (brB (qI T) (sI T 4)) ∧ (brB (qI T) (sI T 4)) ≤ 10000) {fb fs fw : Nat → Int} (hfs : (∀ i, i < runD T → fs i = (gDd_sh (runX x T) i).toInt) ∧ ∀ i, runD T ≤ i → fs i = 0) (hfw : ∀ j, j < gOd_n (gTr_le T) → fw j = oH (gTr_le T) j) (kk : ∀ fa fu fp fn : Nat → Int, pC x T (runD T) fa fu fp fn → zJ E 37 7 86 (([IA cy qw 20 fw, LA cy qn 20 fn, LA cy qs 20 fs, LA cy qb 6 fb, LA cy qp 6 fp, LA cy qu 6 fu, LA cy qa 8 fa] : List va_W) ++ LB cy x0 x1 x2 d0 d1 p0 p1 h0 h1 a b hs sl T U x z y s).flatten 924 [(26, .long (jL (pI T))), (25, .int (jI (2 + dirI T))), (13, .long (jL (wI T))), (10, .ref qw), (9, .ref qn), (8, .ref qs), (7, .ref qb), (6, .ref qp), (5, .ref qu), (4, .ref qa), (3, .int (jI (gOd_n (gTr_bu T) : Int))), (2, .int (jI (gOd_n (gTr_le T) : Int))), (1, .int (jI (dI T))), (0, .ref x0)] []) : ∀ (m k K : Nat) (fa fu fp fn : Nat → Int), k + m = gOd_n (gTr_le T) → (K = k ∧ k ≤ runD T ∨ K = runD T ∧ runD T ≤ k) → (runP x T K).2 = true → pC x T K fa fu fp fn → zJ E 37 7 86 (([IA cy qw 20 fw, LA cy qn 20 fn, LA cy qs 20 fs, LA cy qb 6 fb, LA cy qp 6 fp, LA cy qu 6 fu, LA cy qa 8 fa] : List va_W) ++ LB cy x0 x1 x2 d0 d1 p0 p1 h0 h1 a b hs sl T U x z y s).flatten 742 [(31, .int (jI (k : Int))), (30, .int (jI 1)), (28, .long (jL (brB (qI T) (sI T 4)))), (26, .long (jL (pI T))), (25, .int (jI (2 + dirI T))), (13, .long (jL (wI T))), (10, .ref qw), (9, .ref qn), (8, .ref qs), (7, .ref qb), (6, .ref qp), (5, .ref qu), (4, .ref qa), (3, .int (jI (gOd_n (gTr_bu T) : Int))), (2, .int (jI (gOd_n (gTr_le T) : Int))), (1, .int (jI (dI T))), (0, .ref x0)] [] := by
  have rdI := (GI_r hG).2.2.2.2.2.2.2.2.1
  have rnb := (GI_r hG).2.2.2.2.2.2.2.2.2.1
  have rnl := (GI_r hG).2.2.2.2.2.2.2.2.2.2.1
  have hdl : runD T ≤ gOd_n (gTr_le T) := xdue_le
  have hOl := hG.1.2.2.1
  intro m
  induction m with
  | zero =>
    intro k K fa fu fp fn hk hK hg hp
    have ek : K = runD T := by omega
    subst ek
    refine zj_iload C dL_day_742 0 rfl ?_
    refine zj_iload_n C dL_day_744 14 rfl ?_
    refine ij_icmp_ge C 924 dL_day_745 (by decide) ⟨by omega, by omega⟩ ⟨by omega, by omega⟩ (fun _ => ?_) (fun h => False.elim (by omega))
    refine zj_sub (L' := [(26, .long (jL (pI T))), (25, .int (jI (2 + dirI T))), (13, .long (jL (wI T))), (10, .ref qw), (9, .ref qn), (8, .ref qs), (7, .ref qb), (6, .ref qp), (5, .ref qu), (4, .ref qa), (3, .int (jI (gOd_n (gTr_bu T) : Int))), (2, .int (jI (gOd_n (gTr_le T) : Int))), (1, .int (jI (dI T))), (0, .ref x0)]) [3, 4, 5, 6, 7, 8, 9, 10, 11, 12, 13, 14, 15, 16] rfl ?_
    exact kk _ _ _ _ hp
  | succ m ih =>
    intro k K fa fu fp fn hk hK hg hp
    have hkn : k < gOd_n (gTr_le T) := by omega
    have hsr : 0 ≤ fs k ∧ fs k ≤ 1000000000 := by
      by_cases e : k < runD T
      · obtain ⟨-, e1, e2⟩ := hc.2.2.2.2.2.1 k e; have := (hOl.2.1 k hkn).2.2; rw [hfs.1 k e]; omega
      · rw [hfs.2 k (by omega)]; omega
    refine zj_iload C dL_day_742 0 rfl ?_
    refine zj_iload_n C dL_day_744 14 rfl ?_
    refine ij_icmp_ge C 924 dL_day_745 (by decide) ⟨by omega, by omega⟩ ⟨by omega, by omega⟩ (fun h => False.elim (by omega)) (fun _ => ?_)
    refine zj_iload C dL_day_748 1 rfl ?_
    refine ij_if_eq C 924 dL_day_750 (by decide) ⟨by decide, by decide⟩ (fun h => False.elim (by omega)) (fun _ => ?_)
    refine zj_aload C dL_day_753 8 rfl ?_
    refine zj_iload C dL_day_755 0 rfl ?_
    refine ij_laload C 2 (f := fs) k rfl (by omega) (by decide) rfl dL_day_757 ?_
    refine zj_lconst C (v := jL 0) dL_day_758 (by decide) ?_
    refine ij_lcmp_ne C 766 dL_day_759 dL_day_760 (by decide) ⟨by omega, by omega⟩ ⟨by decide, by decide⟩ (fun hz => ?_) (fun hz => ?_)
    · skip
      have hkd : k < runD T := by
        by_cases e : k < runD T
        · exact e
        · exact absurd (hfs.2 k (by omega)) hz
      have eK : K = k := by omega
      subst eK
      have es := hfs.1 K hkd
      obtain ⟨⟨XX, hS⟩, hXP, -⟩ := hPI K (by omega)
      have hP := hS.2.1
      have hP1 := hP
      obtain ⟨s1, s2, s3, s4, s5, s6, s7, s8⟩ := share_in hc hP hkd
      have hcash : cI (runP x T K).1 ≤ 9000000000 := iP_cash hc hP
      have hcash0 : 0 ≤ cI (runP x T K).1 := by have := hP.2.2.1; unfold cI; omega
      have hlots : 0 ≤ lI (runP x T K).1 ∧ lI (runP x T K).1 ≤ 1000 := hP.2.1
      have hsub : runP x T (K + 1) = ((f_X0_payLeaver (runX x T) (runP x T K).1 K).2, (f_X0_payLeaver (runX x T) (runP x T K).1 K).1) := by
        show payS _ _ _ = _
        rw [payS_s, if_neg (by rw [show (payS (runX x T) (runL x T) K).2 = true from hg]; decide), if_neg (by rw [i64_le_iff]; have : (0 : Int64).toInt = 0 := rfl; omega)]; rfl
      obtain ⟨am, eam⟩ : ∃ am, am = fs K * pI T / 1000 := ⟨_, rfl⟩
      obtain ⟨br, ebr⟩ : ∃ br, br = (brB (qI T) (sI T 4)) := ⟨_, rfl⟩
      obtain ⟨pj, pN, pam, psu, pss, pst, pgo⟩ := pay_st hc hP hXP hl hkd (by omega) (hJ T K) rfl (fs K) am br es (by rw [eam]) ebr _ rfl
      obtain ⟨c0, c1, c2, c3, c4, c5, c6, c7, c8⟩ := hp
      rw [← es] at s7 s8
      have hj2 : fw K = ((hJ T K : Nat) : Int) := by
        rw [hfw K hkn]; have e := (hJ_of hOl (k := K) hkn); show (gOd_ho (gTr_le T) K).toInt = _; rw [e.1]; exact nI_int (by omega)
      rw [← ebr] at hq ih ⊢
      refine zj_aload C dL_day_766 8 rfl ?_
      refine zj_iload C dL_day_768 0 rfl ?_
      refine ij_laload C 2 (f := fs) K rfl (by omega) (by decide) rfl dL_day_770 ?_
      refine zj_lload C dL_day_771 3 rfl ?_
      refine ij_lmul C dL_day_773 ?_
      refine zj_ldc2 C dL_day_774 tgv_471 ?_
      refine ij_l 1000 (by decide) ?_
      refine ij_ldiv C ⟨by omega, by omega⟩ ⟨by decide, by decide⟩ dL_day_777 ?_
      refine ij_el am eam.symm ?_
      refine zj_lstore C (L' := [(32, .long (jL am)), (31, .int (jI (K : Int))), (30, .int (jI 1)), (28, .long (jL br)), (26, .long (jL (pI T))), (25, .int (jI (2 + dirI T))), (13, .long (jL (wI T))), (10, .ref qw), (9, .ref qn), (8, .ref qs), (7, .ref qb), (6, .ref qp), (5, .ref qu), (4, .ref qa), (3, .int (jI (gOd_n (gTr_bu T) : Int))), (2, .int (jI (gOd_n (gTr_le T) : Int))), (1, .int (jI (dI T))), (0, .ref x0)]) dL_day_778 (by decide) rfl ?_
      refine zj_sub (L' := [(32, .long (jL am)), (31, .int (jI (K : Int))), (30, .int (jI 1)), (28, .long (jL br)), (26, .long (jL (pI T))), (25, .int (jI (2 + dirI T))), (13, .long (jL (wI T))), (10, .ref qw), (9, .ref qn), (8, .ref qs), (7, .ref qb), (6, .ref qp), (5, .ref qu), (4, .ref qa), (3, .int (jI (gOd_n (gTr_bu T) : Int))), (2, .int (jI (gOd_n (gTr_le T) : Int))), (1, .int (jI (dI T))), (0, .ref x0)]) [0, 1, 2, 3, 4, 5, 6, 7, 8, 9, 10, 11, 12, 13, 14, 15, 16, 17] rfl ?_
      refine day_c1 C hG hO ⟨by omega, by omega⟩ ⟨by omega, by omega⟩ (lI (runP x T K).1).toNat fa (by omega) (by omega) (by omega) (by omega) (fun fa1 q0 q1 q5 qo => ?_)
      rw [c0] at q0 q1 q5
      obtain ⟨N, eN⟩ : ∃ N, N = sellN am br (cI (runP x T K).1) (lI (runP x T K).1).toNat := ⟨_, rfl⟩
      rw [← eN] at q0 q1 q5 pN pst pgo
      have hNb : 0 ≤ (N : Int) * br ∧ (N : Int) * br ≤ 1000 * 10000 := ⟨Int.mul_nonneg (by omega) (by omega), Int.mul_le_mul (by omega) (by omega) (by omega) (by decide)⟩
      show zJ E 37 7 86 (([IA cy qw 20 fw, LA cy qn 20 fn, LA cy qs 20 fs, LA cy qb 6 fb, LA cy qp 6 fp, LA cy qu 6 fu, LA cy qa 8 fa1] : List va_W) ++ LB cy x0 x1 x2 d0 d1 p0 p1 h0 h1 a b hs sl T U x z y s).flatten 827 [(32, .long (jL am)), (31, .int (jI (K : Int))), (30, .int (jI 1)), (28, .long (jL br)), (26, .long (jL (pI T))), (25, .int (jI (2 + dirI T))), (13, .long (jL (wI T))), (10, .ref qw), (9, .ref qn), (8, .ref qs), (7, .ref qb), (6, .ref qp), (5, .ref qu), (4, .ref qa), (3, .int (jI (gOd_n (gTr_bu T) : Int))), (2, .int (jI (gOd_n (gTr_le T) : Int))), (1, .int (jI (dI T))), (0, .ref x0)] []
      refine zj_aload C dL_day_827 13 rfl ?_
      refine ij_iconst C dL_day_829 ?_
      refine ij_laload C 6 (f := fa1) 0 rfl (by decide) (by decide) rfl dL_day_830 ?_
      refine zj_lload C dL_day_831 0 rfl ?_
      refine ij_lcmp_ge C 843 dL_day_833 dL_day_834 (by decide) ⟨by omega, by omega⟩ ⟨by omega, by omega⟩ (fun hy => ?_) (fun hy => ?_)
      · skip
        obtain ⟨T2, e, r1, r2, r3, r4, r5, r6, r7, r8, r9, r10, r11, r12, r13, r14, r15, r16, r17, r18, r19, r20⟩ := pgo (by omega)
        rw [e] at hsub
        refine zj_aload C dL_day_843 13 rfl ?_
        refine ij_iconst C dL_day_845 ?_
        refine zj_dup2 C dL_day_846 rfl rfl ?_
        refine ij_laload C 6 (f := fa1) 0 rfl (by decide) (by decide) rfl dL_day_847 ?_
        refine zj_lload C dL_day_848 0 rfl ?_
        refine ij_lsub C dL_day_850 ?_
        refine ij_lastore C 6 (f := fa1) (ws' := (([IA cy qw 20 fw, LA cy qn 20 fn, LA cy qs 20 fs, LA cy qb 6 fb, LA cy qp 6 fp, LA cy qu 6 fu, LA cy qa 8 (iup fa1 0 ((fa1 0) - am))] : List va_W) ++ LB cy x0 x1 x2 d0 d1 p0 p1 h0 h1 a b hs sl T U x z y s).flatten) 0 rfl (by decide) (by decide) rfl dL_day_851 rfl ?_
        refine zj_aload C dL_day_852 13 rfl ?_
        refine ij_iconst C dL_day_854 ?_
        refine zj_dup2 C dL_day_855 rfl rfl ?_
        refine ij_laload C 6 (f := (iup fa1 0 ((fa1 0) - am))) 2 rfl (by decide) (by decide) rfl dL_day_856 ?_
        refine ij_el (fa1 2) rfl ?_
        refine zj_aload C dL_day_857 9 rfl ?_
        refine zj_iload C dL_day_859 1 rfl ?_
        refine ij_laload C 2 (f := fs) K rfl (by omega) (by decide) rfl dL_day_861 ?_
        refine ij_lsub C dL_day_862 ?_
        refine ij_lastore C 6 (f := (iup fa1 0 ((fa1 0) - am))) (ws' := (([IA cy qw 20 fw, LA cy qn 20 fn, LA cy qs 20 fs, LA cy qb 6 fb, LA cy qp 6 fp, LA cy qu 6 fu, LA cy qa 8 (iup (iup fa1 0 ((fa1 0) - am)) 2 ((fa1 2) - (fs K)))] : List va_W) ++ LB cy x0 x1 x2 d0 d1 p0 p1 h0 h1 a b hs sl T U x z y s).flatten) 2 rfl (by decide) (by decide) rfl dL_day_863 rfl ?_
        refine zj_aload C dL_day_864 13 rfl ?_
        refine ij_iconst C dL_day_866 ?_
        refine zj_dup2 C dL_day_867 rfl rfl ?_
        refine ij_laload C 6 (f := (iup (iup fa1 0 ((fa1 0) - am)) 2 ((fa1 2) - (fs K)))) 4 rfl (by decide) (by decide) rfl dL_day_868 ?_
        refine ij_el (fa1 4) rfl ?_
        refine zj_aload C dL_day_869 9 rfl ?_
        refine zj_iload C dL_day_871 1 rfl ?_
        refine ij_laload C 2 (f := fs) K rfl (by omega) (by decide) rfl dL_day_873 ?_
        refine ij_ladd C dL_day_874 ?_
        refine ij_lastore C 6 (f := (iup (iup fa1 0 ((fa1 0) - am)) 2 ((fa1 2) - (fs K)))) (ws' := (([IA cy qw 20 fw, LA cy qn 20 fn, LA cy qs 20 fs, LA cy qb 6 fb, LA cy qp 6 fp, LA cy qu 6 fu, LA cy qa 8 (iup (iup (iup fa1 0 ((fa1 0) - am)) 2 ((fa1 2) - (fs K))) 4 ((fa1 4) + (fs K)))] : List va_W) ++ LB cy x0 x1 x2 d0 d1 p0 p1 h0 h1 a b hs sl T U x z y s).flatten) 4 rfl (by decide) (by decide) rfl dL_day_875 rfl ?_
        refine zj_aload C dL_day_876 12 rfl ?_
        refine zj_aload C dL_day_878 7 rfl ?_
        refine zj_iload C dL_day_880 1 rfl ?_
        refine ij_iaload C 0 (f := fw) K rfl (by omega) (by decide) rfl dL_day_882 ?_
        refine ij_ei ((hJ T K : Nat) : Int) hj2 ?_
        refine zj_dup2 C dL_day_883 rfl rfl ?_
        refine ij_laload C 5 (f := fu) (hJ T K) rfl (by omega) (by decide) rfl dL_day_884 ?_
        refine zj_aload C dL_day_885 9 rfl ?_
        refine zj_iload C dL_day_887 1 rfl ?_
        refine ij_laload C 2 (f := fs) K rfl (by omega) (by decide) rfl dL_day_889 ?_
        refine ij_lsub C dL_day_890 ?_
        refine ij_lastore C 5 (f := fu) (ws' := (([IA cy qw 20 fw, LA cy qn 20 fn, LA cy qs 20 fs, LA cy qb 6 fb, LA cy qp 6 fp, LA cy qu 6 (iup fu (hJ T K) ((fu (hJ T K)) - (fs K))), LA cy qa 8 (iup (iup (iup fa1 0 ((fa1 0) - am)) 2 ((fa1 2) - (fs K))) 4 ((fa1 4) + (fs K)))] : List va_W) ++ LB cy x0 x1 x2 d0 d1 p0 p1 h0 h1 a b hs sl T U x z y s).flatten) (hJ T K) rfl (by omega) (by decide) rfl dL_day_891 rfl ?_
        refine zj_aload C dL_day_892 11 rfl ?_
        refine zj_aload C dL_day_894 7 rfl ?_
        refine zj_iload C dL_day_896 1 rfl ?_
        refine ij_iaload C 0 (f := fw) K rfl (by omega) (by decide) rfl dL_day_898 ?_
        refine ij_ei ((hJ T K : Nat) : Int) hj2 ?_
        refine zj_dup2 C dL_day_899 rfl rfl ?_
        refine ij_laload C 4 (f := fp) (hJ T K) rfl (by omega) (by decide) rfl dL_day_900 ?_
        refine zj_lload C dL_day_901 0 rfl ?_
        refine ij_ladd C dL_day_903 ?_
        refine ij_lastore C 4 (f := fp) (ws' := (([IA cy qw 20 fw, LA cy qn 20 fn, LA cy qs 20 fs, LA cy qb 6 fb, LA cy qp 6 (iup fp (hJ T K) ((fp (hJ T K)) + am)), LA cy qu 6 (iup fu (hJ T K) ((fu (hJ T K)) - (fs K))), LA cy qa 8 (iup (iup (iup fa1 0 ((fa1 0) - am)) 2 ((fa1 2) - (fs K))) 4 ((fa1 4) + (fs K)))] : List va_W) ++ LB cy x0 x1 x2 d0 d1 p0 p1 h0 h1 a b hs sl T U x z y s).flatten) (hJ T K) rfl (by omega) (by decide) rfl dL_day_904 rfl ?_
        refine zj_aload C dL_day_905 8 rfl ?_
        refine zj_iload C dL_day_907 1 rfl ?_
        refine zj_dup2 C dL_day_909 rfl rfl ?_
        refine ij_laload C 1 (f := fn) K rfl (by omega) (by decide) rfl dL_day_910 ?_
        refine zj_aload C dL_day_911 9 rfl ?_
        refine zj_iload C dL_day_913 1 rfl ?_
        refine ij_laload C 2 (f := fs) K rfl (by omega) (by decide) rfl dL_day_915 ?_
        refine ij_lsub C dL_day_916 ?_
        refine ij_lastore C 1 (f := fn) (ws' := (([IA cy qw 20 fw, LA cy qn 20 (iup fn K ((fn K) - (fs K))), LA cy qs 20 fs, LA cy qb 6 fb, LA cy qp 6 (iup fp (hJ T K) ((fp (hJ T K)) + am)), LA cy qu 6 (iup fu (hJ T K) ((fu (hJ T K)) - (fs K))), LA cy qa 8 (iup (iup (iup fa1 0 ((fa1 0) - am)) 2 ((fa1 2) - (fs K))) 4 ((fa1 4) + (fs K)))] : List va_W) ++ LB cy x0 x1 x2 d0 d1 p0 p1 h0 h1 a b hs sl T U x z y s).flatten) K rfl (by omega) (by decide) rfl dL_day_917 rfl ?_
        refine ij_iinc C (j := 1) (L2 := [(31, .int (jI ((K + 1 : Nat) : Int))), (32, .long (jL am)), (30, .int (jI 1)), (28, .long (jL br)), (26, .long (jL (pI T))), (25, .int (jI (2 + dirI T))), (13, .long (jL (wI T))), (10, .ref qw), (9, .ref qn), (8, .ref qs), (7, .ref qb), (6, .ref qp), (5, .ref qu), (4, .ref qa), (3, .int (jI (gOd_n (gTr_bu T) : Int))), (2, .int (jI (gOd_n (gTr_le T) : Int))), (1, .int (jI (dI T))), (0, .ref x0)]) ((K + 1 : Nat) : Int) (by omega) dL_day_918 rfl (by decide) rfl ?_
        refine zj_goto C 742 dL_day_921 (by decide) ?_
        refine zj_sub (L' := [(31, .int (jI ((K + 1 : Nat) : Int))), (30, .int (jI 1)), (28, .long (jL br)), (26, .long (jL (pI T))), (25, .int (jI (2 + dirI T))), (13, .long (jL (wI T))), (10, .ref qw), (9, .ref qn), (8, .ref qs), (7, .ref qb), (6, .ref qp), (5, .ref qu), (4, .ref qa), (3, .int (jI (gOd_n (gTr_bu T) : Int))), (2, .int (jI (gOd_n (gTr_le T) : Int))), (1, .int (jI (dI T))), (0, .ref x0)]) [0, 2, 3, 4, 5, 6, 7, 8, 9, 10, 11, 12, 13, 14, 15, 16, 17] rfl ?_
        refine ih (K + 1) (K + 1) _ _ _ _ (by omega) (Or.inl ⟨rfl, by omega⟩) (by rw [hsub]) ?_
        unfold pC
        rw [hsub]
        dsimp only
        have q2 := qo 2 (by decide) (by decide) (by decide)
        have q3 := qo 3 (by decide) (by decide) (by decide)
        have q4 := qo 4 (by decide) (by decide) (by decide)
        have q6 := qo 6 (by decide) (by decide) (by decide)
        refine ⟨?_, ?_, ?_, ?_, ?_, ?_, ?_, fun j hj => ?_, fun j hj => ?_⟩
        · show fa1 0 - am = cI T2; omega
        · show fa1 1 = lI T2; omega
        · show fa1 2 - fs K = uAll T2; omega
        · show fa1 3 = 0; omega
        · show fa1 4 + fs K = lfI T2; omega
        · show fa1 5 = soI T2; omega
        · show fa1 6 = 0; omega
        · obtain ⟨d1, d2⟩ := c7 j hj
          unfold iup
          by_cases ej : j = hJ T K
          · subst ej; rw [if_pos rfl, if_pos rfl]; exact ⟨by omega, by omega⟩
          · rw [if_neg ej, if_neg ej]; obtain ⟨z1, z2⟩ := r3 j ej; have z3 := z1.2.1; exact ⟨by omega, by omega⟩
        · have d1 := c8 j hj
          unfold iup
          rw [r16 j]
          by_cases ej : j = K
          · subst ej; rw [if_pos rfl, if_pos rfl]; omega
          · rw [if_neg ej, if_neg ej]; omega
      · skip
        obtain ⟨T2, e, r1, r2, r3, r4, r5, r6, r7, r8, r9, r10⟩ := pst (by omega)
        rw [e] at hsub
        have hst : runP x T (runD T) = (T2, false) := by
          have e1 := payS_stop (x := runX x T) (T := runL x T) (k := K + 1) (by show (runP x T (K + 1)).2 = false; rw [hsub]) (runD T - (K + 1))
          rw [show K + 1 + (runD T - (K + 1)) = runD T by omega] at e1
          exact e1.trans hsub
        have q2 := qo 2 (by decide) (by decide) (by decide)
        have q3 := qo 3 (by decide) (by decide) (by decide)
        have q4 := qo 4 (by decide) (by decide) (by decide)
        have q6 := qo 6 (by decide) (by decide) (by decide)
        have hu : ∀ j, uU T2 j = uU (runP x T K).1 j ∧ paI T2 j = paI (runP x T K).1 j := fun j => by unfold uU uO uN paI; rw [r3]; exact ⟨rfl, rfl⟩
        have hua : uAll T2 = uAll (runP x T K).1 := isum_congr 6 (fun j _ => (hu j).1)
        have hpC : pC x T (runD T) fa1 fu fp fn := by
          unfold pC
          rw [hst]
          dsimp only
          refine ⟨by omega, by omega, by omega, by omega, by omega, by omega, by omega, fun j hj => ?_, fun j hj => ?_⟩
          · obtain ⟨d1, d2⟩ := c7 j hj; exact ⟨d1.trans (hu j).1.symm, d2.trans (hu j).2.symm⟩
          · rw [r4]; exact c8 j hj
        refine ij_iconst C dL_day_837 ?_
        refine zj_istore C (L' := [(30, .int (jI 0)), (32, .long (jL am)), (31, .int (jI (K : Int))), (28, .long (jL br)), (26, .long (jL (pI T))), (25, .int (jI (2 + dirI T))), (13, .long (jL (wI T))), (10, .ref qw), (9, .ref qn), (8, .ref qs), (7, .ref qb), (6, .ref qp), (5, .ref qu), (4, .ref qa), (3, .int (jI (gOd_n (gTr_bu T) : Int))), (2, .int (jI (gOd_n (gTr_le T) : Int))), (1, .int (jI (dI T))), (0, .ref x0)]) dL_day_838 (by decide) rfl ?_
        refine zj_goto C 918 dL_day_840 (by decide) ?_
        refine ij_iinc C (j := 2) (L2 := [(31, .int (jI ((K + 1 : Nat) : Int))), (30, .int (jI 0)), (32, .long (jL am)), (28, .long (jL br)), (26, .long (jL (pI T))), (25, .int (jI (2 + dirI T))), (13, .long (jL (wI T))), (10, .ref qw), (9, .ref qn), (8, .ref qs), (7, .ref qb), (6, .ref qp), (5, .ref qu), (4, .ref qa), (3, .int (jI (gOd_n (gTr_bu T) : Int))), (2, .int (jI (gOd_n (gTr_le T) : Int))), (1, .int (jI (dI T))), (0, .ref x0)]) ((K + 1 : Nat) : Int) (by omega) dL_day_918 rfl (by decide) rfl ?_
        refine zj_goto C 742 dL_day_921 (by decide) ?_
        refine zj_sub (L' := [(31, .int (jI ((K + 1 : Nat) : Int))), (30, .int (jI 0)), (28, .long (jL br)), (26, .long (jL (pI T))), (25, .int (jI (2 + dirI T))), (13, .long (jL (wI T))), (10, .ref qw), (9, .ref qn), (8, .ref qs), (7, .ref qb), (6, .ref qp), (5, .ref qu), (4, .ref qa), (3, .int (jI (gOd_n (gTr_bu T) : Int))), (2, .int (jI (gOd_n (gTr_le T) : Int))), (1, .int (jI (dI T))), (0, .ref x0)]) [0, 1, 3, 4, 5, 6, 7, 8, 9, 10, 11, 12, 13, 14, 15, 16, 17] rfl ?_
        refine zj_iload C dL_day_742 0 rfl ?_
        refine zj_iload_n C dL_day_744 14 rfl ?_
        refine ij_icmp_ge C 924 dL_day_745 (by decide) ⟨by omega, by omega⟩ ⟨by omega, by omega⟩ (fun hw => ?_) (fun hw => ?_)
        · skip
          refine zj_sub (L' := [(26, .long (jL (pI T))), (25, .int (jI (2 + dirI T))), (13, .long (jL (wI T))), (10, .ref qw), (9, .ref qn), (8, .ref qs), (7, .ref qb), (6, .ref qp), (5, .ref qu), (4, .ref qa), (3, .int (jI (gOd_n (gTr_bu T) : Int))), (2, .int (jI (gOd_n (gTr_le T) : Int))), (1, .int (jI (dI T))), (0, .ref x0)]) [3, 4, 5, 6, 7, 8, 9, 10, 11, 12, 13, 14, 15, 16] rfl ?_
          exact kk _ _ _ _ hpC
        · skip
          refine zj_iload C dL_day_748 1 rfl ?_
          refine ij_if_eq C 924 dL_day_750 (by decide) ⟨by decide, by decide⟩ (fun _ => ?_) (fun h => False.elim (by omega))
          refine zj_sub (L' := [(26, .long (jL (pI T))), (25, .int (jI (2 + dirI T))), (13, .long (jL (wI T))), (10, .ref qw), (9, .ref qn), (8, .ref qs), (7, .ref qb), (6, .ref qp), (5, .ref qu), (4, .ref qa), (3, .int (jI (gOd_n (gTr_bu T) : Int))), (2, .int (jI (gOd_n (gTr_le T) : Int))), (1, .int (jI (dI T))), (0, .ref x0)]) [3, 4, 5, 6, 7, 8, 9, 10, 11, 12, 13, 14, 15, 16] rfl ?_
          exact kk _ _ _ _ hpC
    · skip
      refine zj_goto C 918 dL_day_763 (by decide) ?_
      refine ij_iinc C (j := 0) (L2 := [(31, .int (jI ((k + 1 : Nat) : Int))), (30, .int (jI 1)), (28, .long (jL (brB (qI T) (sI T 4)))), (26, .long (jL (pI T))), (25, .int (jI (2 + dirI T))), (13, .long (jL (wI T))), (10, .ref qw), (9, .ref qn), (8, .ref qs), (7, .ref qb), (6, .ref qp), (5, .ref qu), (4, .ref qa), (3, .int (jI (gOd_n (gTr_bu T) : Int))), (2, .int (jI (gOd_n (gTr_le T) : Int))), (1, .int (jI (dI T))), (0, .ref x0)]) ((k + 1 : Nat) : Int) (by omega) dL_day_918 rfl (by decide) rfl ?_
      refine zj_goto C 742 dL_day_921 (by decide) ?_
      refine zj_sub (L' := [(31, .int (jI ((k + 1 : Nat) : Int))), (30, .int (jI 1)), (28, .long (jL (brB (qI T) (sI T 4)))), (26, .long (jL (pI T))), (25, .int (jI (2 + dirI T))), (13, .long (jL (wI T))), (10, .ref qw), (9, .ref qn), (8, .ref qs), (7, .ref qb), (6, .ref qp), (5, .ref qu), (4, .ref qa), (3, .int (jI (gOd_n (gTr_bu T) : Int))), (2, .int (jI (gOd_n (gTr_le T) : Int))), (1, .int (jI (dI T))), (0, .ref x0)]) [0, 1, 2, 3, 4, 5, 6, 7, 8, 9, 10, 11, 12, 13, 14, 15, 16] rfl ?_
      by_cases hkd : k < runD T
      · have eK : K = k := by omega
        subst eK
        have hsub : runP x T (K + 1) = runP x T K := by
          have es := hfs.1 K hkd
          show payS _ _ _ = _
          rw [payS_s, if_neg (by rw [show (payS (runX x T) (runL x T) K).2 = true from hg]; decide), if_pos (by rw [i64_le_iff]; have : (0 : Int64).toInt = 0 := rfl; omega)]; rfl
        refine ih (K + 1) (K + 1) _ _ _ _ (by omega) (Or.inl ⟨rfl, by omega⟩) (by rw [hsub]; exact hg) ?_
        unfold pC at hp ⊢
        rw [hsub]
        exact hp
      · exact ih (k + 1) K _ _ _ _ (by omega) (Or.inr ⟨by omega, by omega⟩) hg hp
end DAYC
