theorem zpp_nu1 {T : zMs} {f : Nat → Int32} (hz : zpp T) (hlt : gMs_sp T < gMs_pdm T) : zpp (sMs_nu (sMs_sp T (gMs_sp T + 1)) f) := ⟨hz.1, hlt, hz.2.2⟩
theorem zpp_nu {T : zMs} {f : Nat → Int32} (hz : zpp T) : zpp (sMs_nu T f) := ⟨hz.1, hz.2.1, hz.2.2⟩
theorem zpp_wr1 {T : zMs} {w : Bool} (hz : zpp T) (hlt : gMs_sp T < gMs_pdm T) : zpp (sMs_wr (sMs_sp T (gMs_sp T + 1)) w) := ⟨hz.1, hlt, hz.2.2⟩
def zPR (S T : zMs) : Prop := zsame S T ∧ gMs_od T = gMs_od S ∧ gMs_sp S ≤ gMs_sp T ∧ gMs_sp T ≤ gMs_pdm S
theorem zPR_nu {S T : zMs} (f : Nat → Int32) (hz : zpp T) (h : zPR S T) : zPR S (sMs_nu T f) := zp4_t h ⟨rfl, rfl, Nat.le_refl _, hz.2.1⟩
theorem zPR_nu1 {S T : zMs} (f : Nat → Int32) (hlt : gMs_sp T < gMs_pdm T) (h : zPR S T) : zPR S (sMs_nu (sMs_sp T (gMs_sp T + 1)) f) := zp4_t h ⟨rfl, rfl, Nat.le_succ _, hlt⟩
theorem zPR_wr1 {T : zMs} (w : Bool) (hlt : gMs_sp T < gMs_pdm T) : zPR T (sMs_wr (sMs_sp T (gMs_sp T + 1)) w) := ⟨rfl, rfl, Nat.le_succ _, hlt⟩
theorem zsgn_nu {T : zMs} {f : Nat → Int32} {s : Int32} (h : f_X8_next (sMs_nu T f) = s) (hs : ¬ s = nI 0) : gMs_sp T < gMs_pdm T := zsgn (X := sMs_nu T f) h hs

noncomputable def f_X8_takeOrdering (S : zMs) : zMs := zsl (
  let T_1 : zMs := (f_X8_takeHolder S)
  let T_7 : zMs := (f_X8_takeSign T_1 (nI 58))
  let T_14 : zMs := (f_X8_takeNumber T_7 1 (nI 1000000))
  let F_30 : Nat → Int32 := (upd (gMs_nu T_14) (3 * (gMs_od T_14) + 2) (nI 0))
  let x35_0 : zMs := (if (gMs_wr T_14) = false then (if (f_X8_next (sMs_nu T_14 F_30)) = (nI 64) then (f_X8_takeNumber (sMs_nu (sMs_sp T_14 ((gMs_sp T_14) + 1)) F_30) 2 (nI 23)) else (sMs_nu T_14 F_30)) else (sMs_nu T_14 F_30))
  x35_0
  )
set_option maxHeartbeats 4000000 in
set_option maxRecDepth 100000 in
theorem c_X8_takeOrdering (l : Launch) (D : va_G) (cy : Nat → ClassId) (m : Nat → Nat)   (S : zMs) (hz : zpp S) : zC l yX8_takeOrdering (zW yX8_takeOrdering cX8_takeOrdering 1 (Option.none : Option Jvm.ClassFile.FieldType)) { frames := 2, cells := 0, slots := 0, locals := 48 } D cy [.ref (m 0)] (WM cy m S) none (WM cy m (f_X8_takeOrdering S)) := by
  refine zC_of rfl (Nat.le_of_ble_eq_true rfl) zOk_v (fun E C hret => ?_)
  show zJ E 1 0 0 (WM cy m S) 0 [(0, .ref (m 0))] []
  refine zj_aload_n C dX8_takeOrdering_0 0 rfl ?_
  refine zj_callV C (nn := 10) (ws' := (WM cy m (f_X8_takeHolder S))) (st := []) (st1 := []) 0 8 [0, 1, 2, 3, 4, 5, 6, 7, 8, 9] (c_X8_takeHolder l D cy m  S hz) (zg_V tg_979 tg_976 tg_978 tgp_53 tg_9) ⟨rfl, hdZ_X8_takeHolder⟩ ⟨rfl, rfl⟩ ⟨by decide, by decide⟩ rfl rfl rfl (by decide) ⟨rfl, rfl⟩ rfl rfl (Nat.le_of_ble_eq_true rfl) dX8_takeOrdering_1 rfl rfl ?_
  generalize hT_1 : (f_X8_takeHolder S) = T_1
  have z1 := zpp_of hz (zp_holder hz)
  rw [hT_1] at z1
  refine zj_aload_n C dX8_takeOrdering_4 0 rfl ?_
  refine zj_bipush C (v := (nI 58)) dX8_takeOrdering_5 (by decide) ?_
  refine zj_callV C (nn := 10) (ws' := (WM cy m (f_X8_takeSign T_1 (nI 58)))) (st := []) (st1 := []) 0 8 [0, 1, 2, 3, 4, 5, 6, 7, 8, 9] (c_X8_takeSign l D cy m (nI 58) T_1 z1) (zg_V tg_985 tg_982 tg_984 tgp_54 tg_9) ⟨rfl, hdZ_X8_takeSign⟩ ⟨rfl, rfl⟩ ⟨by decide, by decide⟩ rfl rfl rfl (by decide) ⟨rfl, rfl⟩ rfl rfl (Nat.le_of_ble_eq_true rfl) dX8_takeOrdering_7 rfl rfl ?_
  generalize hT_7 : (f_X8_takeSign T_1 (nI 58)) = T_7
  have z2 := zpp_of z1 (zp4 (zp_sign (sg := nI 58) z1 (by decide)))
  rw [hT_7] at z2
  refine zj_aload_n C dX8_takeOrdering_10 0 rfl ?_
  refine zj_iconst C (v := (nI 1)) dX8_takeOrdering_11 (by decide) ?_
  refine zj_ldc C dX8_takeOrdering_12 tg_986 ?_
  refine zj_topi (nI 1000000) (by decide) ?_
  refine zj_callV C (nn := 10) (ws' := (WM cy m (f_X8_takeNumber T_7 1 (nI 1000000)))) (st := []) (st1 := []) 0 8 [0, 1, 2, 3, 4, 5, 6, 7, 8, 9] (c_X8_takeNumber l D cy m 1 (nI 1000000) T_7 z2 (by decide)) (zg_V tg_990 tg_987 tg_989 tgp_55 tg_9) ⟨rfl, hdZ_X8_takeNumber⟩ ⟨rfl, rfl⟩ ⟨by decide, by decide⟩ rfl rfl rfl (by decide) ⟨rfl, rfl⟩ rfl rfl (Nat.le_of_ble_eq_true rfl) dX8_takeOrdering_14 rfl rfl ?_
  generalize hT_14 : (f_X8_takeNumber T_7 1 (nI 1000000)) = T_14
  have z3 := zpp_of z2 (zp_num (pl := 1) (high := nI 1000000) z2)
  rw [hT_14] at z3
  have ho3 := z3.2.2
  refine zj_aload_n C dX8_takeOrdering_17 0 rfl ?_
  refine zj_get C 0 8 14 (v := .ref (m 9)) inZ8 rfl rfl (by decide) tg_691 rfl dX8_takeOrdering_18 ?_
  refine zj_iconst C (v := (nI 3)) dX8_takeOrdering_21 (by decide) ?_
  refine zj_aload_n C dX8_takeOrdering_22 0 rfl ?_
  refine zj_get C 0 8 12 (v := .int (nI (gMs_od T_14))) inZ8 rfl rfl (by decide) tg_689 rfl dX8_takeOrdering_23 ?_
  refine zj_imul C dX8_takeOrdering_26 ?_
  refine zj_topi (nI (3 * (gMs_od T_14))) (pk_mul _ _) ?_
  refine zj_iconst C (v := (nI 2)) dX8_takeOrdering_27 (by decide) ?_
  refine zj_iadd C dX8_takeOrdering_28 ?_
  refine zj_topi (nI (3 * (gMs_od T_14) + 2)) ((nI_add _ _).trans (congrArg nI (by omega))) ?_
  refine zj_iconst C (v := (nI 0)) dX8_takeOrdering_29 (by decide) ?_
  obtain ⟨F_30, hF_30⟩ : ∃ g, g = (upd (gMs_nu T_14) (3 * (gMs_od T_14) + 2) (nI 0)) := ⟨_, rfl⟩
  refine zj_iast C 9 (f := (gMs_nu T_14)) (ws' := (WM cy m (sMs_nu T_14 F_30))) (3 * (gMs_od T_14) + 2) (nI_clamp (by omega)) (vp_in_nI (by omega) (by decide)) rfl dX8_takeOrdering_30 (by rw [← hF_30]; rfl) ?_
  refine zj_aload_n C dX8_takeOrdering_31 0 rfl ?_
  refine zj_get C 0 8 11 (v := .int (zB (gMs_wr T_14))) inZ8 rfl rfl (by decide) tg_688 rfl dX8_takeOrdering_32 ?_
  have J_35 : ∀ (x35_0 : zMs), x35_0 = (if (gMs_wr T_14) = false then (if (f_X8_next (sMs_nu T_14 F_30)) = (nI 64) then (f_X8_takeNumber (sMs_nu (sMs_sp T_14 ((gMs_sp T_14) + 1)) F_30) 2 (nI 23)) else (sMs_nu T_14 F_30)) else (sMs_nu T_14 F_30)) → zJ E 1 0 0 (WM cy m x35_0) 64 [(0, .ref (m 0))] [] := by
    intro x35_0 hx35_0
    subst hx35_0
    subst hF_30
    subst hT_14
    subst hT_7
    subst hT_1
    have e : f_X8_takeOrdering S = (if (gMs_wr (f_X8_takeNumber (f_X8_takeSign (f_X8_takeHolder S) (nI 58)) 1 (nI 1000000))) = false then (if (f_X8_next (sMs_nu (f_X8_takeNumber (f_X8_takeSign (f_X8_takeHolder S) (nI 58)) 1 (nI 1000000)) (upd (gMs_nu (f_X8_takeNumber (f_X8_takeSign (f_X8_takeHolder S) (nI 58)) 1 (nI 1000000))) (3 * (gMs_od (f_X8_takeNumber (f_X8_takeSign (f_X8_takeHolder S) (nI 58)) 1 (nI 1000000))) + 2) (nI 0)))) = (nI 64) then (f_X8_takeNumber (sMs_nu (sMs_sp (f_X8_takeNumber (f_X8_takeSign (f_X8_takeHolder S) (nI 58)) 1 (nI 1000000)) ((gMs_sp (f_X8_takeNumber (f_X8_takeSign (f_X8_takeHolder S) (nI 58)) 1 (nI 1000000))) + 1)) (upd (gMs_nu (f_X8_takeNumber (f_X8_takeSign (f_X8_takeHolder S) (nI 58)) 1 (nI 1000000))) (3 * (gMs_od (f_X8_takeNumber (f_X8_takeSign (f_X8_takeHolder S) (nI 58)) 1 (nI 1000000))) + 2) (nI 0))) 2 (nI 23)) else (sMs_nu (f_X8_takeNumber (f_X8_takeSign (f_X8_takeHolder S) (nI 58)) 1 (nI 1000000)) (upd (gMs_nu (f_X8_takeNumber (f_X8_takeSign (f_X8_takeHolder S) (nI 58)) 1 (nI 1000000))) (3 * (gMs_od (f_X8_takeNumber (f_X8_takeSign (f_X8_takeHolder S) (nI 58)) 1 (nI 1000000))) + 2) (nI 0)))) else (sMs_nu (f_X8_takeNumber (f_X8_takeSign (f_X8_takeHolder S) (nI 58)) 1 (nI 1000000)) (upd (gMs_nu (f_X8_takeNumber (f_X8_takeSign (f_X8_takeHolder S) (nI 58)) 1 (nI 1000000))) (3 * (gMs_od (f_X8_takeNumber (f_X8_takeSign (f_X8_takeHolder S) (nI 58)) 1 (nI 1000000))) + 2) (nI 0)))) := by refine (zsl_e _).trans ?_; rfl
    rw [e] at hret
    exact hret _ _ dX8_takeOrdering_64
  refine zj_if_ne C 64 dX8_takeOrdering_35 (by decide) (fun c => ?_) (fun c => ?_)
  · have c_35 : ¬ ((gMs_wr T_14) = false) := (zB_neq c)
    exact J_35 (sMs_nu T_14 F_30) (by simp only [if_neg c_35]; first | done | assumption)
  · have c_35 : (gMs_wr T_14) = false := (zB_eq (Classical.not_not.mp c))
    refine zj_aload_n C dX8_takeOrdering_38 0 rfl ?_
    refine zj_callV C (nn := 10) (ws' := (WM cy m (sMs_nu T_14 F_30))) (st := []) (st1 := [.int (f_X8_next (sMs_nu T_14 F_30))]) 0 8 [0, 1, 2, 3, 4, 5, 6, 7, 8, 9] (c_X8_next l D cy m  (sMs_nu T_14 F_30) (zpp_nu z3).1 (Nat.le_trans (zpp_nu z3).2.1 (zpp_nu z3).1)) (zg_V tg_971 tg_968 tg_970 tgp_51 tg_9) ⟨rfl, hdZ_X8_next⟩ ⟨rfl, rfl⟩ ⟨by decide, by decide⟩ rfl rfl rfl (by decide) ⟨rfl, rfl⟩ rfl rfl (Nat.le_of_ble_eq_true rfl) dX8_takeOrdering_39 rfl rfl ?_
    refine zj_bipush C (v := (nI 64)) dX8_takeOrdering_42 (by decide) ?_
    have J_44 : ∀ (x44_0 : zMs), x44_0 = (if (f_X8_next (sMs_nu T_14 F_30)) = (nI 64) then (f_X8_takeNumber (sMs_nu (sMs_sp T_14 ((gMs_sp T_14) + 1)) F_30) 2 (nI 23)) else (sMs_nu T_14 F_30)) → zJ E 1 0 0 (WM cy m x44_0) 64 [(0, .ref (m 0))] [] := by
      intro x44_0 hx44_0
      exact J_35 x44_0 (by simp only [if_pos c_35]; first | done | assumption)
    refine zj_icmp_ne C 64 dX8_takeOrdering_44 (by decide) (fun c => ?_) (fun c => ?_)
    · have c_44 : ¬ ((f_X8_next (sMs_nu T_14 F_30)) = (nI 64)) := c
      exact J_44 (sMs_nu T_14 F_30) (by simp only [if_pos c_35, if_neg c_44]; first | done | assumption)
    · have c_44 : (f_X8_next (sMs_nu T_14 F_30)) = (nI 64) := (Classical.not_not.mp c)
      refine zj_aload_n C dX8_takeOrdering_47 0 rfl ?_
      have hlt : gMs_sp T_14 < gMs_pdm T_14 := zsgn_nu c_44 (by decide)
      refine zj_dup C dX8_takeOrdering_48 rfl ?_
      refine zj_get C 0 8 10 (v := .int (nI (gMs_sp T_14))) inZ8 rfl rfl (by decide) tg_687 rfl dX8_takeOrdering_49 ?_
      refine zj_iconst C (v := (nI 1)) dX8_takeOrdering_52 (by decide) ?_
      refine zj_iadd C dX8_takeOrdering_53 ?_
      refine zj_topi (nI ((gMs_sp T_14) + 1)) (nI_add _ _) ?_
      refine zj_put C 0 8 10 (v := .int (nI ((gMs_sp T_14) + 1))) (ws' := (WM cy m (sMs_nu (sMs_sp T_14 ((gMs_sp T_14) + 1)) F_30))) tyX8 tyX8_ok nmX8 inZ8 rfl rfl (by decide) tg_687 rfl rfl rfl (Nat.le_of_ble_eq_true rfl) dX8_takeOrdering_54 rfl ?_
      refine zj_aload_n C dX8_takeOrdering_57 0 rfl ?_
      refine zj_iconst C (v := (nI 2)) dX8_takeOrdering_58 (by decide) ?_
      refine zj_bipush C (v := (nI 23)) dX8_takeOrdering_59 (by decide) ?_
      refine zj_callV C (nn := 10) (ws' := (WM cy m (f_X8_takeNumber (sMs_nu (sMs_sp T_14 ((gMs_sp T_14) + 1)) F_30) 2 (nI 23)))) (st := []) (st1 := []) 0 8 [0, 1, 2, 3, 4, 5, 6, 7, 8, 9] (c_X8_takeNumber l D cy m 2 (nI 23) (sMs_nu (sMs_sp T_14 ((gMs_sp T_14) + 1)) F_30) (zpp_nu1 z3 hlt) (by decide)) (zg_V tg_990 tg_987 tg_989 tgp_55 tg_9) ⟨rfl, hdZ_X8_takeNumber⟩ ⟨rfl, rfl⟩ ⟨by decide, by decide⟩ rfl rfl rfl (by decide) ⟨rfl, rfl⟩ rfl rfl (Nat.le_of_ble_eq_true rfl) dX8_takeOrdering_61 rfl rfl ?_
      exact J_44 (f_X8_takeNumber (sMs_nu (sMs_sp T_14 ((gMs_sp T_14) + 1)) F_30) 2 (nI 23)) (by simp only [if_pos c_35, if_pos c_44]; first | done | assumption)

theorem zp_ord2 {S N : zMs} {f0 : Nat → Int32} (zz3 : zpp N) (z13 : zPR S N) : zPR S (if (gMs_wr N) = false then (if (f_X8_next (sMs_nu N f0)) = (nI 64) then (f_X8_takeNumber (sMs_nu (sMs_sp N ((gMs_sp N) + 1)) f0) 2 (nI 23)) else (sMs_nu N f0)) else (sMs_nu N f0)) := by
  by_cases c1 : gMs_wr N = false
  · rw [if_pos c1]
    by_cases c2 : f_X8_next (sMs_nu N f0) = nI 64
    · rw [if_pos c2]
      have hlt := zsgn_nu c2 (by decide)
      exact zp4_t (zPR_nu1 f0 hlt z13) (zp_num (zpp_nu1 zz3 hlt))
    · rw [if_neg c2]
      exact zPR_nu f0 zz3 z13
  · rw [if_neg c1]
    exact zPR_nu f0 zz3 z13
theorem zp_ordering {S : zMs} (hz : zpp S) : zPR S (f_X8_takeOrdering S) := by
  have z1 := zp_holder hz
  have zz1 := zpp_of hz z1
  have z2 := zp4 (zp_sign (sg := nI 58) zz1 (by decide))
  have zz2 := zpp_of zz1 z2
  have z3 := zp_num (pl := 1) (high := nI 1000000) zz2
  have zz3 := zpp_of zz2 z3
  have z13 := zp4_t z1 (zp4_t z2 z3)
  unfold f_X8_takeOrdering
  rw [zsl_e]
  exact zp_ord2 zz3 z13

noncomputable def f_X8_takeOrder (S : zMs) : zMs := zsl (
  let x9_0 : Bool := (if (f_X8_next S) = (nI 98) then false else (if (f_X8_next S) = (nI 108) then false else (if (f_X8_next S) = (nI 113) then false else (if (f_X8_next S) = (nI 105) then false else (if (f_X8_next S) = (nI 100) then false else (if (f_X8_next S) = (nI 112) then false else true))))))
  if x9_0 = false then
    let x71_0 : zMs := (if (f_X8_next S) = (nI 98) then (f_X8_takeOrdering (sMs_wr (sMs_sp S ((gMs_sp S) + 1)) x9_0)) else (if (f_X8_next S) = (nI 108) then (f_X8_takeOrdering (sMs_wr (sMs_sp S ((gMs_sp S) + 1)) x9_0)) else (if (f_X8_next S) = (nI 113) then (f_X8_takeNumber (sMs_wr (sMs_sp S ((gMs_sp S) + 1)) x9_0) 0 (nI 1000000)) else (if (f_X8_next S) = (nI 105) then (f_X8_takeNumber (sMs_wr (sMs_sp S ((gMs_sp S) + 1)) x9_0) 0 (nI 1000000)) else (sMs_wr (sMs_sp S ((gMs_sp S) + 1)) x9_0)))))
    let x110_0 : Nat := (if (gMs_wr x71_0) = false then (gMs_od x71_0) + 1 else (gMs_od x71_0))
    let x110_1 : Nat → Int32 := (if (gMs_wr x71_0) = false then (upd (gMs_so x71_0) (gMs_od x71_0) (f_X8_next S)) else (gMs_so x71_0))
    (sMs_so (sMs_od x71_0 x110_0) x110_1)
  else
    (sMs_wr S x9_0)
  )
set_option maxHeartbeats 4000000 in
set_option maxRecDepth 100000 in
theorem c_X8_takeOrder (l : Launch) (D : va_G) (cy : Nat → ClassId) (m : Nat → Nat)   (S : zMs) (hz : zpp S) : zC l yX8_takeOrder (zW yX8_takeOrder cX8_takeOrder 2 (Option.none : Option Jvm.ClassFile.FieldType)) { frames := 3, cells := 0, slots := 0, locals := 68 } D cy [.ref (m 0)] (WM cy m S) none (WM cy m (f_X8_takeOrder S)) := by
  refine zC_of rfl (Nat.le_of_ble_eq_true rfl) zOk_v (fun E C hret => ?_)
  obtain ⟨hp, hs, ho⟩ := id hz
  show zJ E 2 0 0 (WM cy m S) 0 [(0, .ref (m 0))] []
  refine zj_aload_n C dX8_takeOrder_0 0 rfl ?_
  refine zj_callV C (nn := 10) (ws' := (WM cy m S)) (st := []) (st1 := [.int (f_X8_next S)]) 0 8 [0, 1, 2, 3, 4, 5, 6, 7, 8, 9] (c_X8_next l D cy m  S hp (Nat.le_trans hs hp)) (zg_V tg_971 tg_968 tg_970 tgp_51 tg_9) ⟨rfl, hdZ_X8_next⟩ ⟨rfl, rfl⟩ ⟨by decide, by decide⟩ rfl rfl rfl (by decide) ⟨rfl, rfl⟩ rfl rfl (Nat.le_of_ble_eq_true rfl) dX8_takeOrder_1 rfl rfl ?_
  refine zj_istore_n C (L' := [(1, .int (f_X8_next S)), (0, .ref (m 0))]) dX8_takeOrder_4 rfl (by decide) rfl ?_
  refine zj_aload_n C dX8_takeOrder_5 1 rfl ?_
  refine zj_iload_n C dX8_takeOrder_6 0 rfl ?_
  refine zj_bipush C (v := (nI 98)) dX8_takeOrder_7 (by decide) ?_
  have J_9 : ∀ (x9_0 : Bool), x9_0 = (if (f_X8_next S) = (nI 98) then false else (if (f_X8_next S) = (nI 108) then false else (if (f_X8_next S) = (nI 113) then false else (if (f_X8_next S) = (nI 105) then false else (if (f_X8_next S) = (nI 100) then false else (if (f_X8_next S) = (nI 112) then false else true)))))) → zJ E 2 0 0 (WM cy m S) 47 [(1, .int (f_X8_next S)), (0, .ref (m 0))] [.int (zB x9_0), .ref (m 0)] := by
    intro x9_0 hx9_0
    refine zj_put C 0 8 11 (v := .int (zB x9_0)) (ws' := (WM cy m (sMs_wr S x9_0))) tyX8 tyX8_ok nmX8 inZ8 rfl rfl (by decide) tg_688 rfl (zB_n _) (zB_f _) (Nat.le_of_ble_eq_true rfl) dX8_takeOrder_47 rfl ?_
    refine zj_aload_n C dX8_takeOrder_50 1 rfl ?_
    refine zj_get C 0 8 11 (v := .int (zB x9_0)) inZ8 rfl rfl (by decide) tg_688 rfl dX8_takeOrder_51 ?_
    refine zj_if_eq C 58 dX8_takeOrder_54 (by decide) (fun c => ?_) (fun c => ?_)
    · have c_54 : x9_0 = false := (zB_eq c)
      refine zj_aload_n C dX8_takeOrder_58 1 rfl ?_
      have hlt : gMs_sp S < gMs_pdm S := by { rcases Nat.lt_or_ge (gMs_sp S) (gMs_pdm S) with q | q; exact q; (have e0 : f_X8_next S = nI 0 := if_pos q; rw [hx9_0, e0] at c_54; exact absurd c_54 (by decide)) }
      refine zj_dup C dX8_takeOrder_59 rfl ?_
      refine zj_get C 0 8 10 (v := .int (nI (gMs_sp S))) inZ8 rfl rfl (by decide) tg_687 rfl dX8_takeOrder_60 ?_
      refine zj_iconst C (v := (nI 1)) dX8_takeOrder_63 (by decide) ?_
      refine zj_iadd C dX8_takeOrder_64 ?_
      refine zj_topi (nI ((gMs_sp S) + 1)) (nI_add _ _) ?_
      refine zj_put C 0 8 10 (v := .int (nI ((gMs_sp S) + 1))) (ws' := (WM cy m (sMs_wr (sMs_sp S ((gMs_sp S) + 1)) x9_0))) tyX8 tyX8_ok nmX8 inZ8 rfl rfl (by decide) tg_687 rfl rfl rfl (Nat.le_of_ble_eq_true rfl) dX8_takeOrder_65 rfl ?_
      refine zj_iload_n C dX8_takeOrder_68 0 rfl ?_
      refine zj_bipush C (v := (nI 98)) dX8_takeOrder_69 (by decide) ?_
      have J_71 : ∀ (x71_0 : zMs), x71_0 = (if (f_X8_next S) = (nI 98) then (f_X8_takeOrdering (sMs_wr (sMs_sp S ((gMs_sp S) + 1)) x9_0)) else (if (f_X8_next S) = (nI 108) then (f_X8_takeOrdering (sMs_wr (sMs_sp S ((gMs_sp S) + 1)) x9_0)) else (if (f_X8_next S) = (nI 113) then (f_X8_takeNumber (sMs_wr (sMs_sp S ((gMs_sp S) + 1)) x9_0) 0 (nI 1000000)) else (if (f_X8_next S) = (nI 105) then (f_X8_takeNumber (sMs_wr (sMs_sp S ((gMs_sp S) + 1)) x9_0) 0 (nI 1000000)) else (sMs_wr (sMs_sp S ((gMs_sp S) + 1)) x9_0))))) → zJ E 2 0 0 (WM cy m x71_0) 106 [(1, .int (f_X8_next S)), (0, .ref (m 0))] [] := by
        intro x71_0 hx71_0
        have hod : gMs_od x71_0 = gMs_od S := by { rw [hx71_0]; by_cases q1 : f_X8_next S = nI 98; (rw [if_pos q1]; exact (zp_ordering (zpp_wr1 hz hlt)).2.1); rw [if_neg q1]; by_cases q2 : f_X8_next S = nI 108; (rw [if_pos q2]; exact (zp_ordering (zpp_wr1 hz hlt)).2.1); rw [if_neg q2]; by_cases q3 : f_X8_next S = nI 113; (rw [if_pos q3]; exact (zp_num (zpp_wr1 hz hlt)).2.1); rw [if_neg q3]; by_cases q4 : f_X8_next S = nI 105; (rw [if_pos q4]; exact (zp_num (zpp_wr1 hz hlt)).2.1); rw [if_neg q4] }
        refine zj_aload_n C dX8_takeOrder_106 1 rfl ?_
        refine zj_get C 0 8 11 (v := .int (zB (gMs_wr x71_0))) inZ8 rfl rfl (by decide) tg_688 rfl dX8_takeOrder_107 ?_
        have J_110 : ∀ (x110_0 : Nat) (x110_1 : Nat → Int32), x110_0 = (if (gMs_wr x71_0) = false then (gMs_od x71_0) + 1 else (gMs_od x71_0)) → x110_1 = (if (gMs_wr x71_0) = false then (upd (gMs_so x71_0) (gMs_od x71_0) (f_X8_next S)) else (gMs_so x71_0)) → zJ E 2 0 0 (WM cy m (sMs_so (sMs_od x71_0 x110_0) x110_1)) 133 [(1, .int (f_X8_next S)), (0, .ref (m 0))] [] := by
          intro x110_0 x110_1 hx110_0 hx110_1
          subst hx110_1
          subst hx110_0
          subst hx71_0
          subst hx9_0
          have e : f_X8_takeOrder S = (sMs_so (sMs_od (if (f_X8_next S) = (nI 98) then (f_X8_takeOrdering (sMs_wr (sMs_sp S ((gMs_sp S) + 1)) (if (f_X8_next S) = (nI 98) then false else (if (f_X8_next S) = (nI 108) then false else (if (f_X8_next S) = (nI 113) then false else (if (f_X8_next S) = (nI 105) then false else (if (f_X8_next S) = (nI 100) then false else (if (f_X8_next S) = (nI 112) then false else true)))))))) else (if (f_X8_next S) = (nI 108) then (f_X8_takeOrdering (sMs_wr (sMs_sp S ((gMs_sp S) + 1)) (if (f_X8_next S) = (nI 98) then false else (if (f_X8_next S) = (nI 108) then false else (if (f_X8_next S) = (nI 113) then false else (if (f_X8_next S) = (nI 105) then false else (if (f_X8_next S) = (nI 100) then false else (if (f_X8_next S) = (nI 112) then false else true)))))))) else (if (f_X8_next S) = (nI 113) then (f_X8_takeNumber (sMs_wr (sMs_sp S ((gMs_sp S) + 1)) (if (f_X8_next S) = (nI 98) then false else (if (f_X8_next S) = (nI 108) then false else (if (f_X8_next S) = (nI 113) then false else (if (f_X8_next S) = (nI 105) then false else (if (f_X8_next S) = (nI 100) then false else (if (f_X8_next S) = (nI 112) then false else true))))))) 0 (nI 1000000)) else (if (f_X8_next S) = (nI 105) then (f_X8_takeNumber (sMs_wr (sMs_sp S ((gMs_sp S) + 1)) (if (f_X8_next S) = (nI 98) then false else (if (f_X8_next S) = (nI 108) then false else (if (f_X8_next S) = (nI 113) then false else (if (f_X8_next S) = (nI 105) then false else (if (f_X8_next S) = (nI 100) then false else (if (f_X8_next S) = (nI 112) then false else true))))))) 0 (nI 1000000)) else (sMs_wr (sMs_sp S ((gMs_sp S) + 1)) (if (f_X8_next S) = (nI 98) then false else (if (f_X8_next S) = (nI 108) then false else (if (f_X8_next S) = (nI 113) then false else (if (f_X8_next S) = (nI 105) then false else (if (f_X8_next S) = (nI 100) then false else (if (f_X8_next S) = (nI 112) then false else true))))))))))) (if (gMs_wr (if (f_X8_next S) = (nI 98) then (f_X8_takeOrdering (sMs_wr (sMs_sp S ((gMs_sp S) + 1)) (if (f_X8_next S) = (nI 98) then false else (if (f_X8_next S) = (nI 108) then false else (if (f_X8_next S) = (nI 113) then false else (if (f_X8_next S) = (nI 105) then false else (if (f_X8_next S) = (nI 100) then false else (if (f_X8_next S) = (nI 112) then false else true)))))))) else (if (f_X8_next S) = (nI 108) then (f_X8_takeOrdering (sMs_wr (sMs_sp S ((gMs_sp S) + 1)) (if (f_X8_next S) = (nI 98) then false else (if (f_X8_next S) = (nI 108) then false else (if (f_X8_next S) = (nI 113) then false else (if (f_X8_next S) = (nI 105) then false else (if (f_X8_next S) = (nI 100) then false else (if (f_X8_next S) = (nI 112) then false else true)))))))) else (if (f_X8_next S) = (nI 113) then (f_X8_takeNumber (sMs_wr (sMs_sp S ((gMs_sp S) + 1)) (if (f_X8_next S) = (nI 98) then false else (if (f_X8_next S) = (nI 108) then false else (if (f_X8_next S) = (nI 113) then false else (if (f_X8_next S) = (nI 105) then false else (if (f_X8_next S) = (nI 100) then false else (if (f_X8_next S) = (nI 112) then false else true))))))) 0 (nI 1000000)) else (if (f_X8_next S) = (nI 105) then (f_X8_takeNumber (sMs_wr (sMs_sp S ((gMs_sp S) + 1)) (if (f_X8_next S) = (nI 98) then false else (if (f_X8_next S) = (nI 108) then false else (if (f_X8_next S) = (nI 113) then false else (if (f_X8_next S) = (nI 105) then false else (if (f_X8_next S) = (nI 100) then false else (if (f_X8_next S) = (nI 112) then false else true))))))) 0 (nI 1000000)) else (sMs_wr (sMs_sp S ((gMs_sp S) + 1)) (if (f_X8_next S) = (nI 98) then false else (if (f_X8_next S) = (nI 108) then false else (if (f_X8_next S) = (nI 113) then false else (if (f_X8_next S) = (nI 105) then false else (if (f_X8_next S) = (nI 100) then false else (if (f_X8_next S) = (nI 112) then false else true)))))))))))) = false then (gMs_od (if (f_X8_next S) = (nI 98) then (f_X8_takeOrdering (sMs_wr (sMs_sp S ((gMs_sp S) + 1)) (if (f_X8_next S) = (nI 98) then false else (if (f_X8_next S) = (nI 108) then false else (if (f_X8_next S) = (nI 113) then false else (if (f_X8_next S) = (nI 105) then false else (if (f_X8_next S) = (nI 100) then false else (if (f_X8_next S) = (nI 112) then false else true)))))))) else (if (f_X8_next S) = (nI 108) then (f_X8_takeOrdering (sMs_wr (sMs_sp S ((gMs_sp S) + 1)) (if (f_X8_next S) = (nI 98) then false else (if (f_X8_next S) = (nI 108) then false else (if (f_X8_next S) = (nI 113) then false else (if (f_X8_next S) = (nI 105) then false else (if (f_X8_next S) = (nI 100) then false else (if (f_X8_next S) = (nI 112) then false else true)))))))) else (if (f_X8_next S) = (nI 113) then (f_X8_takeNumber (sMs_wr (sMs_sp S ((gMs_sp S) + 1)) (if (f_X8_next S) = (nI 98) then false else (if (f_X8_next S) = (nI 108) then false else (if (f_X8_next S) = (nI 113) then false else (if (f_X8_next S) = (nI 105) then false else (if (f_X8_next S) = (nI 100) then false else (if (f_X8_next S) = (nI 112) then false else true))))))) 0 (nI 1000000)) else (if (f_X8_next S) = (nI 105) then (f_X8_takeNumber (sMs_wr (sMs_sp S ((gMs_sp S) + 1)) (if (f_X8_next S) = (nI 98) then false else (if (f_X8_next S) = (nI 108) then false else (if (f_X8_next S) = (nI 113) then false else (if (f_X8_next S) = (nI 105) then false else (if (f_X8_next S) = (nI 100) then false else (if (f_X8_next S) = (nI 112) then false else true))))))) 0 (nI 1000000)) else (sMs_wr (sMs_sp S ((gMs_sp S) + 1)) (if (f_X8_next S) = (nI 98) then false else (if (f_X8_next S) = (nI 108) then false else (if (f_X8_next S) = (nI 113) then false else (if (f_X8_next S) = (nI 105) then false else (if (f_X8_next S) = (nI 100) then false else (if (f_X8_next S) = (nI 112) then false else true)))))))))))) + 1 else (gMs_od (if (f_X8_next S) = (nI 98) then (f_X8_takeOrdering (sMs_wr (sMs_sp S ((gMs_sp S) + 1)) (if (f_X8_next S) = (nI 98) then false else (if (f_X8_next S) = (nI 108) then false else (if (f_X8_next S) = (nI 113) then false else (if (f_X8_next S) = (nI 105) then false else (if (f_X8_next S) = (nI 100) then false else (if (f_X8_next S) = (nI 112) then false else true)))))))) else (if (f_X8_next S) = (nI 108) then (f_X8_takeOrdering (sMs_wr (sMs_sp S ((gMs_sp S) + 1)) (if (f_X8_next S) = (nI 98) then false else (if (f_X8_next S) = (nI 108) then false else (if (f_X8_next S) = (nI 113) then false else (if (f_X8_next S) = (nI 105) then false else (if (f_X8_next S) = (nI 100) then false else (if (f_X8_next S) = (nI 112) then false else true)))))))) else (if (f_X8_next S) = (nI 113) then (f_X8_takeNumber (sMs_wr (sMs_sp S ((gMs_sp S) + 1)) (if (f_X8_next S) = (nI 98) then false else (if (f_X8_next S) = (nI 108) then false else (if (f_X8_next S) = (nI 113) then false else (if (f_X8_next S) = (nI 105) then false else (if (f_X8_next S) = (nI 100) then false else (if (f_X8_next S) = (nI 112) then false else true))))))) 0 (nI 1000000)) else (if (f_X8_next S) = (nI 105) then (f_X8_takeNumber (sMs_wr (sMs_sp S ((gMs_sp S) + 1)) (if (f_X8_next S) = (nI 98) then false else (if (f_X8_next S) = (nI 108) then false else (if (f_X8_next S) = (nI 113) then false else (if (f_X8_next S) = (nI 105) then false else (if (f_X8_next S) = (nI 100) then false else (if (f_X8_next S) = (nI 112) then false else true))))))) 0 (nI 1000000)) else (sMs_wr (sMs_sp S ((gMs_sp S) + 1)) (if (f_X8_next S) = (nI 98) then false else (if (f_X8_next S) = (nI 108) then false else (if (f_X8_next S) = (nI 113) then false else (if (f_X8_next S) = (nI 105) then false else (if (f_X8_next S) = (nI 100) then false else (if (f_X8_next S) = (nI 112) then false else true)))))))))))))) (if (gMs_wr (if (f_X8_next S) = (nI 98) then (f_X8_takeOrdering (sMs_wr (sMs_sp S ((gMs_sp S) + 1)) (if (f_X8_next S) = (nI 98) then false else (if (f_X8_next S) = (nI 108) then false else (if (f_X8_next S) = (nI 113) then false else (if (f_X8_next S) = (nI 105) then false else (if (f_X8_next S) = (nI 100) then false else (if (f_X8_next S) = (nI 112) then false else true)))))))) else (if (f_X8_next S) = (nI 108) then (f_X8_takeOrdering (sMs_wr (sMs_sp S ((gMs_sp S) + 1)) (if (f_X8_next S) = (nI 98) then false else (if (f_X8_next S) = (nI 108) then false else (if (f_X8_next S) = (nI 113) then false else (if (f_X8_next S) = (nI 105) then false else (if (f_X8_next S) = (nI 100) then false else (if (f_X8_next S) = (nI 112) then false else true)))))))) else (if (f_X8_next S) = (nI 113) then (f_X8_takeNumber (sMs_wr (sMs_sp S ((gMs_sp S) + 1)) (if (f_X8_next S) = (nI 98) then false else (if (f_X8_next S) = (nI 108) then false else (if (f_X8_next S) = (nI 113) then false else (if (f_X8_next S) = (nI 105) then false else (if (f_X8_next S) = (nI 100) then false else (if (f_X8_next S) = (nI 112) then false else true))))))) 0 (nI 1000000)) else (if (f_X8_next S) = (nI 105) then (f_X8_takeNumber (sMs_wr (sMs_sp S ((gMs_sp S) + 1)) (if (f_X8_next S) = (nI 98) then false else (if (f_X8_next S) = (nI 108) then false else (if (f_X8_next S) = (nI 113) then false else (if (f_X8_next S) = (nI 105) then false else (if (f_X8_next S) = (nI 100) then false else (if (f_X8_next S) = (nI 112) then false else true))))))) 0 (nI 1000000)) else (sMs_wr (sMs_sp S ((gMs_sp S) + 1)) (if (f_X8_next S) = (nI 98) then false else (if (f_X8_next S) = (nI 108) then false else (if (f_X8_next S) = (nI 113) then false else (if (f_X8_next S) = (nI 105) then false else (if (f_X8_next S) = (nI 100) then false else (if (f_X8_next S) = (nI 112) then false else true)))))))))))) = false then (upd (gMs_so (if (f_X8_next S) = (nI 98) then (f_X8_takeOrdering (sMs_wr (sMs_sp S ((gMs_sp S) + 1)) (if (f_X8_next S) = (nI 98) then false else (if (f_X8_next S) = (nI 108) then false else (if (f_X8_next S) = (nI 113) then false else (if (f_X8_next S) = (nI 105) then false else (if (f_X8_next S) = (nI 100) then false else (if (f_X8_next S) = (nI 112) then false else true)))))))) else (if (f_X8_next S) = (nI 108) then (f_X8_takeOrdering (sMs_wr (sMs_sp S ((gMs_sp S) + 1)) (if (f_X8_next S) = (nI 98) then false else (if (f_X8_next S) = (nI 108) then false else (if (f_X8_next S) = (nI 113) then false else (if (f_X8_next S) = (nI 105) then false else (if (f_X8_next S) = (nI 100) then false else (if (f_X8_next S) = (nI 112) then false else true)))))))) else (if (f_X8_next S) = (nI 113) then (f_X8_takeNumber (sMs_wr (sMs_sp S ((gMs_sp S) + 1)) (if (f_X8_next S) = (nI 98) then false else (if (f_X8_next S) = (nI 108) then false else (if (f_X8_next S) = (nI 113) then false else (if (f_X8_next S) = (nI 105) then false else (if (f_X8_next S) = (nI 100) then false else (if (f_X8_next S) = (nI 112) then false else true))))))) 0 (nI 1000000)) else (if (f_X8_next S) = (nI 105) then (f_X8_takeNumber (sMs_wr (sMs_sp S ((gMs_sp S) + 1)) (if (f_X8_next S) = (nI 98) then false else (if (f_X8_next S) = (nI 108) then false else (if (f_X8_next S) = (nI 113) then false else (if (f_X8_next S) = (nI 105) then false else (if (f_X8_next S) = (nI 100) then false else (if (f_X8_next S) = (nI 112) then false else true))))))) 0 (nI 1000000)) else (sMs_wr (sMs_sp S ((gMs_sp S) + 1)) (if (f_X8_next S) = (nI 98) then false else (if (f_X8_next S) = (nI 108) then false else (if (f_X8_next S) = (nI 113) then false else (if (f_X8_next S) = (nI 105) then false else (if (f_X8_next S) = (nI 100) then false else (if (f_X8_next S) = (nI 112) then false else true)))))))))))) (gMs_od (if (f_X8_next S) = (nI 98) then (f_X8_takeOrdering (sMs_wr (sMs_sp S ((gMs_sp S) + 1)) (if (f_X8_next S) = (nI 98) then false else (if (f_X8_next S) = (nI 108) then false else (if (f_X8_next S) = (nI 113) then false else (if (f_X8_next S) = (nI 105) then false else (if (f_X8_next S) = (nI 100) then false else (if (f_X8_next S) = (nI 112) then false else true)))))))) else (if (f_X8_next S) = (nI 108) then (f_X8_takeOrdering (sMs_wr (sMs_sp S ((gMs_sp S) + 1)) (if (f_X8_next S) = (nI 98) then false else (if (f_X8_next S) = (nI 108) then false else (if (f_X8_next S) = (nI 113) then false else (if (f_X8_next S) = (nI 105) then false else (if (f_X8_next S) = (nI 100) then false else (if (f_X8_next S) = (nI 112) then false else true)))))))) else (if (f_X8_next S) = (nI 113) then (f_X8_takeNumber (sMs_wr (sMs_sp S ((gMs_sp S) + 1)) (if (f_X8_next S) = (nI 98) then false else (if (f_X8_next S) = (nI 108) then false else (if (f_X8_next S) = (nI 113) then false else (if (f_X8_next S) = (nI 105) then false else (if (f_X8_next S) = (nI 100) then false else (if (f_X8_next S) = (nI 112) then false else true))))))) 0 (nI 1000000)) else (if (f_X8_next S) = (nI 105) then (f_X8_takeNumber (sMs_wr (sMs_sp S ((gMs_sp S) + 1)) (if (f_X8_next S) = (nI 98) then false else (if (f_X8_next S) = (nI 108) then false else (if (f_X8_next S) = (nI 113) then false else (if (f_X8_next S) = (nI 105) then false else (if (f_X8_next S) = (nI 100) then false else (if (f_X8_next S) = (nI 112) then false else true))))))) 0 (nI 1000000)) else (sMs_wr (sMs_sp S ((gMs_sp S) + 1)) (if (f_X8_next S) = (nI 98) then false else (if (f_X8_next S) = (nI 108) then false else (if (f_X8_next S) = (nI 113) then false else (if (f_X8_next S) = (nI 105) then false else (if (f_X8_next S) = (nI 100) then false else (if (f_X8_next S) = (nI 112) then false else true)))))))))))) (f_X8_next S)) else (gMs_so (if (f_X8_next S) = (nI 98) then (f_X8_takeOrdering (sMs_wr (sMs_sp S ((gMs_sp S) + 1)) (if (f_X8_next S) = (nI 98) then false else (if (f_X8_next S) = (nI 108) then false else (if (f_X8_next S) = (nI 113) then false else (if (f_X8_next S) = (nI 105) then false else (if (f_X8_next S) = (nI 100) then false else (if (f_X8_next S) = (nI 112) then false else true)))))))) else (if (f_X8_next S) = (nI 108) then (f_X8_takeOrdering (sMs_wr (sMs_sp S ((gMs_sp S) + 1)) (if (f_X8_next S) = (nI 98) then false else (if (f_X8_next S) = (nI 108) then false else (if (f_X8_next S) = (nI 113) then false else (if (f_X8_next S) = (nI 105) then false else (if (f_X8_next S) = (nI 100) then false else (if (f_X8_next S) = (nI 112) then false else true)))))))) else (if (f_X8_next S) = (nI 113) then (f_X8_takeNumber (sMs_wr (sMs_sp S ((gMs_sp S) + 1)) (if (f_X8_next S) = (nI 98) then false else (if (f_X8_next S) = (nI 108) then false else (if (f_X8_next S) = (nI 113) then false else (if (f_X8_next S) = (nI 105) then false else (if (f_X8_next S) = (nI 100) then false else (if (f_X8_next S) = (nI 112) then false else true))))))) 0 (nI 1000000)) else (if (f_X8_next S) = (nI 105) then (f_X8_takeNumber (sMs_wr (sMs_sp S ((gMs_sp S) + 1)) (if (f_X8_next S) = (nI 98) then false else (if (f_X8_next S) = (nI 108) then false else (if (f_X8_next S) = (nI 113) then false else (if (f_X8_next S) = (nI 105) then false else (if (f_X8_next S) = (nI 100) then false else (if (f_X8_next S) = (nI 112) then false else true))))))) 0 (nI 1000000)) else (sMs_wr (sMs_sp S ((gMs_sp S) + 1)) (if (f_X8_next S) = (nI 98) then false else (if (f_X8_next S) = (nI 108) then false else (if (f_X8_next S) = (nI 113) then false else (if (f_X8_next S) = (nI 105) then false else (if (f_X8_next S) = (nI 100) then false else (if (f_X8_next S) = (nI 112) then false else true)))))))))))))) := by refine (zsl_e _).trans ?_; refine (if_pos c_54).trans ?_; rfl
          rw [e] at hret
          exact hret _ _ dX8_takeOrder_133
        refine zj_if_ne C 133 dX8_takeOrder_110 (by decide) (fun c => ?_) (fun c => ?_)
        · have c_110 : ¬ ((gMs_wr x71_0) = false) := (zB_neq c)
          exact J_110 (gMs_od x71_0) (gMs_so x71_0) (by simp only [if_pos c_54, if_neg c_110]; first | done | assumption) (by simp only [if_pos c_54, if_neg c_110]; first | done | assumption)
        · have c_110 : (gMs_wr x71_0) = false := (zB_eq (Classical.not_not.mp c))
          refine zj_aload_n C dX8_takeOrder_113 1 rfl ?_
          refine zj_get C 0 8 13 (v := .ref (m 8)) inZ8 rfl rfl (by decide) tg_690 rfl dX8_takeOrder_114 ?_
          refine zj_aload_n C dX8_takeOrder_117 1 rfl ?_
          refine zj_get C 0 8 12 (v := .int (nI (gMs_od x71_0))) inZ8 rfl rfl (by decide) tg_689 rfl dX8_takeOrder_118 ?_
          refine zj_iload_n C dX8_takeOrder_121 0 rfl ?_
          refine zj_iast C 8 (f := (gMs_so x71_0)) (ws' := (WM cy m (sMs_so x71_0 (upd (gMs_so x71_0) (gMs_od x71_0) (f_X8_next S))))) (gMs_od x71_0) (nI_clamp (by omega)) (vp_in_nI (by omega) (by decide)) rfl dX8_takeOrder_122 rfl ?_
          refine zj_aload_n C dX8_takeOrder_123 1 rfl ?_
          refine zj_dup C dX8_takeOrder_124 rfl ?_
          refine zj_get C 0 8 12 (v := .int (nI (gMs_od x71_0))) inZ8 rfl rfl (by decide) tg_689 rfl dX8_takeOrder_125 ?_
          refine zj_iconst C (v := (nI 1)) dX8_takeOrder_128 (by decide) ?_
          refine zj_iadd C dX8_takeOrder_129 ?_
          refine zj_topi (nI ((gMs_od x71_0) + 1)) (nI_add _ _) ?_
          refine zj_put C 0 8 12 (v := .int (nI ((gMs_od x71_0) + 1))) (ws' := (WM cy m (sMs_so (sMs_od x71_0 ((gMs_od x71_0) + 1)) (upd (gMs_so x71_0) (gMs_od x71_0) (f_X8_next S))))) tyX8 tyX8_ok nmX8 inZ8 rfl rfl (by decide) tg_689 rfl rfl rfl (Nat.le_of_ble_eq_true rfl) dX8_takeOrder_130 rfl ?_
          exact J_110 ((gMs_od x71_0) + 1) (upd (gMs_so x71_0) (gMs_od x71_0) (f_X8_next S)) (by simp only [if_pos c_54, if_pos c_110]; first | done | assumption) (by simp only [if_pos c_54, if_pos c_110]; first | done | assumption)
      refine zj_icmp_eq C 80 dX8_takeOrder_71 (by decide) (fun c => ?_) (fun c => ?_)
      · have c_71 : (f_X8_next S) = (nI 98) := c
        refine zj_aload_n C dX8_takeOrder_80 1 rfl ?_
        refine zj_callV C (nn := 10) (ws' := (WM cy m (f_X8_takeOrdering (sMs_wr (sMs_sp S ((gMs_sp S) + 1)) x9_0)))) (st := []) (st1 := []) 0 8 [0, 1, 2, 3, 4, 5, 6, 7, 8, 9] (c_X8_takeOrdering l D cy m  (sMs_wr (sMs_sp S ((gMs_sp S) + 1)) x9_0) (zpp_wr1 hz hlt)) (zg_V tg_975 tg_972 tg_974 tgp_52 tg_9) ⟨rfl, hdZ_X8_takeOrdering⟩ ⟨rfl, rfl⟩ ⟨by decide, by decide⟩ rfl rfl rfl (by decide) ⟨rfl, rfl⟩ rfl rfl (Nat.le_of_ble_eq_true rfl) dX8_takeOrder_81 rfl rfl ?_
        refine zj_goto C 106 dX8_takeOrder_84 (by decide) ?_
        exact J_71 (f_X8_takeOrdering (sMs_wr (sMs_sp S ((gMs_sp S) + 1)) x9_0)) (by simp only [if_pos c_54, if_pos c_71]; first | done | assumption)
      · have c_71 : ¬ ((f_X8_next S) = (nI 98)) := c
        refine zj_iload_n C dX8_takeOrder_74 0 rfl ?_
        refine zj_bipush C (v := (nI 108)) dX8_takeOrder_75 (by decide) ?_
        have J_77 : ∀ (x77_0 : zMs), x77_0 = (if (f_X8_next S) = (nI 108) then (f_X8_takeOrdering (sMs_wr (sMs_sp S ((gMs_sp S) + 1)) x9_0)) else (if (f_X8_next S) = (nI 113) then (f_X8_takeNumber (sMs_wr (sMs_sp S ((gMs_sp S) + 1)) x9_0) 0 (nI 1000000)) else (if (f_X8_next S) = (nI 105) then (f_X8_takeNumber (sMs_wr (sMs_sp S ((gMs_sp S) + 1)) x9_0) 0 (nI 1000000)) else (sMs_wr (sMs_sp S ((gMs_sp S) + 1)) x9_0)))) → zJ E 2 0 0 (WM cy m x77_0) 106 [(1, .int (f_X8_next S)), (0, .ref (m 0))] [] := by
          intro x77_0 hx77_0
          exact J_71 x77_0 (by simp only [if_pos c_54, if_neg c_71]; first | done | assumption)
        refine zj_icmp_ne C 87 dX8_takeOrder_77 (by decide) (fun c => ?_) (fun c => ?_)
        · have c_77 : ¬ ((f_X8_next S) = (nI 108)) := c
          refine zj_iload_n C dX8_takeOrder_87 0 rfl ?_
          refine zj_bipush C (v := (nI 113)) dX8_takeOrder_88 (by decide) ?_
          have J_90 : ∀ (x90_0 : zMs), x90_0 = (if (f_X8_next S) = (nI 113) then (f_X8_takeNumber (sMs_wr (sMs_sp S ((gMs_sp S) + 1)) x9_0) 0 (nI 1000000)) else (if (f_X8_next S) = (nI 105) then (f_X8_takeNumber (sMs_wr (sMs_sp S ((gMs_sp S) + 1)) x9_0) 0 (nI 1000000)) else (sMs_wr (sMs_sp S ((gMs_sp S) + 1)) x9_0))) → zJ E 2 0 0 (WM cy m x90_0) 106 [(1, .int (f_X8_next S)), (0, .ref (m 0))] [] := by
            intro x90_0 hx90_0
            exact J_77 x90_0 (by simp only [if_pos c_54, if_neg c_71, if_neg c_77]; first | done | assumption)
          refine zj_icmp_eq C 99 dX8_takeOrder_90 (by decide) (fun c => ?_) (fun c => ?_)
          · have c_90 : (f_X8_next S) = (nI 113) := c
            refine zj_aload_n C dX8_takeOrder_99 1 rfl ?_
            refine zj_iconst C (v := (nI 0)) dX8_takeOrder_100 (by decide) ?_
            refine zj_ldc C dX8_takeOrder_101 tg_986 ?_
            refine zj_topi (nI 1000000) (by decide) ?_
            refine zj_callV C (nn := 10) (ws' := (WM cy m (f_X8_takeNumber (sMs_wr (sMs_sp S ((gMs_sp S) + 1)) x9_0) 0 (nI 1000000)))) (st := []) (st1 := []) 0 8 [0, 1, 2, 3, 4, 5, 6, 7, 8, 9] (c_X8_takeNumber l D cy m 0 (nI 1000000) (sMs_wr (sMs_sp S ((gMs_sp S) + 1)) x9_0) (zpp_wr1 hz hlt) (by decide)) (zg_V tg_990 tg_987 tg_989 tgp_55 tg_9) ⟨rfl, hdZ_X8_takeNumber⟩ ⟨rfl, rfl⟩ ⟨by decide, by decide⟩ rfl rfl rfl (by decide) ⟨rfl, rfl⟩ rfl rfl (Nat.le_of_ble_eq_true rfl) dX8_takeOrder_103 rfl rfl ?_
            exact J_90 (f_X8_takeNumber (sMs_wr (sMs_sp S ((gMs_sp S) + 1)) x9_0) 0 (nI 1000000)) (by simp only [if_pos c_54, if_neg c_71, if_neg c_77, if_pos c_90]; first | done | assumption)
          · have c_90 : ¬ ((f_X8_next S) = (nI 113)) := c
            refine zj_iload_n C dX8_takeOrder_93 0 rfl ?_
            refine zj_bipush C (v := (nI 105)) dX8_takeOrder_94 (by decide) ?_
            have J_96 : ∀ (x96_0 : zMs), x96_0 = (if (f_X8_next S) = (nI 105) then (f_X8_takeNumber (sMs_wr (sMs_sp S ((gMs_sp S) + 1)) x9_0) 0 (nI 1000000)) else (sMs_wr (sMs_sp S ((gMs_sp S) + 1)) x9_0)) → zJ E 2 0 0 (WM cy m x96_0) 106 [(1, .int (f_X8_next S)), (0, .ref (m 0))] [] := by
              intro x96_0 hx96_0
              exact J_90 x96_0 (by simp only [if_pos c_54, if_neg c_71, if_neg c_77, if_neg c_90]; first | done | assumption)
            refine zj_icmp_ne C 106 dX8_takeOrder_96 (by decide) (fun c => ?_) (fun c => ?_)
            · have c_96 : ¬ ((f_X8_next S) = (nI 105)) := c
              exact J_96 (sMs_wr (sMs_sp S ((gMs_sp S) + 1)) x9_0) (by simp only [if_pos c_54, if_neg c_71, if_neg c_77, if_neg c_90, if_neg c_96]; first | done | assumption)
            · have c_96 : (f_X8_next S) = (nI 105) := (Classical.not_not.mp c)
              refine zj_aload_n C dX8_takeOrder_99 1 rfl ?_
              refine zj_iconst C (v := (nI 0)) dX8_takeOrder_100 (by decide) ?_
              refine zj_ldc C dX8_takeOrder_101 tg_986 ?_
              refine zj_topi (nI 1000000) (by decide) ?_
              refine zj_callV C (nn := 10) (ws' := (WM cy m (f_X8_takeNumber (sMs_wr (sMs_sp S ((gMs_sp S) + 1)) x9_0) 0 (nI 1000000)))) (st := []) (st1 := []) 0 8 [0, 1, 2, 3, 4, 5, 6, 7, 8, 9] (c_X8_takeNumber l D cy m 0 (nI 1000000) (sMs_wr (sMs_sp S ((gMs_sp S) + 1)) x9_0) (zpp_wr1 hz hlt) (by decide)) (zg_V tg_990 tg_987 tg_989 tgp_55 tg_9) ⟨rfl, hdZ_X8_takeNumber⟩ ⟨rfl, rfl⟩ ⟨by decide, by decide⟩ rfl rfl rfl (by decide) ⟨rfl, rfl⟩ rfl rfl (Nat.le_of_ble_eq_true rfl) dX8_takeOrder_103 rfl rfl ?_
              exact J_96 (f_X8_takeNumber (sMs_wr (sMs_sp S ((gMs_sp S) + 1)) x9_0) 0 (nI 1000000)) (by simp only [if_pos c_54, if_neg c_71, if_neg c_77, if_neg c_90, if_pos c_96]; first | done | assumption)
        · have c_77 : (f_X8_next S) = (nI 108) := (Classical.not_not.mp c)
          refine zj_aload_n C dX8_takeOrder_80 1 rfl ?_
          refine zj_callV C (nn := 10) (ws' := (WM cy m (f_X8_takeOrdering (sMs_wr (sMs_sp S ((gMs_sp S) + 1)) x9_0)))) (st := []) (st1 := []) 0 8 [0, 1, 2, 3, 4, 5, 6, 7, 8, 9] (c_X8_takeOrdering l D cy m  (sMs_wr (sMs_sp S ((gMs_sp S) + 1)) x9_0) (zpp_wr1 hz hlt)) (zg_V tg_975 tg_972 tg_974 tgp_52 tg_9) ⟨rfl, hdZ_X8_takeOrdering⟩ ⟨rfl, rfl⟩ ⟨by decide, by decide⟩ rfl rfl rfl (by decide) ⟨rfl, rfl⟩ rfl rfl (Nat.le_of_ble_eq_true rfl) dX8_takeOrder_81 rfl rfl ?_
          refine zj_goto C 106 dX8_takeOrder_84 (by decide) ?_
          exact J_77 (f_X8_takeOrdering (sMs_wr (sMs_sp S ((gMs_sp S) + 1)) x9_0)) (by simp only [if_pos c_54, if_neg c_71, if_pos c_77]; first | done | assumption)
    · have c_54 : ¬ (x9_0 = false) := (zB_neq c)
      subst hx9_0
      have e : f_X8_takeOrder S = (sMs_wr S (if (f_X8_next S) = (nI 98) then false else (if (f_X8_next S) = (nI 108) then false else (if (f_X8_next S) = (nI 113) then false else (if (f_X8_next S) = (nI 105) then false else (if (f_X8_next S) = (nI 100) then false else (if (f_X8_next S) = (nI 112) then false else true))))))) := by refine (zsl_e _).trans ?_; refine (if_neg c_54).trans ?_; rfl
      rw [e] at hret
      exact hret _ _ dX8_takeOrder_57
  refine zj_icmp_eq C 46 dX8_takeOrder_9 (by decide) (fun c => ?_) (fun c => ?_)
  · have c_9 : (f_X8_next S) = (nI 98) := c
    refine zj_iconst C (v := (nI 0)) dX8_takeOrder_46 (by decide) ?_
    exact J_9 false (by simp only [if_pos c_9]; first | done | assumption)
  · have c_9 : ¬ ((f_X8_next S) = (nI 98)) := c
    refine zj_iload_n C dX8_takeOrder_12 0 rfl ?_
    refine zj_bipush C (v := (nI 108)) dX8_takeOrder_13 (by decide) ?_
    have J_15 : ∀ (x15_0 : Bool), x15_0 = (if (f_X8_next S) = (nI 108) then false else (if (f_X8_next S) = (nI 113) then false else (if (f_X8_next S) = (nI 105) then false else (if (f_X8_next S) = (nI 100) then false else (if (f_X8_next S) = (nI 112) then false else true))))) → zJ E 2 0 0 (WM cy m S) 47 [(1, .int (f_X8_next S)), (0, .ref (m 0))] [.int (zB x15_0), .ref (m 0)] := by
      intro x15_0 hx15_0
      exact J_9 x15_0 (by simp only [if_neg c_9]; first | done | assumption)
    refine zj_icmp_eq C 46 dX8_takeOrder_15 (by decide) (fun c => ?_) (fun c => ?_)
    · have c_15 : (f_X8_next S) = (nI 108) := c
      refine zj_iconst C (v := (nI 0)) dX8_takeOrder_46 (by decide) ?_
      exact J_15 false (by simp only [if_neg c_9, if_pos c_15]; first | done | assumption)
    · have c_15 : ¬ ((f_X8_next S) = (nI 108)) := c
      refine zj_iload_n C dX8_takeOrder_18 0 rfl ?_
      refine zj_bipush C (v := (nI 113)) dX8_takeOrder_19 (by decide) ?_
      have J_21 : ∀ (x21_0 : Bool), x21_0 = (if (f_X8_next S) = (nI 113) then false else (if (f_X8_next S) = (nI 105) then false else (if (f_X8_next S) = (nI 100) then false else (if (f_X8_next S) = (nI 112) then false else true)))) → zJ E 2 0 0 (WM cy m S) 47 [(1, .int (f_X8_next S)), (0, .ref (m 0))] [.int (zB x21_0), .ref (m 0)] := by
        intro x21_0 hx21_0
        exact J_15 x21_0 (by simp only [if_neg c_9, if_neg c_15]; first | done | assumption)
      refine zj_icmp_eq C 46 dX8_takeOrder_21 (by decide) (fun c => ?_) (fun c => ?_)
      · have c_21 : (f_X8_next S) = (nI 113) := c
        refine zj_iconst C (v := (nI 0)) dX8_takeOrder_46 (by decide) ?_
        exact J_21 false (by simp only [if_neg c_9, if_neg c_15, if_pos c_21]; first | done | assumption)
      · have c_21 : ¬ ((f_X8_next S) = (nI 113)) := c
        refine zj_iload_n C dX8_takeOrder_24 0 rfl ?_
        refine zj_bipush C (v := (nI 105)) dX8_takeOrder_25 (by decide) ?_
        have J_27 : ∀ (x27_0 : Bool), x27_0 = (if (f_X8_next S) = (nI 105) then false else (if (f_X8_next S) = (nI 100) then false else (if (f_X8_next S) = (nI 112) then false else true))) → zJ E 2 0 0 (WM cy m S) 47 [(1, .int (f_X8_next S)), (0, .ref (m 0))] [.int (zB x27_0), .ref (m 0)] := by
          intro x27_0 hx27_0
          exact J_21 x27_0 (by simp only [if_neg c_9, if_neg c_15, if_neg c_21]; first | done | assumption)
        refine zj_icmp_eq C 46 dX8_takeOrder_27 (by decide) (fun c => ?_) (fun c => ?_)
        · have c_27 : (f_X8_next S) = (nI 105) := c
          refine zj_iconst C (v := (nI 0)) dX8_takeOrder_46 (by decide) ?_
          exact J_27 false (by simp only [if_neg c_9, if_neg c_15, if_neg c_21, if_pos c_27]; first | done | assumption)
        · have c_27 : ¬ ((f_X8_next S) = (nI 105)) := c
          refine zj_iload_n C dX8_takeOrder_30 0 rfl ?_
          refine zj_bipush C (v := (nI 100)) dX8_takeOrder_31 (by decide) ?_
          have J_33 : ∀ (x33_0 : Bool), x33_0 = (if (f_X8_next S) = (nI 100) then false else (if (f_X8_next S) = (nI 112) then false else true)) → zJ E 2 0 0 (WM cy m S) 47 [(1, .int (f_X8_next S)), (0, .ref (m 0))] [.int (zB x33_0), .ref (m 0)] := by
            intro x33_0 hx33_0
            exact J_27 x33_0 (by simp only [if_neg c_9, if_neg c_15, if_neg c_21, if_neg c_27]; first | done | assumption)
          refine zj_icmp_eq C 46 dX8_takeOrder_33 (by decide) (fun c => ?_) (fun c => ?_)
          · have c_33 : (f_X8_next S) = (nI 100) := c
            refine zj_iconst C (v := (nI 0)) dX8_takeOrder_46 (by decide) ?_
            exact J_33 false (by simp only [if_neg c_9, if_neg c_15, if_neg c_21, if_neg c_27, if_pos c_33]; first | done | assumption)
          · have c_33 : ¬ ((f_X8_next S) = (nI 100)) := c
            refine zj_iload_n C dX8_takeOrder_36 0 rfl ?_
            refine zj_bipush C (v := (nI 112)) dX8_takeOrder_37 (by decide) ?_
            have J_39 : ∀ (x39_0 : Bool), x39_0 = (if (f_X8_next S) = (nI 112) then false else true) → zJ E 2 0 0 (WM cy m S) 47 [(1, .int (f_X8_next S)), (0, .ref (m 0))] [.int (zB x39_0), .ref (m 0)] := by
              intro x39_0 hx39_0
              exact J_33 x39_0 (by simp only [if_neg c_9, if_neg c_15, if_neg c_21, if_neg c_27, if_neg c_33]; first | done | assumption)
            refine zj_icmp_eq C 46 dX8_takeOrder_39 (by decide) (fun c => ?_) (fun c => ?_)
            · have c_39 : (f_X8_next S) = (nI 112) := c
              refine zj_iconst C (v := (nI 0)) dX8_takeOrder_46 (by decide) ?_
              exact J_39 false (by simp only [if_neg c_9, if_neg c_15, if_neg c_21, if_neg c_27, if_neg c_33, if_pos c_39]; first | done | assumption)
            · have c_39 : ¬ ((f_X8_next S) = (nI 112)) := c
              refine zj_iconst C (v := (nI 1)) dX8_takeOrder_42 (by decide) ?_
              refine zj_goto C 47 dX8_takeOrder_43 (by decide) ?_
              exact J_39 true (by simp only [if_neg c_9, if_neg c_15, if_neg c_21, if_neg c_27, if_neg c_33, if_neg c_39]; first | done | assumption)
