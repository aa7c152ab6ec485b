noncomputable def L_X0_buy (x : zDd) (due : Nat) : Nat → (zTr) → (Nat) → (zTr) × (Nat)
  | 0, X, k => (X, k)
  | fuel + 1, X, k =>
    if due ≤ k then
      (X, k)
    else
      let x24_0 : Int64 := (if (gDd_price x) ≤ 0 then 0 else ((1000 * ((((gOd_sz (gTr_bu X)) k)).toInt64)) / (gDd_price x)))
      let x48_0 : zTr := (if x24_0 = 0 then (sTr_la X (sLd_back (gTr_la X) ((gLd_back (gTr_la X)) + ((((gOd_sz (gTr_bu X)) k)).toInt64)))) else (if ((f_X6_units X) + x24_0) ≤ 1000000000 then (sTr_la (f_X6_makeUnits X ((gOd_ho (gTr_bu X) k).toNatClampNeg) x24_0 ((((gOd_sz (gTr_bu X)) k)).toInt64) (gDd_ui x)) (sLd_made (gTr_la (f_X6_makeUnits X ((gOd_ho (gTr_bu X) k).toNatClampNeg) x24_0 ((((gOd_sz (gTr_bu X)) k)).toInt64) (gDd_ui x))) ((gLd_made (gTr_la (f_X6_makeUnits X ((gOd_ho (gTr_bu X) k).toNatClampNeg) x24_0 ((((gOd_sz (gTr_bu X)) k)).toInt64) (gDd_ui x)))) + x24_0))) else (sTr_la X (sLd_back (gTr_la X) ((gLd_back (gTr_la X)) + ((((gOd_sz (gTr_bu X)) k)).toInt64))))))
      let F_132 : Nat → Int32 := (upd (gOd_sz (gTr_bu x48_0)) k (nI 0))
      L_X0_buy x due fuel (sTr_bu x48_0 (sOd_sz (gTr_bu x48_0) F_132)) (k + 1)
theorem L_X0_buy_s (x : zDd) (due : Nat) (fuel : Nat) (X : zTr) (k : Nat) : L_X0_buy x due (fuel + 1) X k = (
    if due ≤ k then
      (X, k)
    else
      let x24_0 : Int64 := (if (gDd_price x) ≤ 0 then 0 else ((1000 * ((((gOd_sz (gTr_bu X)) k)).toInt64)) / (gDd_price x)))
      let x48_0 : zTr := (if x24_0 = 0 then (sTr_la X (sLd_back (gTr_la X) ((gLd_back (gTr_la X)) + ((((gOd_sz (gTr_bu X)) k)).toInt64)))) else (if ((f_X6_units X) + x24_0) ≤ 1000000000 then (sTr_la (f_X6_makeUnits X ((gOd_ho (gTr_bu X) k).toNatClampNeg) x24_0 ((((gOd_sz (gTr_bu X)) k)).toInt64) (gDd_ui x)) (sLd_made (gTr_la (f_X6_makeUnits X ((gOd_ho (gTr_bu X) k).toNatClampNeg) x24_0 ((((gOd_sz (gTr_bu X)) k)).toInt64) (gDd_ui x))) ((gLd_made (gTr_la (f_X6_makeUnits X ((gOd_ho (gTr_bu X) k).toNatClampNeg) x24_0 ((((gOd_sz (gTr_bu X)) k)).toInt64) (gDd_ui x)))) + x24_0))) else (sTr_la X (sLd_back (gTr_la X) ((gLd_back (gTr_la X)) + ((((gOd_sz (gTr_bu X)) k)).toInt64))))))
      let F_132 : Nat → Int32 := (upd (gOd_sz (gTr_bu x48_0)) k (nI 0))
      L_X0_buy x due fuel (sTr_bu x48_0 (sOd_sz (gTr_bu x48_0) F_132)) (k + 1)
  ) := rfl
noncomputable def f_X0_doBuyers (x : zDd) (t : zTr) (due : Nat) : zTr :=
  let X1 : zTr := ((L_X0_buy x due (due - 0 + 1) t 0).1)
  let k1 : Nat := ((L_X0_buy x due (due - 0 + 1) t 0).2)
  let T_143 : zOd := (f_X4_dropEmpty (gTr_bu X1))
  (sTr_bu X1 T_143)
set_option maxHeartbeats 4000000 in
set_option maxRecDepth 100000 in
theorem c_X0_doBuyers (l : Launch) (D : va_G) (cy : Nat → ClassId) (d0 d1 : Nat) (a : Nat → Nat) (due : Nat) (x : zDd) (t : zTr) (hd : due ≤ 20) (hn : gOd_n (gTr_bu t) ≤ 20) (hv : ∀ i, i < due → vp_in (gOd_ho (gTr_bu t) i) 6) : zC l yX0_doBuyers (zW yX0_doBuyers cX0_doBuyers 8 (Option.none : Option Jvm.ClassFile.FieldType)) { frames := 2, cells := 0, slots := 0, locals := 46 } D cy [.ref d0, .ref (a 0), .int (nI due)] ([(WD cy d0 d1 x), (WT cy a t)] : List va_W).flatten none ([(WD cy d0 d1 x), (WT cy a (f_X0_doBuyers x t due))] : List va_W).flatten := by
  refine zC_of rfl (Nat.le_of_ble_eq_true rfl) zOk_v (fun E C hret => ?_)
  show zJ E 8 0 0 ([(WD cy d0 d1 x), (WT cy a t)] : List va_W).flatten 0 [(0, .ref d0), (1, .ref (a 0)), (2, .int (nI due))] []
  refine zj_iconst C (v := (nI 0)) dX0_doBuyers_0 (by decide) ?_
  refine zj_istore_n C (L' := [(3, .int (nI 0)), (0, .ref d0), (1, .ref (a 0)), (2, .int (nI due))]) dX0_doBuyers_1 rfl (by decide) rfl ?_
  have loop_2 : ∀ (fuel : Nat) (X : zTr) (k : Nat), (hk : k ≤ 20) → (hX : gOd_n (gTr_bu X) = gOd_n (gTr_bu t)) → (hho : gOd_ho (gTr_bu X) = gOd_ho (gTr_bu t)) → due - k < fuel → (gOd_n (gTr_bu ((L_X0_buy x due fuel X k).1)) = gOd_n (gTr_bu t) → zJ E 8 0 0 ([(WD cy d0 d1 x), (WT cy a ((L_X0_buy x due fuel X k).1))] : List va_W).flatten 139 [(1, .ref (a 0))] []) → zJ E 8 0 0 ([(WD cy d0 d1 x), (WT cy a X)] : List va_W).flatten 2 [(0, .ref d0), (1, .ref (a 0)), (2, .int (nI due)), (3, .int (nI k))] [] := by
    intro fuel
    induction fuel with
    | zero => intro X k hk hX hho hmu; exact absurd hmu (Nat.not_lt_zero _)
    | succ fuel ih_2 =>
      intro X k hk hX hho hmu_2 K_2
      refine zj_iload_n C dX0_doBuyers_2 3 rfl ?_
      refine zj_iload_n C dX0_doBuyers_3 2 rfl ?_
      refine zj_icmp_ge C 139 dX0_doBuyers_4 (by decide) (fun c => ?_) (fun c => ?_)
      · have c_4 : due ≤ k := ((nI_leI (by omega) (by omega)).mp c)
        refine zj_sub (L' := [(1, .ref (a 0))]) [1] rfl ?_
        have e_2 : (L_X0_buy x due (fuel + 1) X k) = (X, k) := by refine (L_X0_buy_s x due fuel X k).trans ?_; refine (if_pos c_4).trans ?_; rfl
        rw [e_2] at K_2
        exact K_2 hX
      · have c_4 : ¬ (due ≤ k) := (fun q => c ((nI_leI (by omega) (by omega)).mpr q))
        refine zj_aload_n C dX0_doBuyers_7 1 rfl ?_
        refine zj_get C 2 6 8 (v := .ref (a 3)) inZ6 rfl rfl (by decide) tg_160 rfl dX0_doBuyers_8 ?_
        refine zj_get C 5 4 2 (v := .ref (a 5)) inZ4 rfl rfl (by decide) tg_81 rfl dX0_doBuyers_11 ?_
        refine zj_iload_n C dX0_doBuyers_14 3 rfl ?_
        refine zj_iald C 7 (f := (gOd_sz (gTr_bu X))) k (nI_clamp (by omega)) (vp_in_nI (by omega) (by omega)) rfl dX0_doBuyers_15 ?_
        refine zj_i2l C dX0_doBuyers_16 ?_
        refine zj_lstore C (L' := [(4, .long ((((gOd_sz (gTr_bu X)) k)).toInt64)), (0, .ref d0), (1, .ref (a 0)), (2, .int (nI due)), (3, .int (nI k))]) dX0_doBuyers_17 (by decide) rfl ?_
        refine zj_aload_n C dX0_doBuyers_19 1 rfl ?_
        refine zj_get C 0 0 2 (v := .long (gDd_price x)) inZ0 rfl rfl (by decide) tg_199 rfl dX0_doBuyers_20 ?_
        refine zj_lconst C (v := 0) dX0_doBuyers_23 (by decide) ?_
        have J_24 : ∀ (x24_0 : Int64), x24_0 = (if (gDd_price x) ≤ 0 then 0 else ((1000 * ((((gOd_sz (gTr_bu X)) k)).toInt64)) / (gDd_price x))) → zJ E 8 0 0 ([(WD cy d0 d1 x), (WT cy a X)] : List va_W).flatten 43 [(4, .long ((((gOd_sz (gTr_bu X)) k)).toInt64)), (0, .ref d0), (1, .ref (a 0)), (2, .int (nI due)), (3, .int (nI k))] [.long x24_0] := by
          intro x24_0 hx24_0
          refine zj_lstore C (L' := [(6, .long x24_0), (4, .long ((((gOd_sz (gTr_bu X)) k)).toInt64)), (0, .ref d0), (1, .ref (a 0)), (2, .int (nI due)), (3, .int (nI k))]) dX0_doBuyers_43 (by decide) rfl ?_
          refine zj_lload C dX0_doBuyers_45 0 rfl ?_
          refine zj_lconst C (v := 0) dX0_doBuyers_47 (by decide) ?_
          have J_48 : ∀ (x48_0 : zTr), x48_0 = (if x24_0 = 0 then (sTr_la X (sLd_back (gTr_la X) ((gLd_back (gTr_la X)) + ((((gOd_sz (gTr_bu X)) k)).toInt64)))) else (if ((f_X6_units X) + x24_0) ≤ 1000000000 then (sTr_la (f_X6_makeUnits X ((gOd_ho (gTr_bu X) k).toNatClampNeg) x24_0 ((((gOd_sz (gTr_bu X)) k)).toInt64) (gDd_ui x)) (sLd_made (gTr_la (f_X6_makeUnits X ((gOd_ho (gTr_bu X) k).toNatClampNeg) x24_0 ((((gOd_sz (gTr_bu X)) k)).toInt64) (gDd_ui x))) ((gLd_made (gTr_la (f_X6_makeUnits X ((gOd_ho (gTr_bu X) k).toNatClampNeg) x24_0 ((((gOd_sz (gTr_bu X)) k)).toInt64) (gDd_ui x)))) + x24_0))) else (sTr_la X (sLd_back (gTr_la X) ((gLd_back (gTr_la X)) + ((((gOd_sz (gTr_bu X)) k)).toInt64)))))) → zJ E 8 0 0 ([(WD cy d0 d1 x), (WT cy a x48_0)] : List va_W).flatten 123 [(6, .long x24_0), (4, .long ((((gOd_sz (gTr_bu X)) k)).toInt64)), (0, .ref d0), (1, .ref (a 0)), (2, .int (nI due)), (3, .int (nI k))] [] := by
            intro x48_0 hx48_0
            refine zj_aload_n C dX0_doBuyers_123 3 rfl ?_
            refine zj_get C 2 6 8 (v := .ref (a 3)) inZ6 rfl rfl (by decide) tg_160 rfl dX0_doBuyers_124 ?_
            refine zj_get C 5 4 2 (v := .ref (a 5)) inZ4 rfl rfl (by decide) tg_81 rfl dX0_doBuyers_127 ?_
            refine zj_iload_n C dX0_doBuyers_130 5 rfl ?_
            refine zj_iconst C (v := (nI 0)) dX0_doBuyers_131 (by decide) ?_
            obtain ⟨F_132, hF_132⟩ : ∃ g, g = (upd (gOd_sz (gTr_bu x48_0)) k (nI 0)) := ⟨_, rfl⟩
            refine zj_iast C 7 (f := (gOd_sz (gTr_bu x48_0))) (ws' := ([(WD cy d0 d1 x), (WT cy a (sTr_bu x48_0 (sOd_sz (gTr_bu x48_0) F_132)))] : List va_W).flatten) k (nI_clamp (by omega)) (vp_in_nI (by omega) (by omega)) rfl dX0_doBuyers_132 (by rw [← hF_132]; rfl) ?_
            refine zj_iinc C (j := 5) (v := (nI (k + 1))) (L' := [(3, .int (nI (k + 1))), (6, .long x24_0), (4, .long ((((gOd_sz (gTr_bu X)) k)).toInt64)), (0, .ref d0), (1, .ref (a 0)), (2, .int (nI due))]) dX0_doBuyers_133 rfl (nI_1 _) (by decide) rfl ?_
            refine zj_goto C 2 dX0_doBuyers_136 (by decide) ?_
            refine zj_sub (L' := [(0, .ref d0), (1, .ref (a 0)), (2, .int (nI due)), (3, .int (nI (k + 1)))]) [3, 4, 5, 0] rfl ?_
            have hn_hk : (k + 1) ≤ 20 := (by omega)
            have hn_hX : gOd_n (gTr_bu (sTr_bu x48_0 (sOd_sz (gTr_bu x48_0) F_132))) = gOd_n (gTr_bu t) := (by show gOd_n (gTr_bu x48_0) = _; rw [hx48_0]; split <;> first | exact hX | (split <;> exact hX))
            have hn_hho : gOd_ho (gTr_bu (sTr_bu x48_0 (sOd_sz (gTr_bu x48_0) F_132))) = gOd_ho (gTr_bu t) := (by show gOd_ho (gTr_bu x48_0) = _; rw [hx48_0]; split <;> first | exact hho | (split <;> exact hho))
            have hn_mu : due - (k + 1) < fuel := (by omega)
            subst hF_132
            subst hx48_0
            subst hx24_0
            have e_2 : (L_X0_buy x due (fuel + 1) X k) = (L_X0_buy x due fuel (sTr_bu (if (if (gDd_price x) ≤ 0 then 0 else ((1000 * ((((gOd_sz (gTr_bu X)) k)).toInt64)) / (gDd_price x))) = 0 then (sTr_la X (sLd_back (gTr_la X) ((gLd_back (gTr_la X)) + ((((gOd_sz (gTr_bu X)) k)).toInt64)))) else (if ((f_X6_units X) + (if (gDd_price x) ≤ 0 then 0 else ((1000 * ((((gOd_sz (gTr_bu X)) k)).toInt64)) / (gDd_price x)))) ≤ 1000000000 then (sTr_la (f_X6_makeUnits X ((gOd_ho (gTr_bu X) k).toNatClampNeg) (if (gDd_price x) ≤ 0 then 0 else ((1000 * ((((gOd_sz (gTr_bu X)) k)).toInt64)) / (gDd_price x))) ((((gOd_sz (gTr_bu X)) k)).toInt64) (gDd_ui x)) (sLd_made (gTr_la (f_X6_makeUnits X ((gOd_ho (gTr_bu X) k).toNatClampNeg) (if (gDd_price x) ≤ 0 then 0 else ((1000 * ((((gOd_sz (gTr_bu X)) k)).toInt64)) / (gDd_price x))) ((((gOd_sz (gTr_bu X)) k)).toInt64) (gDd_ui x))) ((gLd_made (gTr_la (f_X6_makeUnits X ((gOd_ho (gTr_bu X) k).toNatClampNeg) (if (gDd_price x) ≤ 0 then 0 else ((1000 * ((((gOd_sz (gTr_bu X)) k)).toInt64)) / (gDd_price x))) ((((gOd_sz (gTr_bu X)) k)).toInt64) (gDd_ui x)))) + (if (gDd_price x) ≤ 0 then 0 else ((1000 * ((((gOd_sz (gTr_bu X)) k)).toInt64)) / (gDd_price x)))))) else (sTr_la X (sLd_back (gTr_la X) ((gLd_back (gTr_la X)) + ((((gOd_sz (gTr_bu X)) k)).toInt64)))))) (sOd_sz (gTr_bu (if (if (gDd_price x) ≤ 0 then 0 else ((1000 * ((((gOd_sz (gTr_bu X)) k)).toInt64)) / (gDd_price x))) = 0 then (sTr_la X (sLd_back (gTr_la X) ((gLd_back (gTr_la X)) + ((((gOd_sz (gTr_bu X)) k)).toInt64)))) else (if ((f_X6_units X) + (if (gDd_price x) ≤ 0 then 0 else ((1000 * ((((gOd_sz (gTr_bu X)) k)).toInt64)) / (gDd_price x)))) ≤ 1000000000 then (sTr_la (f_X6_makeUnits X ((gOd_ho (gTr_bu X) k).toNatClampNeg) (if (gDd_price x) ≤ 0 then 0 else ((1000 * ((((gOd_sz (gTr_bu X)) k)).toInt64)) / (gDd_price x))) ((((gOd_sz (gTr_bu X)) k)).toInt64) (gDd_ui x)) (sLd_made (gTr_la (f_X6_makeUnits X ((gOd_ho (gTr_bu X) k).toNatClampNeg) (if (gDd_price x) ≤ 0 then 0 else ((1000 * ((((gOd_sz (gTr_bu X)) k)).toInt64)) / (gDd_price x))) ((((gOd_sz (gTr_bu X)) k)).toInt64) (gDd_ui x))) ((gLd_made (gTr_la (f_X6_makeUnits X ((gOd_ho (gTr_bu X) k).toNatClampNeg) (if (gDd_price x) ≤ 0 then 0 else ((1000 * ((((gOd_sz (gTr_bu X)) k)).toInt64)) / (gDd_price x))) ((((gOd_sz (gTr_bu X)) k)).toInt64) (gDd_ui x)))) + (if (gDd_price x) ≤ 0 then 0 else ((1000 * ((((gOd_sz (gTr_bu X)) k)).toInt64)) / (gDd_price x)))))) else (sTr_la X (sLd_back (gTr_la X) ((gLd_back (gTr_la X)) + ((((gOd_sz (gTr_bu X)) k)).toInt64))))))) (upd (gOd_sz (gTr_bu (if (if (gDd_price x) ≤ 0 then 0 else ((1000 * ((((gOd_sz (gTr_bu X)) k)).toInt64)) / (gDd_price x))) = 0 then (sTr_la X (sLd_back (gTr_la X) ((gLd_back (gTr_la X)) + ((((gOd_sz (gTr_bu X)) k)).toInt64)))) else (if ((f_X6_units X) + (if (gDd_price x) ≤ 0 then 0 else ((1000 * ((((gOd_sz (gTr_bu X)) k)).toInt64)) / (gDd_price x)))) ≤ 1000000000 then (sTr_la (f_X6_makeUnits X ((gOd_ho (gTr_bu X) k).toNatClampNeg) (if (gDd_price x) ≤ 0 then 0 else ((1000 * ((((gOd_sz (gTr_bu X)) k)).toInt64)) / (gDd_price x))) ((((gOd_sz (gTr_bu X)) k)).toInt64) (gDd_ui x)) (sLd_made (gTr_la (f_X6_makeUnits X ((gOd_ho (gTr_bu X) k).toNatClampNeg) (if (gDd_price x) ≤ 0 then 0 else ((1000 * ((((gOd_sz (gTr_bu X)) k)).toInt64)) / (gDd_price x))) ((((gOd_sz (gTr_bu X)) k)).toInt64) (gDd_ui x))) ((gLd_made (gTr_la (f_X6_makeUnits X ((gOd_ho (gTr_bu X) k).toNatClampNeg) (if (gDd_price x) ≤ 0 then 0 else ((1000 * ((((gOd_sz (gTr_bu X)) k)).toInt64)) / (gDd_price x))) ((((gOd_sz (gTr_bu X)) k)).toInt64) (gDd_ui x)))) + (if (gDd_price x) ≤ 0 then 0 else ((1000 * ((((gOd_sz (gTr_bu X)) k)).toInt64)) / (gDd_price x)))))) else (sTr_la X (sLd_back (gTr_la X) ((gLd_back (gTr_la X)) + ((((gOd_sz (gTr_bu X)) k)).toInt64)))))))) k (nI 0)))) (k + 1)) := by refine (L_X0_buy_s x due fuel X k).trans ?_; refine (if_neg c_4).trans ?_; rfl
            rw [e_2] at K_2
            exact ih_2 (sTr_bu (if (if (gDd_price x) ≤ 0 then 0 else ((1000 * ((((gOd_sz (gTr_bu X)) k)).toInt64)) / (gDd_price x))) = 0 then (sTr_la X (sLd_back (gTr_la X) ((gLd_back (gTr_la X)) + ((((gOd_sz (gTr_bu X)) k)).toInt64)))) else (if ((f_X6_units X) + (if (gDd_price x) ≤ 0 then 0 else ((1000 * ((((gOd_sz (gTr_bu X)) k)).toInt64)) / (gDd_price x)))) ≤ 1000000000 then (sTr_la (f_X6_makeUnits X ((gOd_ho (gTr_bu X) k).toNatClampNeg) (if (gDd_price x) ≤ 0 then 0 else ((1000 * ((((gOd_sz (gTr_bu X)) k)).toInt64)) / (gDd_price x))) ((((gOd_sz (gTr_bu X)) k)).toInt64) (gDd_ui x)) (sLd_made (gTr_la (f_X6_makeUnits X ((gOd_ho (gTr_bu X) k).toNatClampNeg) (if (gDd_price x) ≤ 0 then 0 else ((1000 * ((((gOd_sz (gTr_bu X)) k)).toInt64)) / (gDd_price x))) ((((gOd_sz (gTr_bu X)) k)).toInt64) (gDd_ui x))) ((gLd_made (gTr_la (f_X6_makeUnits X ((gOd_ho (gTr_bu X) k).toNatClampNeg) (if (gDd_price x) ≤ 0 then 0 else ((1000 * ((((gOd_sz (gTr_bu X)) k)).toInt64)) / (gDd_price x))) ((((gOd_sz (gTr_bu X)) k)).toInt64) (gDd_ui x)))) + (if (gDd_price x) ≤ 0 then 0 else ((1000 * ((((gOd_sz (gTr_bu X)) k)).toInt64)) / (gDd_price x)))))) else (sTr_la X (sLd_back (gTr_la X) ((gLd_back (gTr_la X)) + ((((gOd_sz (gTr_bu X)) k)).toInt64)))))) (sOd_sz (gTr_bu (if (if (gDd_price x) ≤ 0 then 0 else ((1000 * ((((gOd_sz (gTr_bu X)) k)).toInt64)) / (gDd_price x))) = 0 then (sTr_la X (sLd_back (gTr_la X) ((gLd_back (gTr_la X)) + ((((gOd_sz (gTr_bu X)) k)).toInt64)))) else (if ((f_X6_units X) + (if (gDd_price x) ≤ 0 then 0 else ((1000 * ((((gOd_sz (gTr_bu X)) k)).toInt64)) / (gDd_price x)))) ≤ 1000000000 then (sTr_la (f_X6_makeUnits X ((gOd_ho (gTr_bu X) k).toNatClampNeg) (if (gDd_price x) ≤ 0 then 0 else ((1000 * ((((gOd_sz (gTr_bu X)) k)).toInt64)) / (gDd_price x))) ((((gOd_sz (gTr_bu X)) k)).toInt64) (gDd_ui x)) (sLd_made (gTr_la (f_X6_makeUnits X ((gOd_ho (gTr_bu X) k).toNatClampNeg) (if (gDd_price x) ≤ 0 then 0 else ((1000 * ((((gOd_sz (gTr_bu X)) k)).toInt64)) / (gDd_price x))) ((((gOd_sz (gTr_bu X)) k)).toInt64) (gDd_ui x))) ((gLd_made (gTr_la (f_X6_makeUnits X ((gOd_ho (gTr_bu X) k).toNatClampNeg) (if (gDd_price x) ≤ 0 then 0 else ((1000 * ((((gOd_sz (gTr_bu X)) k)).toInt64)) / (gDd_price x))) ((((gOd_sz (gTr_bu X)) k)).toInt64) (gDd_ui x)))) + (if (gDd_price x) ≤ 0 then 0 else ((1000 * ((((gOd_sz (gTr_bu X)) k)).toInt64)) / (gDd_price x)))))) else (sTr_la X (sLd_back (gTr_la X) ((gLd_back (gTr_la X)) + ((((gOd_sz (gTr_bu X)) k)).toInt64))))))) (upd (gOd_sz (gTr_bu (if (if (gDd_price x) ≤ 0 then 0 else ((1000 * ((((gOd_sz (gTr_bu X)) k)).toInt64)) / (gDd_price x))) = 0 then (sTr_la X (sLd_back (gTr_la X) ((gLd_back (gTr_la X)) + ((((gOd_sz (gTr_bu X)) k)).toInt64)))) else (if ((f_X6_units X) + (if (gDd_price x) ≤ 0 then 0 else ((1000 * ((((gOd_sz (gTr_bu X)) k)).toInt64)) / (gDd_price x)))) ≤ 1000000000 then (sTr_la (f_X6_makeUnits X ((gOd_ho (gTr_bu X) k).toNatClampNeg) (if (gDd_price x) ≤ 0 then 0 else ((1000 * ((((gOd_sz (gTr_bu X)) k)).toInt64)) / (gDd_price x))) ((((gOd_sz (gTr_bu X)) k)).toInt64) (gDd_ui x)) (sLd_made (gTr_la (f_X6_makeUnits X ((gOd_ho (gTr_bu X) k).toNatClampNeg) (if (gDd_price x) ≤ 0 then 0 else ((1000 * ((((gOd_sz (gTr_bu X)) k)).toInt64)) / (gDd_price x))) ((((gOd_sz (gTr_bu X)) k)).toInt64) (gDd_ui x))) ((gLd_made (gTr_la (f_X6_makeUnits X ((gOd_ho (gTr_bu X) k).toNatClampNeg) (if (gDd_price x) ≤ 0 then 0 else ((1000 * ((((gOd_sz (gTr_bu X)) k)).toInt64)) / (gDd_price x))) ((((gOd_sz (gTr_bu X)) k)).toInt64) (gDd_ui x)))) + (if (gDd_price x) ≤ 0 then 0 else ((1000 * ((((gOd_sz (gTr_bu X)) k)).toInt64)) / (gDd_price x)))))) else (sTr_la X (sLd_back (gTr_la X) ((gLd_back (gTr_la X)) + ((((gOd_sz (gTr_bu X)) k)).toInt64)))))))) k (nI 0)))) (k + 1) hn_hk hn_hX hn_hho hn_mu K_2
          refine zj_lcmp_eq C 66 dX0_doBuyers_48 dX0_doBuyers_49 (by decide) (fun c => ?_) (fun c => ?_)
          · have c_48 : x24_0 = 0 := c
            refine zj_aload_n C dX0_doBuyers_66 3 rfl ?_
            refine zj_get C 2 6 10 (v := .ref (a 11)) inZ6 rfl rfl (by decide) tg_166 rfl dX0_doBuyers_67 ?_
            refine zj_dup C dX0_doBuyers_70 rfl ?_
            refine zj_get C 13 3 5 (v := .long (gLd_back (gTr_la X))) inZ3 rfl rfl (by decide) tg_115 rfl dX0_doBuyers_71 ?_
            refine zj_lload C dX0_doBuyers_74 1 rfl ?_
            refine zj_ladd C dX0_doBuyers_76 ?_
            refine zj_toplg (fun V_77 hV_77 => ?_)
            refine zj_put C 13 3 5 (v := .long V_77) (ws' := ([(WD cy d0 d1 x), (WT cy a (sTr_la X (sLd_back (gTr_la X) V_77)))] : List va_W).flatten) tyX3 tyX3_ok nmX3 inZ3 rfl rfl (by decide) tg_115 rfl rfl rfl (Nat.le_of_ble_eq_true rfl) dX0_doBuyers_77 rfl ?_
            refine zj_goto C 123 dX0_doBuyers_80 (by decide) ?_
            subst hV_77
            exact J_48 (sTr_la X (sLd_back (gTr_la X) ((gLd_back (gTr_la X)) + ((((gOd_sz (gTr_bu X)) k)).toInt64)))) (by simp only [if_neg c_4, if_pos c_48]; first | done | assumption)
          · have c_48 : ¬ (x24_0 = 0) := c
            refine zj_aload_n C dX0_doBuyers_52 3 rfl ?_
            have M_53 := c_X6_units l D cy a  X 
            obtain ⟨R_53, hR_53⟩ : ∃ g : Int64, g = (f_X6_units X) := ⟨_, rfl⟩
            rw [← hR_53] at M_53
            refine zj_callVF1 C (nn := 18) (Bs' := ([(WD cy d0 d1 x), (WT cy a X)] : List va_W)) (st := []) (st1 := [.long R_53]) 1 0 6 (M_53) (zg_V tg_397 tg_439 tg_395 tg_396 tg_2) ⟨rfl, hdZ_X6_units⟩ ⟨rfl, rfl⟩ ⟨by decide, by decide⟩ rfl rfl rfl ⟨rfl, rfl⟩ rfl rfl (Nat.le_of_ble_eq_true rfl) dX0_doBuyers_53 rfl rfl ?_
            refine zj_lload C dX0_doBuyers_56 0 rfl ?_
            refine zj_ladd C dX0_doBuyers_58 ?_
            refine zj_ldc2 C dX0_doBuyers_59 tg_492 ?_
            have J_62 : ∀ (x62_0 : zTr), x62_0 = (if (R_53 + x24_0) ≤ 1000000000 then (sTr_la (f_X6_makeUnits X ((gOd_ho (gTr_bu X) k).toNatClampNeg) x24_0 ((((gOd_sz (gTr_bu X)) k)).toInt64) (gDd_ui x)) (sLd_made (gTr_la (f_X6_makeUnits X ((gOd_ho (gTr_bu X) k).toNatClampNeg) x24_0 ((((gOd_sz (gTr_bu X)) k)).toInt64) (gDd_ui x))) ((gLd_made (gTr_la (f_X6_makeUnits X ((gOd_ho (gTr_bu X) k).toNatClampNeg) x24_0 ((((gOd_sz (gTr_bu X)) k)).toInt64) (gDd_ui x)))) + x24_0))) else (sTr_la X (sLd_back (gTr_la X) ((gLd_back (gTr_la X)) + ((((gOd_sz (gTr_bu X)) k)).toInt64))))) → zJ E 8 0 0 ([(WD cy d0 d1 x), (WT cy a x62_0)] : List va_W).flatten 123 [(6, .long x24_0), (4, .long ((((gOd_sz (gTr_bu X)) k)).toInt64)), (0, .ref d0), (1, .ref (a 0)), (2, .int (nI due)), (3, .int (nI k))] [] := by
              intro x62_0 hx62_0
              subst hx62_0
              subst hR_53
              exact J_48 (if ((f_X6_units X) + x24_0) ≤ 1000000000 then (sTr_la (f_X6_makeUnits X ((gOd_ho (gTr_bu X) k).toNatClampNeg) x24_0 ((((gOd_sz (gTr_bu X)) k)).toInt64) (gDd_ui x)) (sLd_made (gTr_la (f_X6_makeUnits X ((gOd_ho (gTr_bu X) k).toNatClampNeg) x24_0 ((((gOd_sz (gTr_bu X)) k)).toInt64) (gDd_ui x))) ((gLd_made (gTr_la (f_X6_makeUnits X ((gOd_ho (gTr_bu X) k).toNatClampNeg) x24_0 ((((gOd_sz (gTr_bu X)) k)).toInt64) (gDd_ui x)))) + x24_0))) else (sTr_la X (sLd_back (gTr_la X) ((gLd_back (gTr_la X)) + ((((gOd_sz (gTr_bu X)) k)).toInt64))))) (by simp only [if_neg c_4, if_neg c_48]; first | done | assumption)
            refine zj_lcmp_le C 83 dX0_doBuyers_62 dX0_doBuyers_63 (by decide) (fun c => ?_) (fun c => ?_)
            · have c_62 : (R_53 + x24_0) ≤ 1000000000 := c
              refine zj_aload_n C dX0_doBuyers_83 3 rfl ?_
              refine zj_aload_n C dX0_doBuyers_84 3 rfl ?_
              refine zj_get C 2 6 7 (v := .ref (a 2)) inZ6 rfl rfl (by decide) tg_157 rfl dX0_doBuyers_85 ?_
              refine zj_aload_n C dX0_doBuyers_88 3 rfl ?_
              have q30 : vp_in (gOd_ho (gTr_bu X) k) 6 := by { rw [hho]; exact hv k (by omega) }
              refine zj_get C 2 6 8 (v := .ref (a 3)) inZ6 rfl rfl (by decide) tg_160 rfl dX0_doBuyers_89 ?_
              refine zj_get C 5 4 1 (v := .ref (a 4)) inZ4 rfl rfl (by decide) tg_78 rfl dX0_doBuyers_92 ?_
              refine zj_iload_n C dX0_doBuyers_95 5 rfl ?_
              refine zj_iald C 6 (f := (gOd_ho (gTr_bu X))) k (nI_clamp (by omega)) (vp_in_nI (by omega) (by omega)) rfl dX0_doBuyers_96 ?_
              refine zj_topi (nI ((gOd_ho (gTr_bu X) k).toNatClampNeg)) (xho_eq q30) ?_
              refine zj_aald C 4 4 (f := (fun k => some (a (12 + k)))) (b := (a (12 + ((gOd_ho (gTr_bu X) k).toNatClampNeg)))) ((gOd_ho (gTr_bu X) k).toNatClampNeg) (nI_clamp (by have q := xho_lt q30; omega)) (vp_in_nI (xho_lt q30) (by decide)) rfl rfl rfl dX0_doBuyers_97 ?_
              refine zj_lload C dX0_doBuyers_98 0 rfl ?_
              refine zj_lload C dX0_doBuyers_100 1 rfl ?_
              refine zj_aload_n C dX0_doBuyers_102 2 rfl ?_
              refine zj_get C 0 0 1 (v := .long (gDd_ui x)) inZ0 rfl rfl (by decide) tg_198 rfl dX0_doBuyers_103 ?_
              have M_106 := c_X6_makeUnits l D cy a ((gOd_ho (gTr_bu X) k).toNatClampNeg) x24_0 ((((gOd_sz (gTr_bu X)) k)).toInt64) (gDd_ui x) X (xho_lt q30)
              obtain ⟨T_106, hT_106⟩ : ∃ g : zTr, g = (f_X6_makeUnits X ((gOd_ho (gTr_bu X) k).toNatClampNeg) x24_0 ((((gOd_sz (gTr_bu X)) k)).toInt64) (gDd_ui x)) := ⟨_, rfl⟩
              rw [← hT_106] at M_106
              refine zj_callVF1 C (nn := 18) (Bs' := ([(WD cy d0 d1 x), (WT cy a T_106)] : List va_W)) (st := []) (st1 := []) 1 0 6 (M_106) (zg_V tg_496 tg_493 tg_494 tg_495 tg_2) ⟨rfl, hdZ_X6_makeUnits⟩ ⟨rfl, rfl⟩ ⟨by decide, by decide⟩ rfl rfl rfl ⟨rfl, rfl⟩ rfl rfl (Nat.le_of_ble_eq_true rfl) dX0_doBuyers_106 rfl rfl ?_
              refine zj_aload_n C dX0_doBuyers_109 3 rfl ?_
              refine zj_get C 2 6 10 (v := .ref (a 11)) inZ6 rfl rfl (by decide) tg_166 rfl dX0_doBuyers_110 ?_
              refine zj_dup C dX0_doBuyers_113 rfl ?_
              refine zj_get C 13 3 2 (v := .long (gLd_made (gTr_la T_106))) inZ3 rfl rfl (by decide) tg_106 rfl dX0_doBuyers_114 ?_
              refine zj_lload C dX0_doBuyers_117 0 rfl ?_
              refine zj_ladd C dX0_doBuyers_119 ?_
              refine zj_toplg (fun V_120 hV_120 => ?_)
              refine zj_put C 13 3 2 (v := .long V_120) (ws' := ([(WD cy d0 d1 x), (WT cy a (sTr_la T_106 (sLd_made (gTr_la T_106) V_120)))] : List va_W).flatten) tyX3 tyX3_ok nmX3 inZ3 rfl rfl (by decide) tg_106 rfl rfl rfl (Nat.le_of_ble_eq_true rfl) dX0_doBuyers_120 rfl ?_
              subst hV_120
              subst hT_106
              exact J_62 (sTr_la (f_X6_makeUnits X ((gOd_ho (gTr_bu X) k).toNatClampNeg) x24_0 ((((gOd_sz (gTr_bu X)) k)).toInt64) (gDd_ui x)) (sLd_made (gTr_la (f_X6_makeUnits X ((gOd_ho (gTr_bu X) k).toNatClampNeg) x24_0 ((((gOd_sz (gTr_bu X)) k)).toInt64) (gDd_ui x))) ((gLd_made (gTr_la (f_X6_makeUnits X ((gOd_ho (gTr_bu X) k).toNatClampNeg) x24_0 ((((gOd_sz (gTr_bu X)) k)).toInt64) (gDd_ui x)))) + x24_0))) (by simp only [if_neg c_4, if_neg c_48, if_pos c_62]; first | done | assumption)
            · have c_62 : ¬ ((R_53 + x24_0) ≤ 1000000000) := c
              refine zj_aload_n C dX0_doBuyers_66 3 rfl ?_
              refine zj_get C 2 6 10 (v := .ref (a 11)) inZ6 rfl rfl (by decide) tg_166 rfl dX0_doBuyers_67 ?_
              refine zj_dup C dX0_doBuyers_70 rfl ?_
              refine zj_get C 13 3 5 (v := .long (gLd_back (gTr_la X))) inZ3 rfl rfl (by decide) tg_115 rfl dX0_doBuyers_71 ?_
              refine zj_lload C dX0_doBuyers_74 1 rfl ?_
              refine zj_ladd C dX0_doBuyers_76 ?_
              refine zj_toplg (fun V_77 hV_77 => ?_)
              refine zj_put C 13 3 5 (v := .long V_77) (ws' := ([(WD cy d0 d1 x), (WT cy a (sTr_la X (sLd_back (gTr_la X) V_77)))] : List va_W).flatten) tyX3 tyX3_ok nmX3 inZ3 rfl rfl (by decide) tg_115 rfl rfl rfl (Nat.le_of_ble_eq_true rfl) dX0_doBuyers_77 rfl ?_
              refine zj_goto C 123 dX0_doBuyers_80 (by decide) ?_
              subst hV_77
              exact J_62 (sTr_la X (sLd_back (gTr_la X) ((gLd_back (gTr_la X)) + ((((gOd_sz (gTr_bu X)) k)).toInt64)))) (by simp only [if_neg c_4, if_neg c_48, if_neg c_62]; first | done | assumption)
        refine zj_lcmp_le C 42 dX0_doBuyers_24 dX0_doBuyers_25 (by decide) (fun c => ?_) (fun c => ?_)
        · have c_24 : (gDd_price x) ≤ 0 := c
          refine zj_lconst C (v := 0) dX0_doBuyers_42 (by decide) ?_
          exact J_24 0 (by simp only [if_neg c_4, if_pos c_24]; first | done | assumption)
        · have c_24 : ¬ ((gDd_price x) ≤ 0) := c
          refine zj_ldc2 C dX0_doBuyers_28 tg_448 ?_
          refine zj_lload C dX0_doBuyers_31 0 rfl ?_
          refine zj_lmul C dX0_doBuyers_33 ?_
          refine zj_aload_n C dX0_doBuyers_34 1 rfl ?_
          refine zj_get C 0 0 2 (v := .long (gDd_price x)) inZ0 rfl rfl (by decide) tg_199 rfl dX0_doBuyers_35 ?_
          refine zj_ldiv C dX0_doBuyers_38 (zne_le c_24) ?_
          refine zj_goto C 43 dX0_doBuyers_39 (by decide) ?_
          exact J_24 ((1000 * ((((gOd_sz (gTr_bu X)) k)).toInt64)) / (gDd_price x)) (by simp only [if_neg c_4, if_neg c_24]; first | done | assumption)
  have K_2 : ∀ (X1 : zTr) (k1 : Nat), X1 = ((L_X0_buy x due (due - 0 + 1) t 0).1) → k1 = ((L_X0_buy x due (due - 0 + 1) t 0).2) → (pX_e : gOd_n (gTr_bu X1) = gOd_n (gTr_bu t)) → zJ E 8 0 0 ([(WD cy d0 d1 x), (WT cy a X1)] : List va_W).flatten 139 [(1, .ref (a 0))] [] := by
    intro X1 k1 hX1 hk1 pX_e
    refine zj_aload_n C dX0_doBuyers_139 0 rfl ?_
    refine zj_get C 2 6 8 (v := .ref (a 3)) inZ6 rfl rfl (by decide) tg_160 rfl dX0_doBuyers_140 ?_
    have M_143 := c_X4_dropEmpty l D cy (a 3) (a 4) (a 5) (a 6)  (gTr_bu X1) (by rw [pX_e]; exact hn)
    obtain ⟨T_143, hT_143⟩ : ∃ g : zOd, g = (f_X4_dropEmpty (gTr_bu X1)) := ⟨_, rfl⟩
    rw [← hT_143] at M_143
    refine zj_callVP C (nn := 4) (w := (WT cy a X1)) (w' := (WT cy a (sTr_bu X1 T_143))) (Bs' := ([(WD cy d0 d1 x), (WT cy a (sTr_bu X1 T_143))] : List va_W)) (st := []) (st1 := []) 1 [3, 4, 5, 6] 3 4 (M_143) (zg_V tg_487 tg_484 tg_485 tg_486 tg_4) ⟨rfl, hdZ_X4_dropEmpty⟩ ⟨rfl, rfl⟩ ⟨by decide, by decide⟩ rfl rfl rfl rfl (by decide) ⟨rfl, rfl⟩ rfl rfl (Nat.le_of_ble_eq_true rfl) dX0_doBuyers_143 rfl rfl rfl ?_
    subst hT_143
    subst hk1
    subst hX1
    have e : f_X0_doBuyers x t due = (sTr_bu ((L_X0_buy x due (due - 0 + 1) t 0).1) (f_X4_dropEmpty (gTr_bu ((L_X0_buy x due (due - 0 + 1) t 0).1)))) := by rfl
    rw [e] at hret
    exact hret _ _ dX0_doBuyers_146
  refine zj_sub (L' := [(0, .ref d0), (1, .ref (a 0)), (2, .int (nI due)), (3, .int (nI 0))]) [1, 2, 3, 0] rfl ?_
  exact loop_2 (due - 0 + 1) t 0 (by omega) rfl rfl (Nat.lt_succ_self _) (K_2 _ _ rfl rfl)
