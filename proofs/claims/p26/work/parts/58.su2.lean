noncomputable def f_X7_ofHolder (t : zTr) (h : Int32) (wh : Int32) : Int32 :=
  let R_1 : Bool := (f_X7_isHolder h)
  if R_1 = false then
    (-1)
  else
    if wh < 0 then
      (-2)
    else
      if wh < (nI 9) then
        if wh = nI 0 then
          let R_81 : Int64 := (f_X2_units (gTr_hd t h.toNatClampNeg))
          ((R_81).toInt32)
        else
          if wh = nI 1 then
            (((gHd_old (gTr_hd t h.toNatClampNeg))).toInt32)
          else
            if wh = nI 2 then
              (((gHd_new (gTr_hd t h.toNatClampNeg))).toInt32)
            else
              if wh = nI 3 then
                let R_106 : Int64 := (f_X4_sumOf (gTr_le t) h)
                ((R_106).toInt32)
              else
                if wh = nI 4 then
                  (((gHd_bought (gTr_hd t h.toNatClampNeg))).toInt32)
                else
                  if wh = nI 5 then
                    (((gHd_paid (gTr_hd t h.toNatClampNeg))).toInt32)
                  else
                    if wh = nI 6 then
                      (((gHd_inc (gTr_hd t h.toNatClampNeg))).toInt32)
                    else
                      if wh = nI 7 then
                        (((gHd_eve (gTr_hd t h.toNatClampNeg))).toInt32)
                      else
                        (((gHd_lots (gTr_hd t h.toNatClampNeg))).toInt32)
      else
        (-2)
set_option maxHeartbeats 4000000 in
set_option maxRecDepth 100000 in
theorem c_X7_ofHolder (l : Launch) (D : va_G) (cy : Nat → ClassId) (x0 x1 x2 d0 d1 p0 p1 h0 h1 : Nat) (a b : Nat → Nat) (hs sl : Nat → Nat → Nat) (h : Int32) (wh : Int32) (t : zTr) (hl : gOd_n (gTr_le t) ≤ 20) : zC l yX7_ofHolder (zW yX7_ofHolder cX7_ofHolder 4 (Option.some Jvm.ClassFile.FieldType.int)) { frames := 1, cells := 0, slots := 0, locals := 24 } D cy [.ref x0, .int h, .int wh] ([(WX0 x0 x1 x2 a b d0 p0 h0), (WT cy a t)] : List va_W).flatten (some (.int (f_X7_ofHolder t h wh))) ([(WX0 x0 x1 x2 a b d0 p0 h0), (WT cy a t)] : List va_W).flatten := by
  refine zC_of rfl (Nat.le_of_ble_eq_true rfl) (zOk_i _) (fun E C hret => ?_)
  show zJ E 4 0 0 ([(WX0 x0 x1 x2 a b d0 p0 h0), (WT cy a t)] : List va_W).flatten 0 [(0, .ref x0), (1, .int h), (2, .int wh)] []
  refine zj_iload_n C dX7_ofHolder_0 1 rfl ?_
  have M_1 := c_X7_isHolder l D cy  h  
  obtain ⟨R_1, hR_1⟩ : ∃ g : Bool, g = (f_X7_isHolder h) := ⟨_, rfl⟩
  rw [← hR_1] at M_1
  refine zj_callS C (nn := 0) (ws' := ([(WX0 x0 x1 x2 a b d0 p0 h0), (WT cy a t)] : List va_W).flatten) (st := []) (st1 := [.int (zB R_1)]) [] (M_1) tg_348 tg_533 tg_347 tg_1 hdZ_X7_isHolder ⟨rfl, rfl⟩ ⟨by decide, by decide⟩ rfl (by decide) ⟨rfl, rfl⟩ rfl rfl (Nat.le_of_ble_eq_true rfl) dX7_ofHolder_1 rfl rfl ?_
  refine zj_if_ne C 9 dX7_ofHolder_4 (by decide) (fun c => ?_) (fun c => ?_)
  · have c_4 : ¬ (R_1 = false) := (zB_neq c)
    refine zj_iload_n C dX7_ofHolder_9 2 rfl ?_
    refine zj_if_lt C 19 dX7_ofHolder_10 (by decide) (fun c => ?_) (fun c => ?_)
    · have c_10 : wh < 0 := c
      refine zj_bipush C (v := (-2)) dX7_ofHolder_19 (by decide) ?_
      subst hR_1
      have e : f_X7_ofHolder t h wh = (-2) := by refine (if_neg c_4).trans ?_; refine (if_pos c_10).trans ?_; rfl
      rw [e] at hret
      exact hret _ _ dX7_ofHolder_21
    · have c_10 : ¬ (wh < 0) := c
      refine zj_iload_n C dX7_ofHolder_13 2 rfl ?_
      refine zj_bipush C (v := (nI 9)) dX7_ofHolder_14 (by decide) ?_
      refine zj_icmp_lt C 22 dX7_ofHolder_16 (by decide) (fun c => ?_) (fun c => ?_)
      · have c_16 : wh < (nI 9) := c
        refine zj_aload_n C dX7_ofHolder_22 0 rfl ?_
        refine zj_get C 0 7 0 (v := .ref (a 0)) inZ7 rfl rfl (by decide) tg_277 rfl dX7_ofHolder_23 ?_
        refine zj_get C 1 6 7 (v := .ref (a 2)) inZ6 rfl rfl (by decide) tg_158 rfl dX7_ofHolder_26 ?_
        refine zj_iload_n C dX7_ofHolder_29 1 rfl ?_
        refine zj_topi (nI h.toNatClampNeg) (xh_eq' hR_1 c_4) ?_
        refine zj_aald C 3 4 (f := (fun k => some (a (12 + k)))) (b := (a (12 + h.toNatClampNeg))) h.toNatClampNeg (nI_clamp (by have q := xh_lt' hR_1 c_4; omega)) (vp_in_nI (xh_lt' hR_1 c_4) (by decide)) rfl rfl rfl dX7_ofHolder_30 ?_
        refine zj_astore_n C (L' := [(3, .ref (a (12 + h.toNatClampNeg))), (0, .ref x0), (1, .int h), (2, .int wh)]) dX7_ofHolder_31 rfl (by decide) rfl ?_
        refine zj_iload_n C dX7_ofHolder_32 3 rfl ?_
        by_cases c_33_0 : wh = nI 0
        · refine zj_topi (nI 0) c_33_0 ?_
          refine zj_tin C (off := 47) 80 dX7_ofHolder_33 (by decide) (by decide) rfl (by decide) ?_
          refine zj_aload_n C dX7_ofHolder_80 0 rfl ?_
          have M_81 := c_X2_units l D cy (a (12 + h.toNatClampNeg))  (gTr_hd t h.toNatClampNeg) 
          obtain ⟨R_81, hR_81⟩ : ∃ g : Int64, g = (f_X2_units (gTr_hd t h.toNatClampNeg)) := ⟨_, rfl⟩
          rw [← hR_81] at M_81
          refine zj_callV C (nn := 1) (ws' := ([(WX0 x0 x1 x2 a b d0 p0 h0), (WT cy a t)] : List va_W).flatten) (st := []) (st1 := [.long R_81]) (1 + (12 + h.toNatClampNeg)) 2 [(1 + (12 + h.toNatClampNeg))] (M_81) (zg_V tg_381 tg_534 tg_379 tg_380 tg_3) ⟨rfl, hdZ_X2_units⟩ ⟨rfl, rfl⟩ ⟨by decide, by decide⟩ (WXT_h (h := h.toNatClampNeg) (xh_lt' hR_1 c_4)) rfl (WXT_hC (h := h.toNatClampNeg) (xh_lt' hR_1 c_4)) rfl ⟨rfl, rfl⟩ rfl rfl (Nat.le_of_ble_eq_true rfl) dX7_ofHolder_81 (WXT_set (h := h.toNatClampNeg) (xh_lt' hR_1 c_4)) rfl ?_
          refine zj_l2i C dX7_ofHolder_84 ?_
          subst hR_81
          subst hR_1
          have e : f_X7_ofHolder t h wh = (((f_X2_units (gTr_hd t h.toNatClampNeg))).toInt32) := by refine (if_neg c_4).trans ?_; refine (if_neg c_10).trans ?_; refine (if_pos c_16).trans ?_; refine (if_pos c_33_0).trans ?_; rfl
          rw [e] at hret
          exact hret _ _ dX7_ofHolder_85
        · skip
          by_cases c_33_1 : wh = nI 1
          · refine zj_topi (nI 1) c_33_1 ?_
            refine zj_tin C (off := 53) 86 dX7_ofHolder_33 (by decide) (by decide) rfl (by decide) ?_
            refine zj_aload_n C dX7_ofHolder_86 0 rfl ?_
            refine zj_get C (1 + (12 + h.toNatClampNeg)) 2 0 (v := .long (gHd_old (gTr_hd t h.toNatClampNeg))) inZ2 (WXT_h (h := h.toNatClampNeg) (xh_lt' hR_1 c_4)) rfl (by decide) tg_33 rfl dX7_ofHolder_87 ?_
            refine zj_l2i C dX7_ofHolder_90 ?_
            subst hR_1
            have e : f_X7_ofHolder t h wh = (((gHd_old (gTr_hd t h.toNatClampNeg))).toInt32) := by refine (if_neg c_4).trans ?_; refine (if_neg c_10).trans ?_; refine (if_pos c_16).trans ?_; refine (if_neg c_33_0).trans ?_; refine (if_pos c_33_1).trans ?_; rfl
            rw [e] at hret
            exact hret _ _ dX7_ofHolder_91
          · skip
            by_cases c_33_2 : wh = nI 2
            · refine zj_topi (nI 2) c_33_2 ?_
              refine zj_tin C (off := 59) 92 dX7_ofHolder_33 (by decide) (by decide) rfl (by decide) ?_
              refine zj_aload_n C dX7_ofHolder_92 0 rfl ?_
              refine zj_get C (1 + (12 + h.toNatClampNeg)) 2 1 (v := .long (gHd_new (gTr_hd t h.toNatClampNeg))) inZ2 (WXT_h (h := h.toNatClampNeg) (xh_lt' hR_1 c_4)) rfl (by decide) tg_37 rfl dX7_ofHolder_93 ?_
              refine zj_l2i C dX7_ofHolder_96 ?_
              subst hR_1
              have e : f_X7_ofHolder t h wh = (((gHd_new (gTr_hd t h.toNatClampNeg))).toInt32) := by refine (if_neg c_4).trans ?_; refine (if_neg c_10).trans ?_; refine (if_pos c_16).trans ?_; refine (if_neg c_33_0).trans ?_; refine (if_neg c_33_1).trans ?_; refine (if_pos c_33_2).trans ?_; rfl
              rw [e] at hret
              exact hret _ _ dX7_ofHolder_97
            · skip
              by_cases c_33_3 : wh = nI 3
              · refine zj_topi (nI 3) c_33_3 ?_
                refine zj_tin C (off := 65) 98 dX7_ofHolder_33 (by decide) (by decide) rfl (by decide) ?_
                refine zj_aload_n C dX7_ofHolder_98 1 rfl ?_
                refine zj_get C 0 7 0 (v := .ref (a 0)) inZ7 rfl rfl (by decide) tg_277 rfl dX7_ofHolder_99 ?_
                refine zj_get C 1 6 9 (v := .ref (a 7)) inZ6 rfl rfl (by decide) tg_164 rfl dX7_ofHolder_102 ?_
                refine zj_iload_n C dX7_ofHolder_105 2 rfl ?_
                have M_106 := c_X4_sumOf l D cy (a 7) (a 8) (a 9) (a 10) h (gTr_le t) hl
                obtain ⟨R_106, hR_106⟩ : ∃ g : Int64, g = (f_X4_sumOf (gTr_le t) h) := ⟨_, rfl⟩
                rw [← hR_106] at M_106
                refine zj_callVP C (nn := 4) (w := (WT cy a t)) (w' := (WT cy a t)) (Bs' := ([(WX0 x0 x1 x2 a b d0 p0 h0), (WT cy a t)] : List va_W)) (st := []) (st1 := [.long R_106]) 1 [7, 8, 9, 10] 7 4 (M_106) (zg_V tg_385 tg_535 tg_383 tg_384 tg_4) ⟨rfl, hdZ_X4_sumOf⟩ ⟨rfl, rfl⟩ ⟨by decide, by decide⟩ rfl rfl rfl rfl (by decide) ⟨rfl, rfl⟩ rfl rfl (Nat.le_of_ble_eq_true rfl) dX7_ofHolder_106 rfl rfl rfl ?_
                refine zj_l2i C dX7_ofHolder_109 ?_
                subst hR_106
                subst hR_1
                have e : f_X7_ofHolder t h wh = (((f_X4_sumOf (gTr_le t) h)).toInt32) := by refine (if_neg c_4).trans ?_; refine (if_neg c_10).trans ?_; refine (if_pos c_16).trans ?_; refine (if_neg c_33_0).trans ?_; refine (if_neg c_33_1).trans ?_; refine (if_neg c_33_2).trans ?_; refine (if_pos c_33_3).trans ?_; rfl
                rw [e] at hret
                exact hret _ _ dX7_ofHolder_110
              · skip
                by_cases c_33_4 : wh = nI 4
                · refine zj_topi (nI 4) c_33_4 ?_
                  refine zj_tin C (off := 78) 111 dX7_ofHolder_33 (by decide) (by decide) rfl (by decide) ?_
                  refine zj_aload_n C dX7_ofHolder_111 0 rfl ?_
                  refine zj_get C (1 + (12 + h.toNatClampNeg)) 2 2 (v := .long (gHd_bought (gTr_hd t h.toNatClampNeg))) inZ2 (WXT_h (h := h.toNatClampNeg) (xh_lt' hR_1 c_4)) rfl (by decide) tg_39 rfl dX7_ofHolder_112 ?_
                  refine zj_l2i C dX7_ofHolder_115 ?_
                  subst hR_1
                  have e : f_X7_ofHolder t h wh = (((gHd_bought (gTr_hd t h.toNatClampNeg))).toInt32) := by refine (if_neg c_4).trans ?_; refine (if_neg c_10).trans ?_; refine (if_pos c_16).trans ?_; refine (if_neg c_33_0).trans ?_; refine (if_neg c_33_1).trans ?_; refine (if_neg c_33_2).trans ?_; refine (if_neg c_33_3).trans ?_; refine (if_pos c_33_4).trans ?_; rfl
                  rw [e] at hret
                  exact hret _ _ dX7_ofHolder_116
                · skip
                  by_cases c_33_5 : wh = nI 5
                  · refine zj_topi (nI 5) c_33_5 ?_
                    refine zj_tin C (off := 84) 117 dX7_ofHolder_33 (by decide) (by decide) rfl (by decide) ?_
                    refine zj_aload_n C dX7_ofHolder_117 0 rfl ?_
                    refine zj_get C (1 + (12 + h.toNatClampNeg)) 2 3 (v := .long (gHd_paid (gTr_hd t h.toNatClampNeg))) inZ2 (WXT_h (h := h.toNatClampNeg) (xh_lt' hR_1 c_4)) rfl (by decide) tg_42 rfl dX7_ofHolder_118 ?_
                    refine zj_l2i C dX7_ofHolder_121 ?_
                    subst hR_1
                    have e : f_X7_ofHolder t h wh = (((gHd_paid (gTr_hd t h.toNatClampNeg))).toInt32) := by refine (if_neg c_4).trans ?_; refine (if_neg c_10).trans ?_; refine (if_pos c_16).trans ?_; refine (if_neg c_33_0).trans ?_; refine (if_neg c_33_1).trans ?_; refine (if_neg c_33_2).trans ?_; refine (if_neg c_33_3).trans ?_; refine (if_neg c_33_4).trans ?_; refine (if_pos c_33_5).trans ?_; rfl
                    rw [e] at hret
                    exact hret _ _ dX7_ofHolder_122
                  · skip
                    by_cases c_33_6 : wh = nI 6
                    · refine zj_topi (nI 6) c_33_6 ?_
                      refine zj_tin C (off := 90) 123 dX7_ofHolder_33 (by decide) (by decide) rfl (by decide) ?_
                      refine zj_aload_n C dX7_ofHolder_123 0 rfl ?_
                      refine zj_get C (1 + (12 + h.toNatClampNeg)) 2 4 (v := .long (gHd_inc (gTr_hd t h.toNatClampNeg))) inZ2 (WXT_h (h := h.toNatClampNeg) (xh_lt' hR_1 c_4)) rfl (by decide) tg_45 rfl dX7_ofHolder_124 ?_
                      refine zj_l2i C dX7_ofHolder_127 ?_
                      subst hR_1
                      have e : f_X7_ofHolder t h wh = (((gHd_inc (gTr_hd t h.toNatClampNeg))).toInt32) := by refine (if_neg c_4).trans ?_; refine (if_neg c_10).trans ?_; refine (if_pos c_16).trans ?_; refine (if_neg c_33_0).trans ?_; refine (if_neg c_33_1).trans ?_; refine (if_neg c_33_2).trans ?_; refine (if_neg c_33_3).trans ?_; refine (if_neg c_33_4).trans ?_; refine (if_neg c_33_5).trans ?_; refine (if_pos c_33_6).trans ?_; rfl
                      rw [e] at hret
                      exact hret _ _ dX7_ofHolder_128
                    · skip
                      by_cases c_33_7 : wh = nI 7
                      · refine zj_topi (nI 7) c_33_7 ?_
                        refine zj_tin C (off := 96) 129 dX7_ofHolder_33 (by decide) (by decide) rfl (by decide) ?_
                        refine zj_aload_n C dX7_ofHolder_129 0 rfl ?_
                        refine zj_get C (1 + (12 + h.toNatClampNeg)) 2 5 (v := .long (gHd_eve (gTr_hd t h.toNatClampNeg))) inZ2 (WXT_h (h := h.toNatClampNeg) (xh_lt' hR_1 c_4)) rfl (by decide) tg_48 rfl dX7_ofHolder_130 ?_
                        refine zj_l2i C dX7_ofHolder_133 ?_
                        subst hR_1
                        have e : f_X7_ofHolder t h wh = (((gHd_eve (gTr_hd t h.toNatClampNeg))).toInt32) := by refine (if_neg c_4).trans ?_; refine (if_neg c_10).trans ?_; refine (if_pos c_16).trans ?_; refine (if_neg c_33_0).trans ?_; refine (if_neg c_33_1).trans ?_; refine (if_neg c_33_2).trans ?_; refine (if_neg c_33_3).trans ?_; refine (if_neg c_33_4).trans ?_; refine (if_neg c_33_5).trans ?_; refine (if_neg c_33_6).trans ?_; refine (if_pos c_33_7).trans ?_; rfl
                        rw [e] at hret
                        exact hret _ _ dX7_ofHolder_134
                      · skip
                        refine zj_tout C 135 dX7_ofHolder_33 (zsw_out (x := wh) (n := 7) (by decide) (fun k hk => by rcases (show k = 0 ∨ k = 1 ∨ k = 2 ∨ k = 3 ∨ k = 4 ∨ k = 5 ∨ k = 6 ∨ k = 7 by omega) with rfl | rfl | rfl | rfl | rfl | rfl | rfl | rfl <;> assumption)) (by decide) ?_
                        refine zj_aload_n C dX7_ofHolder_135 0 rfl ?_
                        refine zj_get C (1 + (12 + h.toNatClampNeg)) 2 6 (v := .long (gHd_lots (gTr_hd t h.toNatClampNeg))) inZ2 (WXT_h (h := h.toNatClampNeg) (xh_lt' hR_1 c_4)) rfl (by decide) tg_51 rfl dX7_ofHolder_136 ?_
                        refine zj_l2i C dX7_ofHolder_139 ?_
                        subst hR_1
                        have e : f_X7_ofHolder t h wh = (((gHd_lots (gTr_hd t h.toNatClampNeg))).toInt32) := by refine (if_neg c_4).trans ?_; refine (if_neg c_10).trans ?_; refine (if_pos c_16).trans ?_; refine (if_neg c_33_0).trans ?_; refine (if_neg c_33_1).trans ?_; refine (if_neg c_33_2).trans ?_; refine (if_neg c_33_3).trans ?_; refine (if_neg c_33_4).trans ?_; refine (if_neg c_33_5).trans ?_; refine (if_neg c_33_6).trans ?_; refine (if_neg c_33_7).trans ?_; rfl
                        rw [e] at hret
                        exact hret _ _ dX7_ofHolder_140
      · have c_16 : ¬ (wh < (nI 9)) := c
        refine zj_bipush C (v := (-2)) dX7_ofHolder_19 (by decide) ?_
        subst hR_1
        have e : f_X7_ofHolder t h wh = (-2) := by refine (if_neg c_4).trans ?_; refine (if_neg c_10).trans ?_; refine (if_neg c_16).trans ?_; rfl
        rw [e] at hret
        exact hret _ _ dX7_ofHolder_21
  · have c_4 : R_1 = false := (zB_eq (Classical.not_not.mp c))
    refine zj_iconst C (v := (-1)) dX7_ofHolder_7 (by decide) ?_
    subst hR_1
    have e : f_X7_ofHolder t h wh = (-1) := by refine (if_pos c_4).trans ?_; rfl
    rw [e] at hret
    exact hret _ _ dX7_ofHolder_8

noncomputable def f_X7_order (t : zTr) (kd : Int32) (o : Int32) (wh : Int32) : Int32 :=
  if kd < 0 then
    (-2)
  else
    if (nI 1) < kd then
      (-2)
    else
      if wh < 0 then
        (-2)
      else
        if wh < (nI 3) then
          if kd = 0 then
            if o < 0 then
              (-1)
            else
              if o < (nI (gOd_n (gTr_bu t))) then
                if wh = nI 0 then
                  ((gOd_ho (gTr_bu t)) o.toNatClampNeg)
                else
                  if wh = nI 1 then
                    ((gOd_sz (gTr_bu t)) o.toNatClampNeg)
                  else
                    ((gOd_dy (gTr_bu t)) o.toNatClampNeg)
              else
                (-1)
          else
            if o < 0 then
              (-1)
            else
              if o < (nI (gOd_n (gTr_le t))) then
                if wh = nI 0 then
                  ((gOd_ho (gTr_le t)) o.toNatClampNeg)
                else
                  if wh = nI 1 then
                    ((gOd_sz (gTr_le t)) o.toNatClampNeg)
                  else
                    ((gOd_dy (gTr_le t)) o.toNatClampNeg)
              else
                (-1)
        else
          (-2)
set_option maxHeartbeats 4000000 in
set_option maxRecDepth 100000 in
theorem c_X7_order (l : Launch) (D : va_G) (cy : Nat → ClassId) (x0 x1 x2 d0 d1 p0 p1 h0 h1 : Nat) (a b : Nat → Nat) (hs sl : Nat → Nat → Nat) (kd : Int32) (o : Int32) (wh : Int32) (t : zTr) (hb : gOd_n (gTr_bu t) ≤ 20) (hl : gOd_n (gTr_le t) ≤ 20) : zC l yX7_order (zW yX7_order cX7_order 5 (Option.some Jvm.ClassFile.FieldType.int)) { frames := 0, cells := 0, slots := 0, locals := 0 } D cy [.ref x0, .int kd, .int o, .int wh] ([(WX0 x0 x1 x2 a b d0 p0 h0), (WT cy a t)] : List va_W).flatten (some (.int (f_X7_order t kd o wh))) ([(WX0 x0 x1 x2 a b d0 p0 h0), (WT cy a t)] : List va_W).flatten := by
  refine zC_of rfl (Nat.le_of_ble_eq_true rfl) (zOk_i _) (fun E C hret => ?_)
  show zJ E 5 0 0 ([(WX0 x0 x1 x2 a b d0 p0 h0), (WT cy a t)] : List va_W).flatten 0 [(0, .ref x0), (1, .int kd), (2, .int o), (3, .int wh)] []
  refine zj_iload_n C dX7_order_0 1 rfl ?_
  refine zj_if_lt C 18 dX7_order_1 (by decide) (fun c => ?_) (fun c => ?_)
  · have c_1 : kd < 0 := c
    refine zj_bipush C (v := (-2)) dX7_order_18 (by decide) ?_
    have e : f_X7_order t kd o wh = (-2) := by refine (if_pos c_1).trans ?_; rfl
    rw [e] at hret
    exact hret _ _ dX7_order_20
  · have c_1 : ¬ (kd < 0) := c
    refine zj_iload_n C dX7_order_4 1 rfl ?_
    refine zj_iconst C (v := (nI 1)) dX7_order_5 (by decide) ?_
    refine zj_icmp_gt C 18 dX7_order_6 (by decide) (fun c => ?_) (fun c => ?_)
    · have c_6 : (nI 1) < kd := c
      refine zj_bipush C (v := (-2)) dX7_order_18 (by decide) ?_
      have e : f_X7_order t kd o wh = (-2) := by refine (if_neg c_1).trans ?_; refine (if_pos c_6).trans ?_; rfl
      rw [e] at hret
      exact hret _ _ dX7_order_20
    · have c_6 : ¬ ((nI 1) < kd) := c
      refine zj_iload_n C dX7_order_9 3 rfl ?_
      refine zj_if_lt C 18 dX7_order_10 (by decide) (fun c => ?_) (fun c => ?_)
      · have c_10 : wh < 0 := c
        refine zj_bipush C (v := (-2)) dX7_order_18 (by decide) ?_
        have e : f_X7_order t kd o wh = (-2) := by refine (if_neg c_1).trans ?_; refine (if_neg c_6).trans ?_; refine (if_pos c_10).trans ?_; rfl
        rw [e] at hret
        exact hret _ _ dX7_order_20
      · have c_10 : ¬ (wh < 0) := c
        refine zj_iload_n C dX7_order_13 3 rfl ?_
        refine zj_iconst C (v := (nI 3)) dX7_order_14 (by decide) ?_
        refine zj_icmp_lt C 21 dX7_order_15 (by decide) (fun c => ?_) (fun c => ?_)
        · have c_15 : wh < (nI 3) := c
          refine zj_iload_n C dX7_order_21 1 rfl ?_
          refine zj_if_ne C 35 dX7_order_22 (by decide) (fun c => ?_) (fun c => ?_)
          · have c_22 : ¬ (kd = 0) := c
            refine zj_aload_n C dX7_order_35 0 rfl ?_
            refine zj_get C 0 7 0 (v := .ref (a 0)) inZ7 rfl rfl (by decide) tg_277 rfl dX7_order_36 ?_
            refine zj_get C 1 6 9 (v := .ref (a 7)) inZ6 rfl rfl (by decide) tg_164 rfl dX7_order_39 ?_
            refine zj_astore C (L' := [(4, .ref (a 7)), (0, .ref x0), (1, .int kd), (2, .int o), (3, .int wh)]) dX7_order_42 (by decide) rfl ?_
            refine zj_iload_n C dX7_order_44 3 rfl ?_
            refine zj_if_lt C 57 dX7_order_45 (by decide) (fun c => ?_) (fun c => ?_)
            · have c_45 : o < 0 := c
              refine zj_iconst C (v := (-1)) dX7_order_57 (by decide) ?_
              have e : f_X7_order t kd o wh = (-1) := by refine (if_neg c_1).trans ?_; refine (if_neg c_6).trans ?_; refine (if_neg c_10).trans ?_; refine (if_pos c_15).trans ?_; refine (if_neg c_22).trans ?_; refine (if_pos c_45).trans ?_; rfl
              rw [e] at hret
              exact hret _ _ dX7_order_58
            · have c_45 : ¬ (o < 0) := c
              refine zj_iload_n C dX7_order_48 3 rfl ?_
              refine zj_aload C dX7_order_49 0 rfl ?_
              refine zj_get C 8 4 0 (v := .int (nI (gOd_n (gTr_le t)))) inZ4 rfl rfl (by decide) tg_76 rfl dX7_order_51 ?_
              refine zj_icmp_lt C 59 dX7_order_54 (by decide) (fun c => ?_) (fun c => ?_)
              · have c_54 : o < (nI (gOd_n (gTr_le t))) := c
                refine zj_iload_n C dX7_order_59 4 rfl ?_
                by_cases c_60_0 : wh = nI 0
                · refine zj_topi (nI 0) c_60_0 ?_
                  refine zj_look C (off := 28) 88 dX7_order_60 (by decide) (by decide) (by decide) ?_
                  refine zj_aload C dX7_order_88 0 rfl ?_
                  refine zj_get C 8 4 1 (v := .ref (a 8)) inZ4 rfl rfl (by decide) tg_79 rfl dX7_order_90 ?_
                  refine zj_iload_n C dX7_order_93 3 rfl ?_
                  refine zj_iald C 9 (f := (gOd_ho (gTr_le t))) o.toNatClampNeg rfl (xidx c_45 c_54 (by first | exact hb | exact hl) (by decide)) rfl dX7_order_94 ?_
                  have e : f_X7_order t kd o wh = ((gOd_ho (gTr_le t)) o.toNatClampNeg) := by refine (if_neg c_1).trans ?_; refine (if_neg c_6).trans ?_; refine (if_neg c_10).trans ?_; refine (if_pos c_15).trans ?_; refine (if_neg c_22).trans ?_; refine (if_neg c_45).trans ?_; refine (if_pos c_54).trans ?_; refine (if_pos c_60_0).trans ?_; rfl
                  rw [e] at hret
                  exact hret _ _ dX7_order_95
                · skip
                  by_cases c_60_1 : wh = nI 1
                  · refine zj_topi (nI 1) c_60_1 ?_
                    refine zj_look C (off := 36) 96 dX7_order_60 (by decide) (by decide) (by decide) ?_
                    refine zj_aload C dX7_order_96 0 rfl ?_
                    refine zj_get C 8 4 2 (v := .ref (a 9)) inZ4 rfl rfl (by decide) tg_82 rfl dX7_order_98 ?_
                    refine zj_iload_n C dX7_order_101 3 rfl ?_
                    refine zj_iald C 10 (f := (gOd_sz (gTr_le t))) o.toNatClampNeg rfl (xidx c_45 c_54 (by first | exact hb | exact hl) (by decide)) rfl dX7_order_102 ?_
                    have e : f_X7_order t kd o wh = ((gOd_sz (gTr_le t)) o.toNatClampNeg) := by refine (if_neg c_1).trans ?_; refine (if_neg c_6).trans ?_; refine (if_neg c_10).trans ?_; refine (if_pos c_15).trans ?_; refine (if_neg c_22).trans ?_; refine (if_neg c_45).trans ?_; refine (if_pos c_54).trans ?_; refine (if_neg c_60_0).trans ?_; refine (if_pos c_60_1).trans ?_; rfl
                    rw [e] at hret
                    exact hret _ _ dX7_order_103
                  · skip
                    refine zj_look C (off := 44) 104 dX7_order_60 (by decide) (by show Op.lookupswitch.offset [(0, 28), (1, 36)] 44 _ = _; rw [lv_osw (a := 0) c_60_0 (by decide), lv_osw (a := 1) c_60_1 (by decide)]; rfl) (by decide) ?_
                    refine zj_aload C dX7_order_104 0 rfl ?_
                    refine zj_get C 8 4 3 (v := .ref (a 10)) inZ4 rfl rfl (by decide) tg_85 rfl dX7_order_106 ?_
                    refine zj_iload_n C dX7_order_109 3 rfl ?_
                    refine zj_iald C 11 (f := (gOd_dy (gTr_le t))) o.toNatClampNeg rfl (xidx c_45 c_54 (by first | exact hb | exact hl) (by decide)) rfl dX7_order_110 ?_
                    have e : f_X7_order t kd o wh = ((gOd_dy (gTr_le t)) o.toNatClampNeg) := by refine (if_neg c_1).trans ?_; refine (if_neg c_6).trans ?_; refine (if_neg c_10).trans ?_; refine (if_pos c_15).trans ?_; refine (if_neg c_22).trans ?_; refine (if_neg c_45).trans ?_; refine (if_pos c_54).trans ?_; refine (if_neg c_60_0).trans ?_; refine (if_neg c_60_1).trans ?_; rfl
                    rw [e] at hret
                    exact hret _ _ dX7_order_111
              · have c_54 : ¬ (o < (nI (gOd_n (gTr_le t)))) := c
                refine zj_iconst C (v := (-1)) dX7_order_57 (by decide) ?_
                have e : f_X7_order t kd o wh = (-1) := by refine (if_neg c_1).trans ?_; refine (if_neg c_6).trans ?_; refine (if_neg c_10).trans ?_; refine (if_pos c_15).trans ?_; refine (if_neg c_22).trans ?_; refine (if_neg c_45).trans ?_; refine (if_neg c_54).trans ?_; rfl
                rw [e] at hret
                exact hret _ _ dX7_order_58
          · have c_22 : kd = 0 := (Classical.not_not.mp c)
            refine zj_aload_n C dX7_order_25 0 rfl ?_
            refine zj_get C 0 7 0 (v := .ref (a 0)) inZ7 rfl rfl (by decide) tg_277 rfl dX7_order_26 ?_
            refine zj_get C 1 6 8 (v := .ref (a 3)) inZ6 rfl rfl (by decide) tg_161 rfl dX7_order_29 ?_
            refine zj_goto C 42 dX7_order_32 (by decide) ?_
            refine zj_astore C (L' := [(4, .ref (a 3)), (0, .ref x0), (1, .int kd), (2, .int o), (3, .int wh)]) dX7_order_42 (by decide) rfl ?_
            refine zj_iload_n C dX7_order_44 3 rfl ?_
            refine zj_if_lt C 57 dX7_order_45 (by decide) (fun c => ?_) (fun c => ?_)
            · have c_45 : o < 0 := c
              refine zj_iconst C (v := (-1)) dX7_order_57 (by decide) ?_
              have e : f_X7_order t kd o wh = (-1) := by refine (if_neg c_1).trans ?_; refine (if_neg c_6).trans ?_; refine (if_neg c_10).trans ?_; refine (if_pos c_15).trans ?_; refine (if_pos c_22).trans ?_; refine (if_pos c_45).trans ?_; rfl
              rw [e] at hret
              exact hret _ _ dX7_order_58
            · have c_45 : ¬ (o < 0) := c
              refine zj_iload_n C dX7_order_48 3 rfl ?_
              refine zj_aload C dX7_order_49 0 rfl ?_
              refine zj_get C 4 4 0 (v := .int (nI (gOd_n (gTr_bu t)))) inZ4 rfl rfl (by decide) tg_76 rfl dX7_order_51 ?_
              refine zj_icmp_lt C 59 dX7_order_54 (by decide) (fun c => ?_) (fun c => ?_)
              · have c_54 : o < (nI (gOd_n (gTr_bu t))) := c
                refine zj_iload_n C dX7_order_59 4 rfl ?_
                by_cases c_60_0 : wh = nI 0
                · refine zj_topi (nI 0) c_60_0 ?_
                  refine zj_look C (off := 28) 88 dX7_order_60 (by decide) (by decide) (by decide) ?_
                  refine zj_aload C dX7_order_88 0 rfl ?_
                  refine zj_get C 4 4 1 (v := .ref (a 4)) inZ4 rfl rfl (by decide) tg_79 rfl dX7_order_90 ?_
                  refine zj_iload_n C dX7_order_93 3 rfl ?_
                  refine zj_iald C 5 (f := (gOd_ho (gTr_bu t))) o.toNatClampNeg rfl (xidx c_45 c_54 (by first | exact hb | exact hl) (by decide)) rfl dX7_order_94 ?_
                  have e : f_X7_order t kd o wh = ((gOd_ho (gTr_bu t)) o.toNatClampNeg) := by refine (if_neg c_1).trans ?_; refine (if_neg c_6).trans ?_; refine (if_neg c_10).trans ?_; refine (if_pos c_15).trans ?_; refine (if_pos c_22).trans ?_; refine (if_neg c_45).trans ?_; refine (if_pos c_54).trans ?_; refine (if_pos c_60_0).trans ?_; rfl
                  rw [e] at hret
                  exact hret _ _ dX7_order_95
                · skip
                  by_cases c_60_1 : wh = nI 1
                  · refine zj_topi (nI 1) c_60_1 ?_
                    refine zj_look C (off := 36) 96 dX7_order_60 (by decide) (by decide) (by decide) ?_
                    refine zj_aload C dX7_order_96 0 rfl ?_
                    refine zj_get C 4 4 2 (v := .ref (a 5)) inZ4 rfl rfl (by decide) tg_82 rfl dX7_order_98 ?_
                    refine zj_iload_n C dX7_order_101 3 rfl ?_
                    refine zj_iald C 6 (f := (gOd_sz (gTr_bu t))) o.toNatClampNeg rfl (xidx c_45 c_54 (by first | exact hb | exact hl) (by decide)) rfl dX7_order_102 ?_
                    have e : f_X7_order t kd o wh = ((gOd_sz (gTr_bu t)) o.toNatClampNeg) := by refine (if_neg c_1).trans ?_; refine (if_neg c_6).trans ?_; refine (if_neg c_10).trans ?_; refine (if_pos c_15).trans ?_; refine (if_pos c_22).trans ?_; refine (if_neg c_45).trans ?_; refine (if_pos c_54).trans ?_; refine (if_neg c_60_0).trans ?_; refine (if_pos c_60_1).trans ?_; rfl
                    rw [e] at hret
                    exact hret _ _ dX7_order_103
                  · skip
                    refine zj_look C (off := 44) 104 dX7_order_60 (by decide) (by show Op.lookupswitch.offset [(0, 28), (1, 36)] 44 _ = _; rw [lv_osw (a := 0) c_60_0 (by decide), lv_osw (a := 1) c_60_1 (by decide)]; rfl) (by decide) ?_
                    refine zj_aload C dX7_order_104 0 rfl ?_
                    refine zj_get C 4 4 3 (v := .ref (a 6)) inZ4 rfl rfl (by decide) tg_85 rfl dX7_order_106 ?_
                    refine zj_iload_n C dX7_order_109 3 rfl ?_
                    refine zj_iald C 7 (f := (gOd_dy (gTr_bu t))) o.toNatClampNeg rfl (xidx c_45 c_54 (by first | exact hb | exact hl) (by decide)) rfl dX7_order_110 ?_
                    have e : f_X7_order t kd o wh = ((gOd_dy (gTr_bu t)) o.toNatClampNeg) := by refine (if_neg c_1).trans ?_; refine (if_neg c_6).trans ?_; refine (if_neg c_10).trans ?_; refine (if_pos c_15).trans ?_; refine (if_pos c_22).trans ?_; refine (if_neg c_45).trans ?_; refine (if_pos c_54).trans ?_; refine (if_neg c_60_0).trans ?_; refine (if_neg c_60_1).trans ?_; rfl
                    rw [e] at hret
                    exact hret _ _ dX7_order_111
              · have c_54 : ¬ (o < (nI (gOd_n (gTr_bu t)))) := c
                refine zj_iconst C (v := (-1)) dX7_order_57 (by decide) ?_
                have e : f_X7_order t kd o wh = (-1) := by refine (if_neg c_1).trans ?_; refine (if_neg c_6).trans ?_; refine (if_neg c_10).trans ?_; refine (if_pos c_15).trans ?_; refine (if_pos c_22).trans ?_; refine (if_neg c_45).trans ?_; refine (if_neg c_54).trans ?_; rfl
                rw [e] at hret
                exact hret _ _ dX7_order_58
        · have c_15 : ¬ (wh < (nI 3)) := c
          refine zj_bipush C (v := (-2)) dX7_order_18 (by decide) ?_
          have e : f_X7_order t kd o wh = (-2) := by refine (if_neg c_1).trans ?_; refine (if_neg c_6).trans ?_; refine (if_neg c_10).trans ?_; refine (if_neg c_15).trans ?_; rfl
          rw [e] at hret
          exact hret _ _ dX7_order_20

noncomputable def f_X7_lastDay (t : zTr) (wh : Int32) : Int32 :=
  if wh < 0 then
    (-2)
  else
    if wh < (nI 6) then
      if (gLd_ended (gTr_la t)) = false then
        (-6)
      else
        if wh = nI 0 then
          (((gLd_made (gTr_la t))).toInt32)
        else
          if wh = nI 1 then
            (((gLd_left (gTr_la t))).toInt32)
          else
            if wh = nI 2 then
              (gLd_sold (gTr_la t))
            else
              if wh = nI 3 then
                ((gLd_swung (gTr_la t)) + (nI 2))
              else
                if wh = nI 4 then
                  (((gLd_still (gTr_la t))).toInt32)
                else
                  (((gLd_back (gTr_la t))).toInt32)
    else
      (-2)
set_option maxHeartbeats 4000000 in
set_option maxRecDepth 100000 in
theorem c_X7_lastDay (l : Launch) (D : va_G) (cy : Nat → ClassId) (x0 x1 x2 d0 d1 p0 p1 h0 h1 : Nat) (a b : Nat → Nat) (hs sl : Nat → Nat → Nat) (wh : Int32) (t : zTr)  : zC l yX7_lastDay (zW yX7_lastDay cX7_lastDay 3 (Option.some Jvm.ClassFile.FieldType.int)) { frames := 0, cells := 0, slots := 0, locals := 0 } D cy [.ref x0, .int wh] ([(WX0 x0 x1 x2 a b d0 p0 h0), (WT cy a t)] : List va_W).flatten (some (.int (f_X7_lastDay t wh))) ([(WX0 x0 x1 x2 a b d0 p0 h0), (WT cy a t)] : List va_W).flatten := by
  refine zC_of rfl (Nat.le_of_ble_eq_true rfl) (zOk_i _) (fun E C hret => ?_)
  show zJ E 3 0 0 ([(WX0 x0 x1 x2 a b d0 p0 h0), (WT cy a t)] : List va_W).flatten 0 [(0, .ref x0), (1, .int wh)] []
  refine zj_iload_n C dX7_lastDay_0 1 rfl ?_
  refine zj_if_lt C 10 dX7_lastDay_1 (by decide) (fun c => ?_) (fun c => ?_)
  · have c_1 : wh < 0 := c
    refine zj_bipush C (v := (-2)) dX7_lastDay_10 (by decide) ?_
    have e : f_X7_lastDay t wh = (-2) := by refine (if_pos c_1).trans ?_; rfl
    rw [e] at hret
    exact hret _ _ dX7_lastDay_12
  · have c_1 : ¬ (wh < 0) := c
    refine zj_iload_n C dX7_lastDay_4 1 rfl ?_
    refine zj_bipush C (v := (nI 6)) dX7_lastDay_5 (by decide) ?_
    refine zj_icmp_lt C 13 dX7_lastDay_7 (by decide) (fun c => ?_) (fun c => ?_)
    · have c_7 : wh < (nI 6) := c
      refine zj_aload_n C dX7_lastDay_13 0 rfl ?_
      refine zj_get C 0 7 0 (v := .ref (a 0)) inZ7 rfl rfl (by decide) tg_277 rfl dX7_lastDay_14 ?_
      refine zj_get C 1 6 10 (v := .ref (a 11)) inZ6 rfl rfl (by decide) tg_167 rfl dX7_lastDay_17 ?_
      refine zj_astore_n C (L' := [(2, .ref (a 11)), (0, .ref x0), (1, .int wh)]) dX7_lastDay_20 rfl (by decide) rfl ?_
      refine zj_aload_n C dX7_lastDay_21 0 rfl ?_
      refine zj_get C 12 3 0 (v := .int (zB (gLd_ended (gTr_la t)))) inZ3 rfl rfl (by decide) tg_102 rfl dX7_lastDay_22 ?_
      refine zj_if_ne C 31 dX7_lastDay_25 (by decide) (fun c => ?_) (fun c => ?_)
      · have c_25 : ¬ ((gLd_ended (gTr_la t)) = false) := (zB_neq c)
        refine zj_iload_n C dX7_lastDay_31 2 rfl ?_
        by_cases c_32_0 : wh = nI 0
        · refine zj_topi (nI 0) c_32_0 ?_
          refine zj_tin C (off := 36) 68 dX7_lastDay_32 (by decide) (by decide) rfl (by decide) ?_
          refine zj_aload_n C dX7_lastDay_68 0 rfl ?_
          refine zj_get C 12 3 2 (v := .long (gLd_made (gTr_la t))) inZ3 rfl rfl (by decide) tg_107 rfl dX7_lastDay_69 ?_
          refine zj_l2i C dX7_lastDay_72 ?_
          have e : f_X7_lastDay t wh = (((gLd_made (gTr_la t))).toInt32) := by refine (if_neg c_1).trans ?_; refine (if_pos c_7).trans ?_; refine (if_neg c_25).trans ?_; refine (if_pos c_32_0).trans ?_; rfl
          rw [e] at hret
          exact hret _ _ dX7_lastDay_73
        · skip
          by_cases c_32_1 : wh = nI 1
          · refine zj_topi (nI 1) c_32_1 ?_
            refine zj_tin C (off := 42) 74 dX7_lastDay_32 (by decide) (by decide) rfl (by decide) ?_
            refine zj_aload_n C dX7_lastDay_74 0 rfl ?_
            refine zj_get C 12 3 3 (v := .long (gLd_left (gTr_la t))) inZ3 rfl rfl (by decide) tg_110 rfl dX7_lastDay_75 ?_
            refine zj_l2i C dX7_lastDay_78 ?_
            have e : f_X7_lastDay t wh = (((gLd_left (gTr_la t))).toInt32) := by refine (if_neg c_1).trans ?_; refine (if_pos c_7).trans ?_; refine (if_neg c_25).trans ?_; refine (if_neg c_32_0).trans ?_; refine (if_pos c_32_1).trans ?_; rfl
            rw [e] at hret
            exact hret _ _ dX7_lastDay_79
          · skip
            by_cases c_32_2 : wh = nI 2
            · refine zj_topi (nI 2) c_32_2 ?_
              refine zj_tin C (off := 48) 80 dX7_lastDay_32 (by decide) (by decide) rfl (by decide) ?_
              refine zj_aload_n C dX7_lastDay_80 0 rfl ?_
              refine zj_get C 12 3 6 (v := .int (gLd_sold (gTr_la t))) inZ3 rfl rfl (by decide) tg_119 rfl dX7_lastDay_81 ?_
              have e : f_X7_lastDay t wh = (gLd_sold (gTr_la t)) := by refine (if_neg c_1).trans ?_; refine (if_pos c_7).trans ?_; refine (if_neg c_25).trans ?_; refine (if_neg c_32_0).trans ?_; refine (if_neg c_32_1).trans ?_; refine (if_pos c_32_2).trans ?_; rfl
              rw [e] at hret
              exact hret _ _ dX7_lastDay_84
            · skip
              by_cases c_32_3 : wh = nI 3
              · refine zj_topi (nI 3) c_32_3 ?_
                refine zj_tin C (off := 53) 85 dX7_lastDay_32 (by decide) (by decide) rfl (by decide) ?_
                refine zj_aload_n C dX7_lastDay_85 0 rfl ?_
                refine zj_get C 12 3 7 (v := .int (gLd_swung (gTr_la t))) inZ3 rfl rfl (by decide) tg_121 rfl dX7_lastDay_86 ?_
                refine zj_iconst C (v := (nI 2)) dX7_lastDay_89 (by decide) ?_
                refine zj_iadd C dX7_lastDay_90 ?_
                have e : f_X7_lastDay t wh = ((gLd_swung (gTr_la t)) + (nI 2)) := by refine (if_neg c_1).trans ?_; refine (if_pos c_7).trans ?_; refine (if_neg c_25).trans ?_; refine (if_neg c_32_0).trans ?_; refine (if_neg c_32_1).trans ?_; refine (if_neg c_32_2).trans ?_; refine (if_pos c_32_3).trans ?_; rfl
                rw [e] at hret
                exact hret _ _ dX7_lastDay_91
              · skip
                by_cases c_32_4 : wh = nI 4
                · refine zj_topi (nI 4) c_32_4 ?_
                  refine zj_tin C (off := 60) 92 dX7_lastDay_32 (by decide) (by decide) rfl (by decide) ?_
                  refine zj_aload_n C dX7_lastDay_92 0 rfl ?_
                  refine zj_get C 12 3 4 (v := .long (gLd_still (gTr_la t))) inZ3 rfl rfl (by decide) tg_113 rfl dX7_lastDay_93 ?_
                  refine zj_l2i C dX7_lastDay_96 ?_
                  have e : f_X7_lastDay t wh = (((gLd_still (gTr_la t))).toInt32) := by refine (if_neg c_1).trans ?_; refine (if_pos c_7).trans ?_; refine (if_neg c_25).trans ?_; refine (if_neg c_32_0).trans ?_; refine (if_neg c_32_1).trans ?_; refine (if_neg c_32_2).trans ?_; refine (if_neg c_32_3).trans ?_; refine (if_pos c_32_4).trans ?_; rfl
                  rw [e] at hret
                  exact hret _ _ dX7_lastDay_97
                · skip
                  refine zj_tout C 98 dX7_lastDay_32 (zsw_out (x := wh) (n := 4) (by decide) (fun k hk => by rcases (show k = 0 ∨ k = 1 ∨ k = 2 ∨ k = 3 ∨ k = 4 by omega) with rfl | rfl | rfl | rfl | rfl <;> assumption)) (by decide) ?_
                  refine zj_aload_n C dX7_lastDay_98 0 rfl ?_
                  refine zj_get C 12 3 5 (v := .long (gLd_back (gTr_la t))) inZ3 rfl rfl (by decide) tg_116 rfl dX7_lastDay_99 ?_
                  refine zj_l2i C dX7_lastDay_102 ?_
                  have e : f_X7_lastDay t wh = (((gLd_back (gTr_la t))).toInt32) := by refine (if_neg c_1).trans ?_; refine (if_pos c_7).trans ?_; refine (if_neg c_25).trans ?_; refine (if_neg c_32_0).trans ?_; refine (if_neg c_32_1).trans ?_; refine (if_neg c_32_2).trans ?_; refine (if_neg c_32_3).trans ?_; refine (if_neg c_32_4).trans ?_; rfl
                  rw [e] at hret
                  exact hret _ _ dX7_lastDay_103
      · have c_25 : (gLd_ended (gTr_la t)) = false := (zB_eq (Classical.not_not.mp c))
        refine zj_bipush C (v := (-6)) dX7_lastDay_28 (by decide) ?_
        have e : f_X7_lastDay t wh = (-6) := by refine (if_neg c_1).trans ?_; refine (if_pos c_7).trans ?_; refine (if_pos c_25).trans ?_; rfl
        rw [e] at hret
        exact hret _ _ dX7_lastDay_30
    · have c_7 : ¬ (wh < (nI 6)) := c
      refine zj_bipush C (v := (-2)) dX7_lastDay_10 (by decide) ?_
      have e : f_X7_lastDay t wh = (-2) := by refine (if_neg c_1).trans ?_; refine (if_neg c_7).trans ?_; rfl
      rw [e] at hret
      exact hret _ _ dX7_lastDay_12

noncomputable def f_X7_price (t : zTr) (x : zDd) (wh : Int32) : Int64 × zDd :=
  if wh < 0 then
    ((-2), x)
  else
    if wh < (nI 4) then
      if wh = nI 0 then
        let R_44 : Int64 := (f_X6_middle t)
        (R_44, x)
      else
        if wh = nI 1 then
          let T_56 : zDd := ((f_X0_priceOf x t).2)
          let R_56_1 : Int64 := ((f_X0_priceOf x t).1)
          (R_56_1, T_56)
        else
          if wh = nI 2 then
            let x70_0 : Int64 := (if (gLd_ended (gTr_la t)) = false then (-6) else (gLd_price (gTr_la t)))
            (x70_0, x)
          else
            let R_94 : Int64 := (f_X6_unitIncome t)
            (R_94, x)
    else
      ((-2), x)
set_option maxHeartbeats 4000000 in
set_option maxRecDepth 100000 in
theorem c_X7_price (l : Launch) (D : va_G) (cy : Nat → ClassId) (x0 x1 x2 d0 d1 p0 p1 h0 h1 : Nat) (a b : Nat → Nat) (hs sl : Nat → Nat → Nat) (wh : Int32) (t : zTr) (x : zDd) (hb : gOd_n (gTr_bu t) ≤ 20) (hl : gOd_n (gTr_le t) ≤ 20) : zC l yX7_price (zW yX7_price cX7_price 2 (Option.some Jvm.ClassFile.FieldType.long)) { frames := 5, cells := 0, slots := 0, locals := 113 } D cy [.ref x0, .int wh] ([(WX0 x0 x1 x2 a b d0 p0 h0), (WT cy a t), (WD cy d0 d1 x)] : List va_W).flatten (some (.long ((f_X7_price t x wh).1))) ([(WX0 x0 x1 x2 a b d0 p0 h0), (WT cy a t), (WD cy d0 d1 ((f_X7_price t x wh).2))] : List va_W).flatten := by
  refine zC_of rfl (Nat.le_of_ble_eq_true rfl) (zOk_l _) (fun E C hret => ?_)
  show zJ E 2 0 0 ([(WX0 x0 x1 x2 a b d0 p0 h0), (WT cy a t), (WD cy d0 d1 x)] : List va_W).flatten 0 [(0, .ref x0), (1, .int wh)] []
  refine zj_iload_n C dX7_price_0 1 rfl ?_
  refine zj_if_lt C 9 dX7_price_1 (by decide) (fun c => ?_) (fun c => ?_)
  · have c_1 : wh < 0 := c
    refine zj_ldc2 C dX7_price_9 tg_556 ?_
    have e : f_X7_price t x wh = ((-2), x) := by refine (if_pos c_1).trans ?_; rfl
    rw [e] at hret
    exact hret _ _ dX7_price_12
  · have c_1 : ¬ (wh < 0) := c
    refine zj_iload_n C dX7_price_4 1 rfl ?_
    refine zj_iconst C (v := (nI 4)) dX7_price_5 (by decide) ?_
    refine zj_icmp_lt C 13 dX7_price_6 (by decide) (fun c => ?_) (fun c => ?_)
    · have c_6 : wh < (nI 4) := c
      refine zj_iload_n C dX7_price_13 1 rfl ?_
      by_cases c_14_0 : wh = nI 0
      · refine zj_topi (nI 0) c_14_0 ?_
        refine zj_tin C (off := 26) 40 dX7_price_14 (by decide) (by decide) rfl (by decide) ?_
        refine zj_aload_n C dX7_price_40 0 rfl ?_
        refine zj_get C 0 7 0 (v := .ref (a 0)) inZ7 rfl rfl (by decide) tg_277 rfl dX7_price_41 ?_
        have M_44 := c_X6_middle l D cy a  t 
        obtain ⟨R_44, hR_44⟩ : ∃ g : Int64, g = (f_X6_middle t) := ⟨_, rfl⟩
        rw [← hR_44] at M_44
        refine zj_callVF1 C (nn := 18) (Bs' := ([(WX0 x0 x1 x2 a b d0 p0 h0), (WT cy a t), (WD cy d0 d1 x)] : List va_W)) (st := []) (st1 := [.long R_44]) 1 0 6 (M_44) (zg_V tg_432 tg_557 tg_430 tg_431 tg_2) ⟨rfl, hdZ_X6_middle⟩ ⟨rfl, rfl⟩ ⟨by decide, by decide⟩ rfl rfl rfl ⟨rfl, rfl⟩ rfl rfl (Nat.le_of_ble_eq_true rfl) dX7_price_44 rfl rfl ?_
        subst hR_44
        have e : f_X7_price t x wh = ((f_X6_middle t), x) := by refine (if_neg c_1).trans ?_; refine (if_pos c_6).trans ?_; refine (if_pos c_14_0).trans ?_; rfl
        rw [e] at hret
        exact hret _ _ dX7_price_47
      · skip
        by_cases c_14_1 : wh = nI 1
        · refine zj_topi (nI 1) c_14_1 ?_
          refine zj_tin C (off := 34) 48 dX7_price_14 (by decide) (by decide) rfl (by decide) ?_
          refine zj_aload_n C dX7_price_48 0 rfl ?_
          refine zj_get C 0 7 2 (v := .ref d0) inZ7 rfl rfl (by decide) tg_279 rfl dX7_price_49 ?_
          refine zj_aload_n C dX7_price_52 0 rfl ?_
          refine zj_get C 0 7 0 (v := .ref (a 0)) inZ7 rfl rfl (by decide) tg_277 rfl dX7_price_53 ?_
          have M_56 := c_X0_priceOf l D cy d0 d1 a  x t hb hl
          obtain ⟨T_56, hT_56⟩ : ∃ g : zDd, g = ((f_X0_priceOf x t).2) := ⟨_, rfl⟩
          rw [← hT_56] at M_56
          obtain ⟨R_56_1, hR_56_1⟩ : ∃ g : Int64, g = ((f_X0_priceOf x t).1) := ⟨_, rfl⟩
          rw [← hR_56_1] at M_56
          refine zj_callVF C (nn := 20) (Bs' := ([(WX0 x0 x1 x2 a b d0 p0 h0), (WT cy a t), (WD cy d0 d1 T_56)] : List va_W)) (st := []) (st1 := [.long R_56_1]) [(WD cy d0 d1 x), (WT cy a t)] [(WD cy d0 d1 T_56), (WT cy a t)] [2, 1] 0 0 (M_56) rfl rfl (zg_V tg_561 tg_558 tg_559 tg_560 tg_6) ⟨rfl, hdZ_X0_priceOf⟩ ⟨rfl, rfl⟩ ⟨by decide, by decide⟩ rfl rfl rfl (by decide) ⟨rfl, rfl⟩ rfl rfl rfl (Nat.le_of_ble_eq_true rfl) dX7_price_56 rfl rfl ?_
          subst hR_56_1
          subst hT_56
          have e : f_X7_price t x wh = (((f_X0_priceOf x t).1), ((f_X0_priceOf x t).2)) := by refine (if_neg c_1).trans ?_; refine (if_pos c_6).trans ?_; refine (if_neg c_14_0).trans ?_; refine (if_pos c_14_1).trans ?_; rfl
          rw [e] at hret
          exact hret _ _ dX7_price_59
        · skip
          by_cases c_14_2 : wh = nI 2
          · refine zj_topi (nI 2) c_14_2 ?_
            refine zj_tin C (off := 46) 60 dX7_price_14 (by decide) (by decide) rfl (by decide) ?_
            refine zj_aload_n C dX7_price_60 0 rfl ?_
            refine zj_get C 0 7 0 (v := .ref (a 0)) inZ7 rfl rfl (by decide) tg_277 rfl dX7_price_61 ?_
            refine zj_get C 1 6 10 (v := .ref (a 11)) inZ6 rfl rfl (by decide) tg_167 rfl dX7_price_64 ?_
            refine zj_get C 12 3 0 (v := .int (zB (gLd_ended (gTr_la t)))) inZ3 rfl rfl (by decide) tg_102 rfl dX7_price_67 ?_
            have J_70 : ∀ (x70_0 : Int64), x70_0 = (if (gLd_ended (gTr_la t)) = false then (-6) else (gLd_price (gTr_la t))) → zJ E 2 0 0 ([(WX0 x0 x1 x2 a b d0 p0 h0), (WT cy a t), (WD cy d0 d1 x)] : List va_W).flatten 89 [(0, .ref x0), (1, .int wh)] [.long x70_0] := by
              intro x70_0 hx70_0
              subst hx70_0
              have e : f_X7_price t x wh = ((if (gLd_ended (gTr_la t)) = false then (-6) else (gLd_price (gTr_la t))), x) := by refine (if_neg c_1).trans ?_; refine (if_pos c_6).trans ?_; refine (if_neg c_14_0).trans ?_; refine (if_neg c_14_1).trans ?_; refine (if_pos c_14_2).trans ?_; rfl
              rw [e] at hret
              exact hret _ _ dX7_price_89
            refine zj_if_eq C 86 dX7_price_70 (by decide) (fun c => ?_) (fun c => ?_)
            · have c_70 : (gLd_ended (gTr_la t)) = false := (zB_eq c)
              refine zj_ldc2 C dX7_price_86 tg_562 ?_
              exact J_70 (-6) (by simp only [if_neg c_1, if_pos c_6, if_neg c_14_0, if_neg c_14_1, if_pos c_14_2, if_pos c_70]; first | done | assumption)
            · have c_70 : ¬ ((gLd_ended (gTr_la t)) = false) := (zB_neq c)
              refine zj_aload_n C dX7_price_73 0 rfl ?_
              refine zj_get C 0 7 0 (v := .ref (a 0)) inZ7 rfl rfl (by decide) tg_277 rfl dX7_price_74 ?_
              refine zj_get C 1 6 10 (v := .ref (a 11)) inZ6 rfl rfl (by decide) tg_167 rfl dX7_price_77 ?_
              refine zj_get C 12 3 1 (v := .long (gLd_price (gTr_la t))) inZ3 rfl rfl (by decide) tg_104 rfl dX7_price_80 ?_
              refine zj_goto C 89 dX7_price_83 (by decide) ?_
              exact J_70 (gLd_price (gTr_la t)) (by simp only [if_neg c_1, if_pos c_6, if_neg c_14_0, if_neg c_14_1, if_pos c_14_2, if_neg c_70]; first | done | assumption)
          · skip
            refine zj_tout C 90 dX7_price_14 (zsw_out (x := wh) (n := 2) (by decide) (fun k hk => by rcases (show k = 0 ∨ k = 1 ∨ k = 2 by omega) with rfl | rfl | rfl <;> assumption)) (by decide) ?_
            refine zj_aload_n C dX7_price_90 0 rfl ?_
            refine zj_get C 0 7 0 (v := .ref (a 0)) inZ7 rfl rfl (by decide) tg_277 rfl dX7_price_91 ?_
            have M_94 := c_X6_unitIncome l D cy a  t 
            obtain ⟨R_94, hR_94⟩ : ∃ g : Int64, g = (f_X6_unitIncome t) := ⟨_, rfl⟩
            rw [← hR_94] at M_94
            refine zj_callVF1 C (nn := 18) (Bs' := ([(WX0 x0 x1 x2 a b d0 p0 h0), (WT cy a t), (WD cy d0 d1 x)] : List va_W)) (st := []) (st1 := [.long R_94]) 1 0 6 (M_94) (zg_V tg_401 tg_563 tg_399 tg_400 tg_2) ⟨rfl, hdZ_X6_unitIncome⟩ ⟨rfl, rfl⟩ ⟨by decide, by decide⟩ rfl rfl rfl ⟨rfl, rfl⟩ rfl rfl (Nat.le_of_ble_eq_true rfl) dX7_price_94 rfl rfl ?_
            subst hR_94
            have e : f_X7_price t x wh = ((f_X6_unitIncome t), x) := by refine (if_neg c_1).trans ?_; refine (if_pos c_6).trans ?_; refine (if_neg c_14_0).trans ?_; refine (if_neg c_14_1).trans ?_; refine (if_neg c_14_2).trans ?_; rfl
            rw [e] at hret
            exact hret _ _ dX7_price_97
    · have c_6 : ¬ (wh < (nI 4)) := c
      refine zj_ldc2 C dX7_price_9 tg_556 ?_
      have e : f_X7_price t x wh = ((-2), x) := by refine (if_neg c_1).trans ?_; refine (if_neg c_6).trans ?_; rfl
      rw [e] at hret
      exact hret _ _ dX7_price_12

noncomputable def f_X7_count (t : zTr) (z : zPd) (y : zHs) (wh : Int32) : Int32 :=
  if wh < 0 then
    (-2)
  else
    if wh < (nI 19) then
      if wh = nI 0 then
        (((gTr_cash t)).toInt32)
      else
        if wh = nI 1 then
          (gTr_lots t)
        else
          if wh = nI 2 then
            (gTr_quote t)
          else
            if wh = nI 3 then
              let R_133 : Int64 := (f_X6_value t)
              ((R_133).toInt32)
            else
              if wh = nI 4 then
                let R_142 : Int64 := (f_X6_units t)
                ((R_142).toInt32)
              else
                if wh = nI 5 then
                  let R_151 : Int64 := (f_X6_newUnits t)
                  ((R_151).toInt32)
                else
                  if wh = nI 6 then
                    (((gTr_pool t)).toInt32)
                  else
                    if wh = nI 7 then
                      (((gTr_even t)).toInt32)
                    else
                      if wh = nI 8 then
                        (gTr_day t)
                      else
                        if wh = nI 9 then
                          (nI (gOd_n (gTr_bu t)))
                        else
                          if wh = nI 10 then
                            (nI (gOd_n (gTr_le t)))
                          else
                            if wh = nI 11 then
                              let R_222 : Int64 := (f_X4_sum (gTr_le t) 0 (gOd_n (gTr_le t)))
                              ((R_222).toInt32)
                            else
                              if wh = nI 12 then
                                ((gTr_st t) 0)
                              else
                                if wh = nI 13 then
                                  ((gTr_st t) 1)
                                else
                                  if wh = nI 14 then
                                    ((gTr_st t) 2)
                                  else
                                    if wh = nI 15 then
                                      ((gTr_st t) 3)
                                    else
                                      if wh = nI 16 then
                                        ((gTr_st t) 4)
                                      else
                                        if wh = nI 17 then
                                          (nI (gPd_n z))
                                        else
                                          if wh = nI 18 then
                                            (nI (gHs_count y))
                                          else
                                            0
    else
      (-2)
set_option maxHeartbeats 4000000 in
set_option maxRecDepth 100000 in
theorem c_X7_count (l : Launch) (D : va_G) (cy : Nat → ClassId) (x0 x1 x2 d0 d1 p0 p1 h0 h1 : Nat) (a b : Nat → Nat) (hs sl : Nat → Nat → Nat) (wh : Int32) (t : zTr) (z : zPd) (y : zHs) (hl : gOd_n (gTr_le t) ≤ 20) : zC l yX7_count (zW yX7_count cX7_count 2 (Option.some Jvm.ClassFile.FieldType.int)) { frames := 2, cells := 0, slots := 0, locals := 43 } D cy [.ref x0, .int wh] ([(WX0 x0 x1 x2 a b d0 p0 h0), (WT cy a t), (WP cy p0 p1 z), (WHo cy h0 h1 hs (gHs_first y) (gHs_count y))] : List va_W).flatten (some (.int (f_X7_count t z y wh))) ([(WX0 x0 x1 x2 a b d0 p0 h0), (WT cy a t), (WP cy p0 p1 z), (WHo cy h0 h1 hs (gHs_first y) (gHs_count y))] : List va_W).flatten := by
  refine zC_of rfl (Nat.le_of_ble_eq_true rfl) (zOk_i _) (fun E C hret => ?_)
  show zJ E 2 0 0 ([(WX0 x0 x1 x2 a b d0 p0 h0), (WT cy a t), (WP cy p0 p1 z), (WHo cy h0 h1 hs (gHs_first y) (gHs_count y))] : List va_W).flatten 0 [(0, .ref x0), (1, .int wh)] []
  refine zj_iload_n C dX7_count_0 1 rfl ?_
  refine zj_if_lt C 10 dX7_count_1 (by decide) (fun c => ?_) (fun c => ?_)
  · have c_1 : wh < 0 := c
    refine zj_bipush C (v := (-2)) dX7_count_10 (by decide) ?_
    have e : f_X7_count t z y wh = (-2) := by refine (if_pos c_1).trans ?_; rfl
    rw [e] at hret
    exact hret _ _ dX7_count_12
  · have c_1 : ¬ (wh < 0) := c
    refine zj_iload_n C dX7_count_4 1 rfl ?_
    refine zj_bipush C (v := (nI 19)) dX7_count_5 (by decide) ?_
    refine zj_icmp_lt C 13 dX7_count_7 (by decide) (fun c => ?_) (fun c => ?_)
    · have c_7 : wh < (nI 19) := c
      refine zj_iload_n C dX7_count_13 1 rfl ?_
      by_cases c_14_0 : wh = nI 0
      · refine zj_topi (nI 0) c_14_0 ?_
        refine zj_tin C (off := 90) 104 dX7_count_14 (by decide) (by decide) rfl (by decide) ?_
        refine zj_aload_n C dX7_count_104 0 rfl ?_
        refine zj_get C 0 7 0 (v := .ref (a 0)) inZ7 rfl rfl (by decide) tg_277 rfl dX7_count_105 ?_
        refine zj_get C 1 6 0 (v := .long (gTr_cash t)) inZ6 rfl rfl (by decide) tg_141 rfl dX7_count_108 ?_
        refine zj_l2i C dX7_count_111 ?_
        have e : f_X7_count t z y wh = (((gTr_cash t)).toInt32) := by refine (if_neg c_1).trans ?_; refine (if_pos c_7).trans ?_; refine (if_pos c_14_0).trans ?_; rfl
        rw [e] at hret
        exact hret _ _ dX7_count_112
      · skip
        by_cases c_14_1 : wh = nI 1
        · refine zj_topi (nI 1) c_14_1 ?_
          refine zj_tin C (off := 99) 113 dX7_count_14 (by decide) (by decide) rfl (by decide) ?_
          refine zj_aload_n C dX7_count_113 0 rfl ?_
          refine zj_get C 0 7 0 (v := .ref (a 0)) inZ7 rfl rfl (by decide) tg_277 rfl dX7_count_114 ?_
          refine zj_get C 1 6 3 (v := .int (gTr_lots t)) inZ6 rfl rfl (by decide) tg_147 rfl dX7_count_117 ?_
          have e : f_X7_count t z y wh = (gTr_lots t) := by refine (if_neg c_1).trans ?_; refine (if_pos c_7).trans ?_; refine (if_neg c_14_0).trans ?_; refine (if_pos c_14_1).trans ?_; rfl
          rw [e] at hret
          exact hret _ _ dX7_count_120
        · skip
          by_cases c_14_2 : wh = nI 2
          · refine zj_topi (nI 2) c_14_2 ?_
            refine zj_tin C (off := 107) 121 dX7_count_14 (by decide) (by decide) rfl (by decide) ?_
            refine zj_aload_n C dX7_count_121 0 rfl ?_
            refine zj_get C 0 7 0 (v := .ref (a 0)) inZ7 rfl rfl (by decide) tg_277 rfl dX7_count_122 ?_
            refine zj_get C 1 6 4 (v := .int (gTr_quote t)) inZ6 rfl rfl (by decide) tg_149 rfl dX7_count_125 ?_
            have e : f_X7_count t z y wh = (gTr_quote t) := by refine (if_neg c_1).trans ?_; refine (if_pos c_7).trans ?_; refine (if_neg c_14_0).trans ?_; refine (if_neg c_14_1).trans ?_; refine (if_pos c_14_2).trans ?_; rfl
            rw [e] at hret
            exact hret _ _ dX7_count_128
          · skip
            by_cases c_14_3 : wh = nI 3
            · refine zj_topi (nI 3) c_14_3 ?_
              refine zj_tin C (off := 115) 129 dX7_count_14 (by decide) (by decide) rfl (by decide) ?_
              refine zj_aload_n C dX7_count_129 0 rfl ?_
              refine zj_get C 0 7 0 (v := .ref (a 0)) inZ7 rfl rfl (by decide) tg_277 rfl dX7_count_130 ?_
              have M_133 := c_X6_value l D cy a  t 
              obtain ⟨R_133, hR_133⟩ : ∃ g : Int64, g = (f_X6_value t) := ⟨_, rfl⟩
              rw [← hR_133] at M_133
              refine zj_callVF1 C (nn := 18) (Bs' := ([(WX0 x0 x1 x2 a b d0 p0 h0), (WT cy a t), (WP cy p0 p1 z), (WHo cy h0 h1 hs (gHs_first y) (gHs_count y))] : List va_W)) (st := []) (st1 := [.long R_133]) 1 0 6 (M_133) (zg_V tg_436 tg_540 tg_434 tg_435 tg_2) ⟨rfl, hdZ_X6_value⟩ ⟨rfl, rfl⟩ ⟨by decide, by decide⟩ rfl rfl rfl ⟨rfl, rfl⟩ rfl rfl (Nat.le_of_ble_eq_true rfl) dX7_count_133 rfl rfl ?_
              refine zj_l2i C dX7_count_136 ?_
              subst hR_133
              have e : f_X7_count t z y wh = (((f_X6_value t)).toInt32) := by refine (if_neg c_1).trans ?_; refine (if_pos c_7).trans ?_; refine (if_neg c_14_0).trans ?_; refine (if_neg c_14_1).trans ?_; refine (if_neg c_14_2).trans ?_; refine (if_pos c_14_3).trans ?_; rfl
              rw [e] at hret
              exact hret _ _ dX7_count_137
            · skip
              by_cases c_14_4 : wh = nI 4
              · refine zj_topi (nI 4) c_14_4 ?_
                refine zj_tin C (off := 124) 138 dX7_count_14 (by decide) (by decide) rfl (by decide) ?_
                refine zj_aload_n C dX7_count_138 0 rfl ?_
                refine zj_get C 0 7 0 (v := .ref (a 0)) inZ7 rfl rfl (by decide) tg_277 rfl dX7_count_139 ?_
                have M_142 := c_X6_units l D cy a  t 
                obtain ⟨R_142, hR_142⟩ : ∃ g : Int64, g = (f_X6_units t) := ⟨_, rfl⟩
                rw [← hR_142] at M_142
                refine zj_callVF1 C (nn := 18) (Bs' := ([(WX0 x0 x1 x2 a b d0 p0 h0), (WT cy a t), (WP cy p0 p1 z), (WHo cy h0 h1 hs (gHs_first y) (gHs_count y))] : List va_W)) (st := []) (st1 := [.long R_142]) 1 0 6 (M_142) (zg_V tg_397 tg_541 tg_395 tg_396 tg_2) ⟨rfl, hdZ_X6_units⟩ ⟨rfl, rfl⟩ ⟨by decide, by decide⟩ rfl rfl rfl ⟨rfl, rfl⟩ rfl rfl (Nat.le_of_ble_eq_true rfl) dX7_count_142 rfl rfl ?_
                refine zj_l2i C dX7_count_145 ?_
                subst hR_142
                have e : f_X7_count t z y wh = (((f_X6_units t)).toInt32) := by refine (if_neg c_1).trans ?_; refine (if_pos c_7).trans ?_; refine (if_neg c_14_0).trans ?_; refine (if_neg c_14_1).trans ?_; refine (if_neg c_14_2).trans ?_; refine (if_neg c_14_3).trans ?_; refine (if_pos c_14_4).trans ?_; rfl
                rw [e] at hret
                exact hret _ _ dX7_count_146
              · skip
                by_cases c_14_5 : wh = nI 5
                · refine zj_topi (nI 5) c_14_5 ?_
                  refine zj_tin C (off := 133) 147 dX7_count_14 (by decide) (by decide) rfl (by decide) ?_
                  refine zj_aload_n C dX7_count_147 0 rfl ?_
                  refine zj_get C 0 7 0 (v := .ref (a 0)) inZ7 rfl rfl (by decide) tg_277 rfl dX7_count_148 ?_
                  have M_151 := c_X6_newUnits l D cy a  t 
                  obtain ⟨R_151, hR_151⟩ : ∃ g : Int64, g = (f_X6_newUnits t) := ⟨_, rfl⟩
                  rw [← hR_151] at M_151
                  refine zj_callVF1 C (nn := 18) (Bs' := ([(WX0 x0 x1 x2 a b d0 p0 h0), (WT cy a t), (WP cy p0 p1 z), (WHo cy h0 h1 hs (gHs_first y) (gHs_count y))] : List va_W)) (st := []) (st1 := [.long R_151]) 1 0 6 (M_151) (zg_V tg_410 tg_542 tg_408 tg_409 tg_2) ⟨rfl, hdZ_X6_newUnits⟩ ⟨rfl, rfl⟩ ⟨by decide, by decide⟩ rfl rfl rfl ⟨rfl, rfl⟩ rfl rfl (Nat.le_of_ble_eq_true rfl) dX7_count_151 rfl rfl ?_
                  refine zj_l2i C dX7_count_154 ?_
                  subst hR_151
                  have e : f_X7_count t z y wh = (((f_X6_newUnits t)).toInt32) := by refine (if_neg c_1).trans ?_; refine (if_pos c_7).trans ?_; refine (if_neg c_14_0).trans ?_; refine (if_neg c_14_1).trans ?_; refine (if_neg c_14_2).trans ?_; refine (if_neg c_14_3).trans ?_; refine (if_neg c_14_4).trans ?_; refine (if_pos c_14_5).trans ?_; rfl
                  rw [e] at hret
                  exact hret _ _ dX7_count_155
                · skip
                  by_cases c_14_6 : wh = nI 6
                  · refine zj_topi (nI 6) c_14_6 ?_
                    refine zj_tin C (off := 142) 156 dX7_count_14 (by decide) (by decide) rfl (by decide) ?_
                    refine zj_aload_n C dX7_count_156 0 rfl ?_
                    refine zj_get C 0 7 0 (v := .ref (a 0)) inZ7 rfl rfl (by decide) tg_277 rfl dX7_count_157 ?_
                    refine zj_get C 1 6 1 (v := .long (gTr_pool t)) inZ6 rfl rfl (by decide) tg_143 rfl dX7_count_160 ?_
                    refine zj_l2i C dX7_count_163 ?_
                    have e : f_X7_count t z y wh = (((gTr_pool t)).toInt32) := by refine (if_neg c_1).trans ?_; refine (if_pos c_7).trans ?_; refine (if_neg c_14_0).trans ?_; refine (if_neg c_14_1).trans ?_; refine (if_neg c_14_2).trans ?_; refine (if_neg c_14_3).trans ?_; refine (if_neg c_14_4).trans ?_; refine (if_neg c_14_5).trans ?_; refine (if_pos c_14_6).trans ?_; rfl
                    rw [e] at hret
                    exact hret _ _ dX7_count_164
                  · skip
                    by_cases c_14_7 : wh = nI 7
                    · refine zj_topi (nI 7) c_14_7 ?_
                      refine zj_tin C (off := 151) 165 dX7_count_14 (by decide) (by decide) rfl (by decide) ?_
                      refine zj_aload_n C dX7_count_165 0 rfl ?_
                      refine zj_get C 0 7 0 (v := .ref (a 0)) inZ7 rfl rfl (by decide) tg_277 rfl dX7_count_166 ?_
                      refine zj_get C 1 6 2 (v := .long (gTr_even t)) inZ6 rfl rfl (by decide) tg_145 rfl dX7_count_169 ?_
                      refine zj_l2i C dX7_count_172 ?_
                      have e : f_X7_count t z y wh = (((gTr_even t)).toInt32) := by refine (if_neg c_1).trans ?_; refine (if_pos c_7).trans ?_; refine (if_neg c_14_0).trans ?_; refine (if_neg c_14_1).trans ?_; refine (if_neg c_14_2).trans ?_; refine (if_neg c_14_3).trans ?_; refine (if_neg c_14_4).trans ?_; refine (if_neg c_14_5).trans ?_; refine (if_neg c_14_6).trans ?_; refine (if_pos c_14_7).trans ?_; rfl
                      rw [e] at hret
                      exact hret _ _ dX7_count_173
                    · skip
                      by_cases c_14_8 : wh = nI 8
                      · refine zj_topi (nI 8) c_14_8 ?_
                        refine zj_tin C (off := 160) 174 dX7_count_14 (by decide) (by decide) rfl (by decide) ?_
                        refine zj_aload_n C dX7_count_174 0 rfl ?_
                        refine zj_get C 0 7 0 (v := .ref (a 0)) inZ7 rfl rfl (by decide) tg_277 rfl dX7_count_175 ?_
                        refine zj_get C 1 6 5 (v := .int (gTr_day t)) inZ6 rfl rfl (by decide) tg_152 rfl dX7_count_178 ?_
                        have e : f_X7_count t z y wh = (gTr_day t) := by refine (if_neg c_1).trans ?_; refine (if_pos c_7).trans ?_; refine (if_neg c_14_0).trans ?_; refine (if_neg c_14_1).trans ?_; refine (if_neg c_14_2).trans ?_; refine (if_neg c_14_3).trans ?_; refine (if_neg c_14_4).trans ?_; refine (if_neg c_14_5).trans ?_; refine (if_neg c_14_6).trans ?_; refine (if_neg c_14_7).trans ?_; refine (if_pos c_14_8).trans ?_; rfl
                        rw [e] at hret
                        exact hret _ _ dX7_count_181
                      · skip
                        by_cases c_14_9 : wh = nI 9
                        · refine zj_topi (nI 9) c_14_9 ?_
                          refine zj_tin C (off := 168) 182 dX7_count_14 (by decide) (by decide) rfl (by decide) ?_
                          refine zj_aload_n C dX7_count_182 0 rfl ?_
                          refine zj_get C 0 7 0 (v := .ref (a 0)) inZ7 rfl rfl (by decide) tg_277 rfl dX7_count_183 ?_
                          refine zj_get C 1 6 8 (v := .ref (a 3)) inZ6 rfl rfl (by decide) tg_161 rfl dX7_count_186 ?_
                          refine zj_get C 4 4 0 (v := .int (nI (gOd_n (gTr_bu t)))) inZ4 rfl rfl (by decide) tg_76 rfl dX7_count_189 ?_
                          have e : f_X7_count t z y wh = (nI (gOd_n (gTr_bu t))) := by refine (if_neg c_1).trans ?_; refine (if_pos c_7).trans ?_; refine (if_neg c_14_0).trans ?_; refine (if_neg c_14_1).trans ?_; refine (if_neg c_14_2).trans ?_; refine (if_neg c_14_3).trans ?_; refine (if_neg c_14_4).trans ?_; refine (if_neg c_14_5).trans ?_; refine (if_neg c_14_6).trans ?_; refine (if_neg c_14_7).trans ?_; refine (if_neg c_14_8).trans ?_; refine (if_pos c_14_9).trans ?_; rfl
                          rw [e] at hret
                          exact hret _ _ dX7_count_192
                        · skip
                          by_cases c_14_10 : wh = nI 10
                          · refine zj_topi (nI 10) c_14_10 ?_
                            refine zj_tin C (off := 179) 193 dX7_count_14 (by decide) (by decide) rfl (by decide) ?_
                            refine zj_aload_n C dX7_count_193 0 rfl ?_
                            refine zj_get C 0 7 0 (v := .ref (a 0)) inZ7 rfl rfl (by decide) tg_277 rfl dX7_count_194 ?_
                            refine zj_get C 1 6 9 (v := .ref (a 7)) inZ6 rfl rfl (by decide) tg_164 rfl dX7_count_197 ?_
                            refine zj_get C 8 4 0 (v := .int (nI (gOd_n (gTr_le t)))) inZ4 rfl rfl (by decide) tg_76 rfl dX7_count_200 ?_
                            have e : f_X7_count t z y wh = (nI (gOd_n (gTr_le t))) := by refine (if_neg c_1).trans ?_; refine (if_pos c_7).trans ?_; refine (if_neg c_14_0).trans ?_; refine (if_neg c_14_1).trans ?_; refine (if_neg c_14_2).trans ?_; refine (if_neg c_14_3).trans ?_; refine (if_neg c_14_4).trans ?_; refine (if_neg c_14_5).trans ?_; refine (if_neg c_14_6).trans ?_; refine (if_neg c_14_7).trans ?_; refine (if_neg c_14_8).trans ?_; refine (if_neg c_14_9).trans ?_; refine (if_pos c_14_10).trans ?_; rfl
                            rw [e] at hret
                            exact hret _ _ dX7_count_203
                          · skip
                            by_cases c_14_11 : wh = nI 11
                            · refine zj_topi (nI 11) c_14_11 ?_
                              refine zj_tin C (off := 190) 204 dX7_count_14 (by decide) (by decide) rfl (by decide) ?_
                              refine zj_aload_n C dX7_count_204 0 rfl ?_
                              refine zj_get C 0 7 0 (v := .ref (a 0)) inZ7 rfl rfl (by decide) tg_277 rfl dX7_count_205 ?_
                              refine zj_get C 1 6 9 (v := .ref (a 7)) inZ6 rfl rfl (by decide) tg_164 rfl dX7_count_208 ?_
                              refine zj_iconst C (v := (nI 0)) dX7_count_211 (by decide) ?_
                              refine zj_aload_n C dX7_count_212 0 rfl ?_
                              refine zj_get C 0 7 0 (v := .ref (a 0)) inZ7 rfl rfl (by decide) tg_277 rfl dX7_count_213 ?_
                              refine zj_get C 1 6 9 (v := .ref (a 7)) inZ6 rfl rfl (by decide) tg_164 rfl dX7_count_216 ?_
                              refine zj_get C 8 4 0 (v := .int (nI (gOd_n (gTr_le t)))) inZ4 rfl rfl (by decide) tg_76 rfl dX7_count_219 ?_
                              have M_222 := c_X4_sum l D cy (a 7) (a 8) (a 9) (a 10) 0 (gOd_n (gTr_le t)) (gTr_le t) hl (by decide)
                              obtain ⟨R_222, hR_222⟩ : ∃ g : Int64, g = (f_X4_sum (gTr_le t) 0 (gOd_n (gTr_le t))) := ⟨_, rfl⟩
                              rw [← hR_222] at M_222
                              refine zj_callVP C (nn := 4) (w := (WT cy a t)) (w' := (WT cy a t)) (Bs' := ([(WX0 x0 x1 x2 a b d0 p0 h0), (WT cy a t), (WP cy p0 p1 z), (WHo cy h0 h1 hs (gHs_first y) (gHs_count y))] : List va_W)) (st := []) (st1 := [.long R_222]) 1 [7, 8, 9, 10] 7 4 (M_222) (zg_V tg_447 tg_543 tg_445 tg_446 tg_4) ⟨rfl, hdZ_X4_sum⟩ ⟨rfl, rfl⟩ ⟨by decide, by decide⟩ rfl rfl rfl rfl (by decide) ⟨rfl, rfl⟩ rfl rfl (Nat.le_of_ble_eq_true rfl) dX7_count_222 rfl rfl rfl ?_
                              refine zj_l2i C dX7_count_225 ?_
                              subst hR_222
                              have e : f_X7_count t z y wh = (((f_X4_sum (gTr_le t) 0 (gOd_n (gTr_le t)))).toInt32) := by refine (if_neg c_1).trans ?_; refine (if_pos c_7).trans ?_; refine (if_neg c_14_0).trans ?_; refine (if_neg c_14_1).trans ?_; refine (if_neg c_14_2).trans ?_; refine (if_neg c_14_3).trans ?_; refine (if_neg c_14_4).trans ?_; refine (if_neg c_14_5).trans ?_; refine (if_neg c_14_6).trans ?_; refine (if_neg c_14_7).trans ?_; refine (if_neg c_14_8).trans ?_; refine (if_neg c_14_9).trans ?_; refine (if_neg c_14_10).trans ?_; refine (if_pos c_14_11).trans ?_; rfl
                              rw [e] at hret
                              exact hret _ _ dX7_count_226
                            · skip
                              by_cases c_14_12 : wh = nI 12
                              · refine zj_topi (nI 12) c_14_12 ?_
                                refine zj_tin C (off := 229) 243 dX7_count_14 (by decide) (by decide) rfl (by decide) ?_
                                refine zj_aload_n C dX7_count_243 0 rfl ?_
                                refine zj_get C 0 7 0 (v := .ref (a 0)) inZ7 rfl rfl (by decide) tg_277 rfl dX7_count_244 ?_
                                refine zj_get C 1 6 6 (v := .ref (a 1)) inZ6 rfl rfl (by decide) tg_155 rfl dX7_count_247 ?_
                                refine zj_iload_n C dX7_count_250 1 rfl ?_
                                refine zj_topi (nI 12) c_14_12 ?_
                                refine zj_bipush C (v := (nI 12)) dX7_count_251 (by decide) ?_
                                refine zj_isub C dX7_count_253 ?_
                                refine zj_topi (nI 0) (by decide) ?_
                                refine zj_iald C 2 (f := (gTr_st t)) 0 (by decide) (vp_in_nI (by decide) (by decide)) rfl dX7_count_254 ?_
                                have e : f_X7_count t z y wh = ((gTr_st t) 0) := by refine (if_neg c_1).trans ?_; refine (if_pos c_7).trans ?_; refine (if_neg c_14_0).trans ?_; refine (if_neg c_14_1).trans ?_; refine (if_neg c_14_2).trans ?_; refine (if_neg c_14_3).trans ?_; refine (if_neg c_14_4).trans ?_; refine (if_neg c_14_5).trans ?_; refine (if_neg c_14_6).trans ?_; refine (if_neg c_14_7).trans ?_; refine (if_neg c_14_8).trans ?_; refine (if_neg c_14_9).trans ?_; refine (if_neg c_14_10).trans ?_; refine (if_neg c_14_11).trans ?_; refine (if_pos c_14_12).trans ?_; rfl
                                rw [e] at hret
                                exact hret _ _ dX7_count_255
                              · skip
                                by_cases c_14_13 : wh = nI 13
                                · refine zj_topi (nI 13) c_14_13 ?_
                                  refine zj_tin C (off := 229) 243 dX7_count_14 (by decide) (by decide) rfl (by decide) ?_
                                  refine zj_aload_n C dX7_count_243 0 rfl ?_
                                  refine zj_get C 0 7 0 (v := .ref (a 0)) inZ7 rfl rfl (by decide) tg_277 rfl dX7_count_244 ?_
                                  refine zj_get C 1 6 6 (v := .ref (a 1)) inZ6 rfl rfl (by decide) tg_155 rfl dX7_count_247 ?_
                                  refine zj_iload_n C dX7_count_250 1 rfl ?_
                                  refine zj_topi (nI 13) c_14_13 ?_
                                  refine zj_bipush C (v := (nI 12)) dX7_count_251 (by decide) ?_
                                  refine zj_isub C dX7_count_253 ?_
                                  refine zj_topi (nI 1) (by decide) ?_
                                  refine zj_iald C 2 (f := (gTr_st t)) 1 (by decide) (vp_in_nI (by decide) (by decide)) rfl dX7_count_254 ?_
                                  have e : f_X7_count t z y wh = ((gTr_st t) 1) := by refine (if_neg c_1).trans ?_; refine (if_pos c_7).trans ?_; refine (if_neg c_14_0).trans ?_; refine (if_neg c_14_1).trans ?_; refine (if_neg c_14_2).trans ?_; refine (if_neg c_14_3).trans ?_; refine (if_neg c_14_4).trans ?_; refine (if_neg c_14_5).trans ?_; refine (if_neg c_14_6).trans ?_; refine (if_neg c_14_7).trans ?_; refine (if_neg c_14_8).trans ?_; refine (if_neg c_14_9).trans ?_; refine (if_neg c_14_10).trans ?_; refine (if_neg c_14_11).trans ?_; refine (if_neg c_14_12).trans ?_; refine (if_pos c_14_13).trans ?_; rfl
                                  rw [e] at hret
                                  exact hret _ _ dX7_count_255
                                · skip
                                  by_cases c_14_14 : wh = nI 14
                                  · refine zj_topi (nI 14) c_14_14 ?_
                                    refine zj_tin C (off := 229) 243 dX7_count_14 (by decide) (by decide) rfl (by decide) ?_
                                    refine zj_aload_n C dX7_count_243 0 rfl ?_
                                    refine zj_get C 0 7 0 (v := .ref (a 0)) inZ7 rfl rfl (by decide) tg_277 rfl dX7_count_244 ?_
                                    refine zj_get C 1 6 6 (v := .ref (a 1)) inZ6 rfl rfl (by decide) tg_155 rfl dX7_count_247 ?_
                                    refine zj_iload_n C dX7_count_250 1 rfl ?_
                                    refine zj_topi (nI 14) c_14_14 ?_
                                    refine zj_bipush C (v := (nI 12)) dX7_count_251 (by decide) ?_
                                    refine zj_isub C dX7_count_253 ?_
                                    refine zj_topi (nI 2) (by decide) ?_
                                    refine zj_iald C 2 (f := (gTr_st t)) 2 (by decide) (vp_in_nI (by decide) (by decide)) rfl dX7_count_254 ?_
                                    have e : f_X7_count t z y wh = ((gTr_st t) 2) := by refine (if_neg c_1).trans ?_; refine (if_pos c_7).trans ?_; refine (if_neg c_14_0).trans ?_; refine (if_neg c_14_1).trans ?_; refine (if_neg c_14_2).trans ?_; refine (if_neg c_14_3).trans ?_; refine (if_neg c_14_4).trans ?_; refine (if_neg c_14_5).trans ?_; refine (if_neg c_14_6).trans ?_; refine (if_neg c_14_7).trans ?_; refine (if_neg c_14_8).trans ?_; refine (if_neg c_14_9).trans ?_; refine (if_neg c_14_10).trans ?_; refine (if_neg c_14_11).trans ?_; refine (if_neg c_14_12).trans ?_; refine (if_neg c_14_13).trans ?_; refine (if_pos c_14_14).trans ?_; rfl
                                    rw [e] at hret
                                    exact hret _ _ dX7_count_255
                                  · skip
                                    by_cases c_14_15 : wh = nI 15
                                    · refine zj_topi (nI 15) c_14_15 ?_
                                      refine zj_tin C (off := 229) 243 dX7_count_14 (by decide) (by decide) rfl (by decide) ?_
                                      refine zj_aload_n C dX7_count_243 0 rfl ?_
                                      refine zj_get C 0 7 0 (v := .ref (a 0)) inZ7 rfl rfl (by decide) tg_277 rfl dX7_count_244 ?_
                                      refine zj_get C 1 6 6 (v := .ref (a 1)) inZ6 rfl rfl (by decide) tg_155 rfl dX7_count_247 ?_
                                      refine zj_iload_n C dX7_count_250 1 rfl ?_
                                      refine zj_topi (nI 15) c_14_15 ?_
                                      refine zj_bipush C (v := (nI 12)) dX7_count_251 (by decide) ?_
                                      refine zj_isub C dX7_count_253 ?_
                                      refine zj_topi (nI 3) (by decide) ?_
                                      refine zj_iald C 2 (f := (gTr_st t)) 3 (by decide) (vp_in_nI (by decide) (by decide)) rfl dX7_count_254 ?_
                                      have e : f_X7_count t z y wh = ((gTr_st t) 3) := by refine (if_neg c_1).trans ?_; refine (if_pos c_7).trans ?_; refine (if_neg c_14_0).trans ?_; refine (if_neg c_14_1).trans ?_; refine (if_neg c_14_2).trans ?_; refine (if_neg c_14_3).trans ?_; refine (if_neg c_14_4).trans ?_; refine (if_neg c_14_5).trans ?_; refine (if_neg c_14_6).trans ?_; refine (if_neg c_14_7).trans ?_; refine (if_neg c_14_8).trans ?_; refine (if_neg c_14_9).trans ?_; refine (if_neg c_14_10).trans ?_; refine (if_neg c_14_11).trans ?_; refine (if_neg c_14_12).trans ?_; refine (if_neg c_14_13).trans ?_; refine (if_neg c_14_14).trans ?_; refine (if_pos c_14_15).trans ?_; rfl
                                      rw [e] at hret
                                      exact hret _ _ dX7_count_255
                                    · skip
                                      by_cases c_14_16 : wh = nI 16
                                      · refine zj_topi (nI 16) c_14_16 ?_
                                        refine zj_tin C (off := 229) 243 dX7_count_14 (by decide) (by decide) rfl (by decide) ?_
                                        refine zj_aload_n C dX7_count_243 0 rfl ?_
                                        refine zj_get C 0 7 0 (v := .ref (a 0)) inZ7 rfl rfl (by decide) tg_277 rfl dX7_count_244 ?_
                                        refine zj_get C 1 6 6 (v := .ref (a 1)) inZ6 rfl rfl (by decide) tg_155 rfl dX7_count_247 ?_
                                        refine zj_iload_n C dX7_count_250 1 rfl ?_
                                        refine zj_topi (nI 16) c_14_16 ?_
                                        refine zj_bipush C (v := (nI 12)) dX7_count_251 (by decide) ?_
                                        refine zj_isub C dX7_count_253 ?_
                                        refine zj_topi (nI 4) (by decide) ?_
                                        refine zj_iald C 2 (f := (gTr_st t)) 4 (by decide) (vp_in_nI (by decide) (by decide)) rfl dX7_count_254 ?_
                                        have e : f_X7_count t z y wh = ((gTr_st t) 4) := by refine (if_neg c_1).trans ?_; refine (if_pos c_7).trans ?_; refine (if_neg c_14_0).trans ?_; refine (if_neg c_14_1).trans ?_; refine (if_neg c_14_2).trans ?_; refine (if_neg c_14_3).trans ?_; refine (if_neg c_14_4).trans ?_; refine (if_neg c_14_5).trans ?_; refine (if_neg c_14_6).trans ?_; refine (if_neg c_14_7).trans ?_; refine (if_neg c_14_8).trans ?_; refine (if_neg c_14_9).trans ?_; refine (if_neg c_14_10).trans ?_; refine (if_neg c_14_11).trans ?_; refine (if_neg c_14_12).trans ?_; refine (if_neg c_14_13).trans ?_; refine (if_neg c_14_14).trans ?_; refine (if_neg c_14_15).trans ?_; refine (if_pos c_14_16).trans ?_; rfl
                                        rw [e] at hret
                                        exact hret _ _ dX7_count_255
                                      · skip
                                        by_cases c_14_17 : wh = nI 17
                                        · refine zj_topi (nI 17) c_14_17 ?_
                                          refine zj_tin C (off := 213) 227 dX7_count_14 (by decide) (by decide) rfl (by decide) ?_
                                          refine zj_aload_n C dX7_count_227 0 rfl ?_
                                          refine zj_get C 0 7 3 (v := .ref p0) inZ7 rfl rfl (by decide) tg_280 rfl dX7_count_228 ?_
                                          refine zj_get C 19 5 0 (v := .int (nI (gPd_n z))) inZ5 rfl rfl (by decide) tg_230 rfl dX7_count_231 ?_
                                          have e : f_X7_count t z y wh = (nI (gPd_n z)) := by refine (if_neg c_1).trans ?_; refine (if_pos c_7).trans ?_; refine (if_neg c_14_0).trans ?_; refine (if_neg c_14_1).trans ?_; refine (if_neg c_14_2).trans ?_; refine (if_neg c_14_3).trans ?_; refine (if_neg c_14_4).trans ?_; refine (if_neg c_14_5).trans ?_; refine (if_neg c_14_6).trans ?_; refine (if_neg c_14_7).trans ?_; refine (if_neg c_14_8).trans ?_; refine (if_neg c_14_9).trans ?_; refine (if_neg c_14_10).trans ?_; refine (if_neg c_14_11).trans ?_; refine (if_neg c_14_12).trans ?_; refine (if_neg c_14_13).trans ?_; refine (if_neg c_14_14).trans ?_; refine (if_neg c_14_15).trans ?_; refine (if_neg c_14_16).trans ?_; refine (if_pos c_14_17).trans ?_; rfl
                                          rw [e] at hret
                                          exact hret _ _ dX7_count_234
                                        · skip
                                          by_cases c_14_18 : wh = nI 18
                                          · refine zj_topi (nI 18) c_14_18 ?_
                                            refine zj_tin C (off := 221) 235 dX7_count_14 (by decide) (by decide) rfl (by decide) ?_
                                            refine zj_aload_n C dX7_count_235 0 rfl ?_
                                            refine zj_get C 0 7 4 (v := .ref h0) inZ7 rfl rfl (by decide) tg_281 rfl dX7_count_236 ?_
                                            refine zj_get C 21 1 2 (v := .int (nI (gHs_count y))) inZ1 rfl rfl (by decide) tg_269 rfl dX7_count_239 ?_
                                            have e : f_X7_count t z y wh = (nI (gHs_count y)) := by refine (if_neg c_1).trans ?_; refine (if_pos c_7).trans ?_; refine (if_neg c_14_0).trans ?_; refine (if_neg c_14_1).trans ?_; refine (if_neg c_14_2).trans ?_; refine (if_neg c_14_3).trans ?_; refine (if_neg c_14_4).trans ?_; refine (if_neg c_14_5).trans ?_; refine (if_neg c_14_6).trans ?_; refine (if_neg c_14_7).trans ?_; refine (if_neg c_14_8).trans ?_; refine (if_neg c_14_9).trans ?_; refine (if_neg c_14_10).trans ?_; refine (if_neg c_14_11).trans ?_; refine (if_neg c_14_12).trans ?_; refine (if_neg c_14_13).trans ?_; refine (if_neg c_14_14).trans ?_; refine (if_neg c_14_15).trans ?_; refine (if_neg c_14_16).trans ?_; refine (if_neg c_14_17).trans ?_; refine (if_pos c_14_18).trans ?_; rfl
                                            rw [e] at hret
                                            exact hret _ _ dX7_count_242
                                          · skip
                                            exact (xw19 c_1 c_7 c_14_0 c_14_1 c_14_2 c_14_3 c_14_4 c_14_5 c_14_6 c_14_7 c_14_8 c_14_9 c_14_10 c_14_11 c_14_12 c_14_13 c_14_14 c_14_15 c_14_16 c_14_17 c_14_18)
    · have c_7 : ¬ (wh < (nI 19)) := c
      refine zj_bipush C (v := (-2)) dX7_count_10 (by decide) ?_
      have e : f_X7_count t z y wh = (-2) := by refine (if_neg c_1).trans ?_; refine (if_neg c_7).trans ?_; rfl
      rw [e] at hret
      exact hret _ _ dX7_count_12
