theorem zvp5 {x : Int32} (h1 : ¬ x < 0) (h2 : ¬ nI 5 ≤ x) : vp_in x 5 := by
  obtain ⟨j, hj, rfl⟩ := nI_of h1
  rw [nI_leI (by decide) hj] at h2
  exact vp_in_nI (by omega) (by decide)
theorem xfull {o : zOd} {b : Bool} (hr : b = f_X4_isFull o) (c : b = false) : gOd_n o < 20 := by
  rcases Nat.lt_or_ge (gOd_n o) 20 with q | q
  · exact q
  · rw [hr] at c
    exact absurd c (by
      show ¬ (if gOd_n o < 20 then false else true) = false
      rw [if_neg (by omega)]; decide)
theorem zne_gt {x : Int64} (c : 0 < x) : ¬ x = 0 := fun e => by rw [e] at c; exact absurd c (by decide)
theorem xh_eq' {h : Int32} {b : Bool} (hr : b = f_X7_isHolder h) (c : ¬ b = false) : h = nI h.toNatClampNeg := xh_eq (by rw [← hr]; exact c)
theorem xh_lt' {h : Int32} {b : Bool} (hr : b = f_X7_isHolder h) (c : ¬ b = false) : h.toNatClampNeg < 6 := xh_lt (by rw [← hr]; exact c)

noncomputable def f_X6_changeSetting (t : zTr) (s : Int32) (v : Int32) : Int32 × zTr :=
  if s < 0 then
    ((-2), t)
  else
    if (nI 5) ≤ s then
      ((-2), t)
    else
      if v < 0 then
        ((-2), t)
      else
        if v ≤ (zGi s.toNatClampNeg) then
          let F_38 : Nat → Int32 := (upd (gTr_st t) s.toNatClampNeg v)
          (((gTr_st t) s.toNatClampNeg), (sTr_st t F_38))
        else
          ((-2), t)
set_option maxHeartbeats 4000000 in
set_option maxRecDepth 100000 in
theorem c_X6_changeSetting (l : Launch) (D : va_G) (cy : Nat → ClassId) (a : Nat → Nat) (s : Int32) (v : Int32) (t : zTr)  : zC l yX6_changeSetting (zW yX6_changeSetting cX6_changeSetting 4 (Option.some Jvm.ClassFile.FieldType.int)) { frames := 0, cells := 0, slots := 0, locals := 0 } D cy [.ref (a 0), .int s, .int v] (WT cy a t) (some (.int ((f_X6_changeSetting t s v).1))) (WT cy a ((f_X6_changeSetting t s v).2)) := by
  refine zC_of rfl (Nat.le_of_ble_eq_true rfl) (zOk_i _) (fun E C hret => ?_)
  show zJ E 4 0 0 (WT cy a t) 0 [(0, .ref (a 0)), (1, .int s), (2, .int v)] []
  refine zj_iload_n C dX6_changeSetting_0 1 rfl ?_
  refine zj_if_lt C 22 dX6_changeSetting_1 (by decide) (fun c => ?_) (fun c => ?_)
  · have c_1 : s < 0 := c
    refine zj_bipush C (v := (-2)) dX6_changeSetting_22 (by decide) ?_
    have e : f_X6_changeSetting t s v = ((-2), t) := by refine (if_pos c_1).trans ?_; rfl
    rw [e] at hret
    exact hret _ _ dX6_changeSetting_24
  · have c_1 : ¬ (s < 0) := c
    refine zj_iload_n C dX6_changeSetting_4 1 rfl ?_
    refine zj_iconst C (v := (nI 5)) dX6_changeSetting_5 (by decide) ?_
    refine zj_icmp_ge C 22 dX6_changeSetting_6 (by decide) (fun c => ?_) (fun c => ?_)
    · have c_6 : (nI 5) ≤ s := c
      refine zj_bipush C (v := (-2)) dX6_changeSetting_22 (by decide) ?_
      have e : f_X6_changeSetting t s v = ((-2), t) := by refine (if_neg c_1).trans ?_; refine (if_pos c_6).trans ?_; rfl
      rw [e] at hret
      exact hret _ _ dX6_changeSetting_24
    · have c_6 : ¬ ((nI 5) ≤ s) := c
      refine zj_iload_n C dX6_changeSetting_9 2 rfl ?_
      refine zj_if_lt C 22 dX6_changeSetting_10 (by decide) (fun c => ?_) (fun c => ?_)
      · have c_10 : v < 0 := c
        refine zj_bipush C (v := (-2)) dX6_changeSetting_22 (by decide) ?_
        have e : f_X6_changeSetting t s v = ((-2), t) := by refine (if_neg c_1).trans ?_; refine (if_neg c_6).trans ?_; refine (if_pos c_10).trans ?_; rfl
        rw [e] at hret
        exact hret _ _ dX6_changeSetting_24
      · have c_10 : ¬ (v < 0) := c
        refine zj_iload_n C dX6_changeSetting_13 2 rfl ?_
        refine zj_gst C rfl dX6_changeSetting_14 (fun tg hTg => ?_)
        refine zj_iload_n C dX6_changeSetting_17 1 rfl ?_
        refine zj_gald C hTg s.toNatClampNeg rfl (zvp5 c_1 c_6) dX6_changeSetting_18 ?_
        refine zj_icmp_le C 25 dX6_changeSetting_19 (by decide) (fun c => ?_) (fun c => ?_)
        · have c_19 : v ≤ (zGi s.toNatClampNeg) := c
          refine zj_aload_n C dX6_changeSetting_25 0 rfl ?_
          refine zj_get C 0 6 6 (v := .ref (a 1)) inZ6 rfl rfl (by decide) tg_153 rfl dX6_changeSetting_26 ?_
          refine zj_iload_n C dX6_changeSetting_29 1 rfl ?_
          refine zj_iald C 1 (f := (gTr_st t)) s.toNatClampNeg rfl (zvp5 c_1 c_6) rfl dX6_changeSetting_30 ?_
          refine zj_istore_n C (L' := [(3, .int ((gTr_st t) s.toNatClampNeg)), (0, .ref (a 0)), (1, .int s), (2, .int v)]) dX6_changeSetting_31 rfl (by decide) rfl ?_
          refine zj_aload_n C dX6_changeSetting_32 1 rfl ?_
          refine zj_get C 0 6 6 (v := .ref (a 1)) inZ6 rfl rfl (by decide) tg_153 rfl dX6_changeSetting_33 ?_
          refine zj_iload_n C dX6_changeSetting_36 2 rfl ?_
          refine zj_iload_n C dX6_changeSetting_37 3 rfl ?_
          obtain ⟨F_38, hF_38⟩ : ∃ g, g = (upd (gTr_st t) s.toNatClampNeg v) := ⟨_, rfl⟩
          refine zj_iast C 1 (f := (gTr_st t)) (ws' := (WT cy a (sTr_st t F_38))) s.toNatClampNeg rfl (zvp5 c_1 c_6) rfl dX6_changeSetting_38 (by rw [← hF_38]; rfl) ?_
          refine zj_iload_n C dX6_changeSetting_39 0 rfl ?_
          subst hF_38
          have e : f_X6_changeSetting t s v = (((gTr_st t) s.toNatClampNeg), (sTr_st t (upd (gTr_st t) s.toNatClampNeg v))) := by refine (if_neg c_1).trans ?_; refine (if_neg c_6).trans ?_; refine (if_neg c_10).trans ?_; refine (if_pos c_19).trans ?_; rfl
          rw [e] at hret
          exact hret _ _ dX6_changeSetting_40
        · have c_19 : ¬ (v ≤ (zGi s.toNatClampNeg)) := c
          refine zj_bipush C (v := (-2)) dX6_changeSetting_22 (by decide) ?_
          have e : f_X6_changeSetting t s v = ((-2), t) := by refine (if_neg c_1).trans ?_; refine (if_neg c_6).trans ?_; refine (if_neg c_10).trans ?_; refine (if_neg c_19).trans ?_; rfl
          rw [e] at hret
          exact hret _ _ dX6_changeSetting_24

noncomputable def f_X6_orderToBuy (t : zTr) (h : Int32) (am : Int32) (hour : Int32) : Int32 × zTr :=
  let R_1 : Bool := (f_X7_isHolder h)
  if R_1 = false then
    ((-1), t)
  else
    if am < (nI 1) then
      ((-2), t)
    else
      if (nI 1000000) < am then
        ((-2), t)
      else
        let R_21 : Bool := (f_X6_isHour hour)
        if R_21 = false then
          ((-2), t)
        else
          let R_34 : Bool := (f_X4_isFull (gTr_bu t))
          if R_34 = false then
            let R_51 : Int32 := (f_X6_dayOf t hour)
            let T_54 : zOd := (f_X4_add (gTr_bu t) h am R_51)
            let R_59 : Int32 := (f_X6_dayOf (sTr_bu t T_54) hour)
            (R_59, (sTr_bu t T_54))
          else
            ((-4), t)
set_option maxHeartbeats 4000000 in
set_option maxRecDepth 100000 in
theorem c_X6_orderToBuy (l : Launch) (D : va_G) (cy : Nat → ClassId) (a : Nat → Nat) (h : Int32) (am : Int32) (hour : Int32) (t : zTr) (hb : gOd_n (gTr_bu t) ≤ 20) : zC l yX6_orderToBuy (zW yX6_orderToBuy cX6_orderToBuy 4 (Option.some Jvm.ClassFile.FieldType.int)) { frames := 2, cells := 0, slots := 0, locals := 48 } D cy [.ref (a 0), .int h, .int am, .int hour] (WT cy a t) (some (.int ((f_X6_orderToBuy t h am hour).1))) (WT cy a ((f_X6_orderToBuy t h am hour).2)) := by
  refine zC_of rfl (Nat.le_of_ble_eq_true rfl) (zOk_i _) (fun E C hret => ?_)
  show zJ E 4 0 0 (WT cy a t) 0 [(0, .ref (a 0)), (1, .int h), (2, .int am), (3, .int hour)] []
  refine zj_iload_n C dX6_orderToBuy_0 1 rfl ?_
  have M_1 := c_X7_isHolder l D cy  h  
  obtain ⟨R_1, hR_1⟩ : ∃ g : Bool, g = (f_X7_isHolder h) := ⟨_, rfl⟩
  rw [← hR_1] at M_1
  refine zj_callSN C (nn := 0) (ws' := (WT cy a t)) (st := []) (st1 := [.int (zB R_1)]) [] (M_1) tg_348 (fun _ _ _ h => h.2.1) tg_347 tg_1 hdZ_X7_isHolder ⟨rfl, rfl⟩ ⟨by decide, by decide⟩ rfl (by decide) ⟨rfl, rfl⟩ rfl rfl (Nat.le_of_ble_eq_true rfl) dX6_orderToBuy_1 rfl rfl ?_
  refine zj_if_ne C 9 dX6_orderToBuy_4 (by decide) (fun c => ?_) (fun c => ?_)
  · have c_4 : ¬ (R_1 = false) := (zB_neq c)
    refine zj_iload_n C dX6_orderToBuy_9 2 rfl ?_
    refine zj_iconst C (v := (nI 1)) dX6_orderToBuy_10 (by decide) ?_
    refine zj_icmp_lt C 27 dX6_orderToBuy_11 (by decide) (fun c => ?_) (fun c => ?_)
    · have c_11 : am < (nI 1) := c
      refine zj_bipush C (v := (-2)) dX6_orderToBuy_27 (by decide) ?_
      subst hR_1
      have e : f_X6_orderToBuy t h am hour = ((-2), t) := by refine (if_neg c_4).trans ?_; refine (if_pos c_11).trans ?_; rfl
      rw [e] at hret
      exact hret _ _ dX6_orderToBuy_29
    · have c_11 : ¬ (am < (nI 1)) := c
      refine zj_iload_n C dX6_orderToBuy_14 2 rfl ?_
      refine zj_ldc C dX6_orderToBuy_15 tg_349 ?_
      refine zj_topi (nI 1000000) (by decide) ?_
      refine zj_icmp_gt C 27 dX6_orderToBuy_17 (by decide) (fun c => ?_) (fun c => ?_)
      · have c_17 : (nI 1000000) < am := c
        refine zj_bipush C (v := (-2)) dX6_orderToBuy_27 (by decide) ?_
        subst hR_1
        have e : f_X6_orderToBuy t h am hour = ((-2), t) := by refine (if_neg c_4).trans ?_; refine (if_neg c_11).trans ?_; refine (if_pos c_17).trans ?_; rfl
        rw [e] at hret
        exact hret _ _ dX6_orderToBuy_29
      · have c_17 : ¬ ((nI 1000000) < am) := c
        refine zj_iload_n C dX6_orderToBuy_20 3 rfl ?_
        have M_21 := c_X6_isHour l D cy  hour  
        obtain ⟨R_21, hR_21⟩ : ∃ g : Bool, g = (f_X6_isHour hour) := ⟨_, rfl⟩
        rw [← hR_21] at M_21
        refine zj_callS C (nn := 0) (ws' := (WT cy a t)) (st := []) (st1 := [.int (zB R_21)]) [] (M_21) tg_352 tg_350 tg_351 tg_2 hdZ_X6_isHour ⟨rfl, rfl⟩ ⟨by decide, by decide⟩ rfl (by decide) ⟨rfl, rfl⟩ rfl rfl (Nat.le_of_ble_eq_true rfl) dX6_orderToBuy_21 rfl rfl ?_
        refine zj_if_ne C 30 dX6_orderToBuy_24 (by decide) (fun c => ?_) (fun c => ?_)
        · have c_24 : ¬ (R_21 = false) := (zB_neq c)
          refine zj_aload_n C dX6_orderToBuy_30 0 rfl ?_
          refine zj_get C 0 6 8 (v := .ref (a 3)) inZ6 rfl rfl (by decide) tg_159 rfl dX6_orderToBuy_31 ?_
          have M_34 := c_X4_isFull l D cy (a 3) (a 4) (a 5) (a 6)  (gTr_bu t) hb
          obtain ⟨R_34, hR_34⟩ : ∃ g : Bool, g = (f_X4_isFull (gTr_bu t)) := ⟨_, rfl⟩
          rw [← hR_34] at M_34
          refine zj_callV C (nn := 4) (ws' := (WT cy a t)) (st := []) (st1 := [.int (zB R_34)]) 3 4 [3, 4, 5, 6] (M_34) (zg_V tg_356 tg_353 tg_354 tg_355 tg_4) ⟨rfl, hdZ_X4_isFull⟩ ⟨rfl, rfl⟩ ⟨by decide, by decide⟩ rfl rfl rfl (by decide) ⟨rfl, rfl⟩ rfl rfl (Nat.le_of_ble_eq_true rfl) dX6_orderToBuy_34 rfl rfl ?_
          refine zj_if_eq C 43 dX6_orderToBuy_37 (by decide) (fun c => ?_) (fun c => ?_)
          · have c_37 : R_34 = false := (zB_eq c)
            refine zj_aload_n C dX6_orderToBuy_43 0 rfl ?_
            refine zj_get C 0 6 8 (v := .ref (a 3)) inZ6 rfl rfl (by decide) tg_159 rfl dX6_orderToBuy_44 ?_
            refine zj_iload_n C dX6_orderToBuy_47 1 rfl ?_
            refine zj_iload_n C dX6_orderToBuy_48 2 rfl ?_
            refine zj_aload_n C dX6_orderToBuy_49 0 rfl ?_
            refine zj_iload_n C dX6_orderToBuy_50 3 rfl ?_
            have M_51 := c_X6_dayOf l D cy a hour t 
            obtain ⟨R_51, hR_51⟩ : ∃ g : Int32, g = (f_X6_dayOf t hour) := ⟨_, rfl⟩
            rw [← hR_51] at M_51
            refine zj_callVB C (nn := 18) (ws' := (WT cy a t)) (st := [.int am, .int h, .ref (a 3)]) (st1 := [.int R_51, .int am, .int h, .ref (a 3)]) ([] : va_W) ([] : va_W) 0 6 (M_51) (zg_V tg_360 tg_357 tg_359 tgp_1 tg_2) ⟨rfl, hdZ_X6_dayOf⟩ ⟨rfl, rfl⟩ ⟨by decide, by decide⟩ rfl rfl (List.append_nil _).symm ⟨rfl, rfl⟩ rfl rfl (Nat.le_of_ble_eq_true rfl) dX6_orderToBuy_51 (List.append_nil _) rfl ?_
            have M_54 := c_X4_add l D cy (a 3) (a 4) (a 5) (a 6) h am R_51 (gTr_bu t) hb
            obtain ⟨T_54, hT_54⟩ : ∃ g : zOd, g = (f_X4_add (gTr_bu t) h am R_51) := ⟨_, rfl⟩
            rw [← hT_54] at M_54
            refine zj_callV C (nn := 4) (ws' := (WT cy a (sTr_bu t T_54))) (st := []) (st1 := []) 3 4 [3, 4, 5, 6] (M_54) (zg_V tg_364 tg_361 tg_362 tg_363 tg_4) ⟨rfl, hdZ_X4_add⟩ ⟨rfl, rfl⟩ ⟨by decide, by decide⟩ rfl rfl rfl (by decide) ⟨rfl, rfl⟩ rfl rfl (Nat.le_of_ble_eq_true rfl) dX6_orderToBuy_54 rfl rfl ?_
            refine zj_aload_n C dX6_orderToBuy_57 0 rfl ?_
            refine zj_iload_n C dX6_orderToBuy_58 3 rfl ?_
            have M_59 := c_X6_dayOf l D cy a hour (sTr_bu t T_54) 
            obtain ⟨R_59, hR_59⟩ : ∃ g : Int32, g = (f_X6_dayOf (sTr_bu t T_54) hour) := ⟨_, rfl⟩
            rw [← hR_59] at M_59
            refine zj_callVB C (nn := 18) (ws' := (WT cy a (sTr_bu t T_54))) (st := []) (st1 := [.int R_59]) ([] : va_W) ([] : va_W) 0 6 (M_59) (zg_V tg_360 tg_357 tg_359 tgp_1 tg_2) ⟨rfl, hdZ_X6_dayOf⟩ ⟨rfl, rfl⟩ ⟨by decide, by decide⟩ rfl rfl (List.append_nil _).symm ⟨rfl, rfl⟩ rfl rfl (Nat.le_of_ble_eq_true rfl) dX6_orderToBuy_59 (List.append_nil _) rfl ?_
            subst hR_59
            subst hT_54
            subst hR_51
            subst hR_34
            subst hR_21
            subst hR_1
            have e : f_X6_orderToBuy t h am hour = ((f_X6_dayOf (sTr_bu t (f_X4_add (gTr_bu t) h am (f_X6_dayOf t hour))) hour), (sTr_bu t (f_X4_add (gTr_bu t) h am (f_X6_dayOf t hour)))) := by refine (if_neg c_4).trans ?_; refine (if_neg c_11).trans ?_; refine (if_neg c_17).trans ?_; refine (if_neg c_24).trans ?_; refine (if_pos c_37).trans ?_; rfl
            rw [e] at hret
            exact hret _ _ dX6_orderToBuy_62
          · have c_37 : ¬ (R_34 = false) := (zB_neq c)
            refine zj_bipush C (v := (-4)) dX6_orderToBuy_40 (by decide) ?_
            subst hR_34
            subst hR_21
            subst hR_1
            have e : f_X6_orderToBuy t h am hour = ((-4), t) := by refine (if_neg c_4).trans ?_; refine (if_neg c_11).trans ?_; refine (if_neg c_17).trans ?_; refine (if_neg c_24).trans ?_; refine (if_neg c_37).trans ?_; rfl
            rw [e] at hret
            exact hret _ _ dX6_orderToBuy_42
        · have c_24 : R_21 = false := (zB_eq (Classical.not_not.mp c))
          refine zj_bipush C (v := (-2)) dX6_orderToBuy_27 (by decide) ?_
          subst hR_21
          subst hR_1
          have e : f_X6_orderToBuy t h am hour = ((-2), t) := by refine (if_neg c_4).trans ?_; refine (if_neg c_11).trans ?_; refine (if_neg c_17).trans ?_; refine (if_pos c_24).trans ?_; rfl
          rw [e] at hret
          exact hret _ _ dX6_orderToBuy_29
  · have c_4 : R_1 = false := (zB_eq (Classical.not_not.mp c))
    refine zj_iconst C (v := (-1)) dX6_orderToBuy_7 (by decide) ?_
    subst hR_1
    have e : f_X6_orderToBuy t h am hour = ((-1), t) := by refine (if_pos c_4).trans ?_; rfl
    rw [e] at hret
    exact hret _ _ dX6_orderToBuy_8

noncomputable def f_X6_orderToLeave (t : zTr) (h : Int32) (un : Int32) (hour : Int32) : Int32 × zTr :=
  let R_1 : Bool := (f_X7_isHolder h)
  if R_1 = false then
    ((-1), t)
  else
    if un < (nI 1) then
      ((-2), t)
    else
      let R_15 : Bool := (f_X6_isHour hour)
      if R_15 = false then
        ((-2), t)
      else
        let R_28 : Bool := (f_X4_isFull (gTr_le t))
        if R_28 = false then
          let R_41 : Int64 := (f_X6_freeUnits t h.toNatClampNeg)
          if (un.toInt64) ≤ R_41 then
            let R_59 : Int32 := (f_X6_dayOf t hour)
            let T_62 : zOd := (f_X4_add (gTr_le t) h un R_59)
            let R_67 : Int32 := (f_X6_dayOf (sTr_le t T_62) hour)
            (R_67, (sTr_le t T_62))
          else
            ((-5), t)
        else
          ((-4), t)
set_option maxHeartbeats 4000000 in
set_option maxRecDepth 100000 in
theorem c_X6_orderToLeave (l : Launch) (D : va_G) (cy : Nat → ClassId) (a : Nat → Nat) (h : Int32) (un : Int32) (hour : Int32) (t : zTr) (hl : gOd_n (gTr_le t) ≤ 20) : zC l yX6_orderToLeave (zW yX6_orderToLeave cX6_orderToLeave 4 (Option.some Jvm.ClassFile.FieldType.int)) { frames := 2, cells := 0, slots := 0, locals := 48 } D cy [.ref (a 0), .int h, .int un, .int hour] (WT cy a t) (some (.int ((f_X6_orderToLeave t h un hour).1))) (WT cy a ((f_X6_orderToLeave t h un hour).2)) := by
  refine zC_of rfl (Nat.le_of_ble_eq_true rfl) (zOk_i _) (fun E C hret => ?_)
  show zJ E 4 0 0 (WT cy a t) 0 [(0, .ref (a 0)), (1, .int h), (2, .int un), (3, .int hour)] []
  refine zj_iload_n C dX6_orderToLeave_0 1 rfl ?_
  have M_1 := c_X7_isHolder l D cy  h  
  obtain ⟨R_1, hR_1⟩ : ∃ g : Bool, g = (f_X7_isHolder h) := ⟨_, rfl⟩
  rw [← hR_1] at M_1
  refine zj_callSN C (nn := 0) (ws' := (WT cy a t)) (st := []) (st1 := [.int (zB R_1)]) [] (M_1) tg_348 (fun _ _ _ h => h.2.1) tg_347 tg_1 hdZ_X7_isHolder ⟨rfl, rfl⟩ ⟨by decide, by decide⟩ rfl (by decide) ⟨rfl, rfl⟩ rfl rfl (Nat.le_of_ble_eq_true rfl) dX6_orderToLeave_1 rfl rfl ?_
  refine zj_if_ne C 9 dX6_orderToLeave_4 (by decide) (fun c => ?_) (fun c => ?_)
  · have c_4 : ¬ (R_1 = false) := (zB_neq c)
    refine zj_iload_n C dX6_orderToLeave_9 2 rfl ?_
    refine zj_iconst C (v := (nI 1)) dX6_orderToLeave_10 (by decide) ?_
    refine zj_icmp_lt C 21 dX6_orderToLeave_11 (by decide) (fun c => ?_) (fun c => ?_)
    · have c_11 : un < (nI 1) := c
      refine zj_bipush C (v := (-2)) dX6_orderToLeave_21 (by decide) ?_
      subst hR_1
      have e : f_X6_orderToLeave t h un hour = ((-2), t) := by refine (if_neg c_4).trans ?_; refine (if_pos c_11).trans ?_; rfl
      rw [e] at hret
      exact hret _ _ dX6_orderToLeave_23
    · have c_11 : ¬ (un < (nI 1)) := c
      refine zj_iload_n C dX6_orderToLeave_14 3 rfl ?_
      have M_15 := c_X6_isHour l D cy  hour  
      obtain ⟨R_15, hR_15⟩ : ∃ g : Bool, g = (f_X6_isHour hour) := ⟨_, rfl⟩
      rw [← hR_15] at M_15
      refine zj_callS C (nn := 0) (ws' := (WT cy a t)) (st := []) (st1 := [.int (zB R_15)]) [] (M_15) tg_352 tg_350 tg_351 tg_2 hdZ_X6_isHour ⟨rfl, rfl⟩ ⟨by decide, by decide⟩ rfl (by decide) ⟨rfl, rfl⟩ rfl rfl (Nat.le_of_ble_eq_true rfl) dX6_orderToLeave_15 rfl rfl ?_
      refine zj_if_ne C 24 dX6_orderToLeave_18 (by decide) (fun c => ?_) (fun c => ?_)
      · have c_18 : ¬ (R_15 = false) := (zB_neq c)
        refine zj_aload_n C dX6_orderToLeave_24 0 rfl ?_
        refine zj_get C 0 6 9 (v := .ref (a 7)) inZ6 rfl rfl (by decide) tg_162 rfl dX6_orderToLeave_25 ?_
        have M_28 := c_X4_isFull l D cy (a 7) (a 8) (a 9) (a 10)  (gTr_le t) hl
        obtain ⟨R_28, hR_28⟩ : ∃ g : Bool, g = (f_X4_isFull (gTr_le t)) := ⟨_, rfl⟩
        rw [← hR_28] at M_28
        refine zj_callV C (nn := 4) (ws' := (WT cy a t)) (st := []) (st1 := [.int (zB R_28)]) 7 4 [7, 8, 9, 10] (M_28) (zg_V tg_356 tg_353 tg_354 tg_355 tg_4) ⟨rfl, hdZ_X4_isFull⟩ ⟨rfl, rfl⟩ ⟨by decide, by decide⟩ rfl rfl rfl (by decide) ⟨rfl, rfl⟩ rfl rfl (Nat.le_of_ble_eq_true rfl) dX6_orderToLeave_28 rfl rfl ?_
        refine zj_if_eq C 37 dX6_orderToLeave_31 (by decide) (fun c => ?_) (fun c => ?_)
        · have c_31 : R_28 = false := (zB_eq c)
          refine zj_iload_n C dX6_orderToLeave_37 2 rfl ?_
          refine zj_i2l C dX6_orderToLeave_38 ?_
          refine zj_aload_n C dX6_orderToLeave_39 0 rfl ?_
          refine zj_iload_n C dX6_orderToLeave_40 1 rfl ?_
          refine zj_topi (nI h.toNatClampNeg) (xh_eq' hR_1 c_4) ?_
          have M_41 := c_X6_freeUnits l D cy a h.toNatClampNeg t (xh_lt' hR_1 c_4) hl
          obtain ⟨R_41, hR_41⟩ : ∃ g : Int64, g = (f_X6_freeUnits t h.toNatClampNeg) := ⟨_, rfl⟩
          rw [← hR_41] at M_41
          refine zj_callVB C (nn := 18) (ws' := (WT cy a t)) (st := [.long (un.toInt64)]) (st1 := [.long R_41, .long (un.toInt64)]) ([] : va_W) ([] : va_W) 0 6 (M_41) (zg_V tg_377 tg_374 tg_376 tgp_2 tg_2) ⟨rfl, hdZ_X6_freeUnits⟩ ⟨rfl, rfl⟩ ⟨by decide, by decide⟩ rfl rfl (List.append_nil _).symm ⟨rfl, rfl⟩ rfl rfl (Nat.le_of_ble_eq_true rfl) dX6_orderToLeave_41 (List.append_nil _) rfl ?_
          refine zj_lcmp_le C 51 dX6_orderToLeave_44 dX6_orderToLeave_45 (by decide) (fun c => ?_) (fun c => ?_)
          · have c_44 : (un.toInt64) ≤ R_41 := c
            refine zj_aload_n C dX6_orderToLeave_51 0 rfl ?_
            refine zj_get C 0 6 9 (v := .ref (a 7)) inZ6 rfl rfl (by decide) tg_162 rfl dX6_orderToLeave_52 ?_
            refine zj_iload_n C dX6_orderToLeave_55 1 rfl ?_
            refine zj_iload_n C dX6_orderToLeave_56 2 rfl ?_
            refine zj_aload_n C dX6_orderToLeave_57 0 rfl ?_
            refine zj_iload_n C dX6_orderToLeave_58 3 rfl ?_
            have M_59 := c_X6_dayOf l D cy a hour t 
            obtain ⟨R_59, hR_59⟩ : ∃ g : Int32, g = (f_X6_dayOf t hour) := ⟨_, rfl⟩
            rw [← hR_59] at M_59
            refine zj_callVB C (nn := 18) (ws' := (WT cy a t)) (st := [.int un, .int h, .ref (a 7)]) (st1 := [.int R_59, .int un, .int h, .ref (a 7)]) ([] : va_W) ([] : va_W) 0 6 (M_59) (zg_V tg_360 tg_357 tg_359 tgp_1 tg_2) ⟨rfl, hdZ_X6_dayOf⟩ ⟨rfl, rfl⟩ ⟨by decide, by decide⟩ rfl rfl (List.append_nil _).symm ⟨rfl, rfl⟩ rfl rfl (Nat.le_of_ble_eq_true rfl) dX6_orderToLeave_59 (List.append_nil _) rfl ?_
            have M_62 := c_X4_add l D cy (a 7) (a 8) (a 9) (a 10) h un R_59 (gTr_le t) hl
            obtain ⟨T_62, hT_62⟩ : ∃ g : zOd, g = (f_X4_add (gTr_le t) h un R_59) := ⟨_, rfl⟩
            rw [← hT_62] at M_62
            refine zj_callV C (nn := 4) (ws' := (WT cy a (sTr_le t T_62))) (st := []) (st1 := []) 7 4 [7, 8, 9, 10] (M_62) (zg_V tg_364 tg_361 tg_362 tg_363 tg_4) ⟨rfl, hdZ_X4_add⟩ ⟨rfl, rfl⟩ ⟨by decide, by decide⟩ rfl rfl rfl (by decide) ⟨rfl, rfl⟩ rfl rfl (Nat.le_of_ble_eq_true rfl) dX6_orderToLeave_62 rfl rfl ?_
            refine zj_aload_n C dX6_orderToLeave_65 0 rfl ?_
            refine zj_iload_n C dX6_orderToLeave_66 3 rfl ?_
            have M_67 := c_X6_dayOf l D cy a hour (sTr_le t T_62) 
            obtain ⟨R_67, hR_67⟩ : ∃ g : Int32, g = (f_X6_dayOf (sTr_le t T_62) hour) := ⟨_, rfl⟩
            rw [← hR_67] at M_67
            refine zj_callVB C (nn := 18) (ws' := (WT cy a (sTr_le t T_62))) (st := []) (st1 := [.int R_67]) ([] : va_W) ([] : va_W) 0 6 (M_67) (zg_V tg_360 tg_357 tg_359 tgp_1 tg_2) ⟨rfl, hdZ_X6_dayOf⟩ ⟨rfl, rfl⟩ ⟨by decide, by decide⟩ rfl rfl (List.append_nil _).symm ⟨rfl, rfl⟩ rfl rfl (Nat.le_of_ble_eq_true rfl) dX6_orderToLeave_67 (List.append_nil _) rfl ?_
            subst hR_67
            subst hT_62
            subst hR_59
            subst hR_41
            subst hR_28
            subst hR_15
            subst hR_1
            have e : f_X6_orderToLeave t h un hour = ((f_X6_dayOf (sTr_le t (f_X4_add (gTr_le t) h un (f_X6_dayOf t hour))) hour), (sTr_le t (f_X4_add (gTr_le t) h un (f_X6_dayOf t hour)))) := by refine (if_neg c_4).trans ?_; refine (if_neg c_11).trans ?_; refine (if_neg c_18).trans ?_; refine (if_pos c_31).trans ?_; refine (if_pos c_44).trans ?_; rfl
            rw [e] at hret
            exact hret _ _ dX6_orderToLeave_70
          · have c_44 : ¬ ((un.toInt64) ≤ R_41) := c
            refine zj_bipush C (v := (-5)) dX6_orderToLeave_48 (by decide) ?_
            subst hR_41
            subst hR_28
            subst hR_15
            subst hR_1
            have e : f_X6_orderToLeave t h un hour = ((-5), t) := by refine (if_neg c_4).trans ?_; refine (if_neg c_11).trans ?_; refine (if_neg c_18).trans ?_; refine (if_pos c_31).trans ?_; refine (if_neg c_44).trans ?_; rfl
            rw [e] at hret
            exact hret _ _ dX6_orderToLeave_50
        · have c_31 : ¬ (R_28 = false) := (zB_neq c)
          refine zj_bipush C (v := (-4)) dX6_orderToLeave_34 (by decide) ?_
          subst hR_28
          subst hR_15
          subst hR_1
          have e : f_X6_orderToLeave t h un hour = ((-4), t) := by refine (if_neg c_4).trans ?_; refine (if_neg c_11).trans ?_; refine (if_neg c_18).trans ?_; refine (if_neg c_31).trans ?_; rfl
          rw [e] at hret
          exact hret _ _ dX6_orderToLeave_36
      · have c_18 : R_15 = false := (zB_eq (Classical.not_not.mp c))
        refine zj_bipush C (v := (-2)) dX6_orderToLeave_21 (by decide) ?_
        subst hR_15
        subst hR_1
        have e : f_X6_orderToLeave t h un hour = ((-2), t) := by refine (if_neg c_4).trans ?_; refine (if_neg c_11).trans ?_; refine (if_pos c_18).trans ?_; rfl
        rw [e] at hret
        exact hret _ _ dX6_orderToLeave_23
  · have c_4 : R_1 = false := (zB_eq (Classical.not_not.mp c))
    refine zj_iconst C (v := (-1)) dX6_orderToLeave_7 (by decide) ?_
    subst hR_1
    have e : f_X6_orderToLeave t h un hour = ((-1), t) := by refine (if_pos c_4).trans ?_; rfl
    rw [e] at hret
    exact hret _ _ dX6_orderToLeave_8

noncomputable def f_X6_exitInKind (t : zTr) (h : Int32) (un : Int32) : Int32 × zTr :=
  let R_1 : Bool := (f_X7_isHolder h)
  if R_1 = false then
    ((-1), t)
  else
    if (nI 1) ≤ un then
      let R_18 : Int64 := (f_X6_units t)
      let R_26 : Int64 := (f_X6_freeUnits t h.toNatClampNeg)
      if R_26 < (un.toInt64) then
        ((-5), t)
      else
        if 0 < R_18 then
          let V_74 : Int32 := ((gTr_lots t) - (((((un.toInt64) * (((gTr_lots t)).toInt64)) / R_18)).toInt32))
          let V_91 : Int64 := ((gHd_lots (gTr_hd t h.toNatClampNeg)) + (((((((un.toInt64) * (((gTr_lots t)).toInt64)) / R_18)).toInt32)).toInt64))
          let R_106 : Int64 := (f_X6_unitIncome (sTr_hd (sTr_lots t V_74) (zup (gTr_hd t) h.toNatClampNeg (sHd_lots (gTr_hd t h.toNatClampNeg) V_91))))
          let T_109 : zTr := (f_X6_takeUnits (sTr_hd (sTr_lots t V_74) (zup (gTr_hd t) h.toNatClampNeg (sHd_lots (gTr_hd t h.toNatClampNeg) V_91))) h.toNatClampNeg (un.toInt64) (((un.toInt64) * (gTr_cash t)) / R_18) R_106)
          ((((((un.toInt64) * (((gTr_lots t)).toInt64)) / R_18)).toInt32), T_109)
        else
          ((-5), t)
    else
      ((-2), t)
set_option maxHeartbeats 4000000 in
set_option maxRecDepth 100000 in
theorem c_X6_exitInKind (l : Launch) (D : va_G) (cy : Nat → ClassId) (a : Nat → Nat) (h : Int32) (un : Int32) (t : zTr) (hl : gOd_n (gTr_le t) ≤ 20) : zC l yX6_exitInKind (zW yX6_exitInKind cX6_exitInKind 8 (Option.some Jvm.ClassFile.FieldType.int)) { frames := 3, cells := 0, slots := 0, locals := 65 } D cy [.ref (a 0), .int h, .int un] (WT cy a t) (some (.int ((f_X6_exitInKind t h un).1))) (WT cy a ((f_X6_exitInKind t h un).2)) := by
  refine zC_of rfl (Nat.le_of_ble_eq_true rfl) (zOk_i _) (fun E C hret => ?_)
  show zJ E 8 0 0 (WT cy a t) 0 [(0, .ref (a 0)), (1, .int h), (2, .int un)] []
  refine zj_iload_n C dX6_exitInKind_0 1 rfl ?_
  have M_1 := c_X7_isHolder l D cy  h  
  obtain ⟨R_1, hR_1⟩ : ∃ g : Bool, g = (f_X7_isHolder h) := ⟨_, rfl⟩
  rw [← hR_1] at M_1
  refine zj_callSN C (nn := 0) (ws' := (WT cy a t)) (st := []) (st1 := [.int (zB R_1)]) [] (M_1) tg_348 (fun _ _ _ h => h.2.1) tg_347 tg_1 hdZ_X7_isHolder ⟨rfl, rfl⟩ ⟨by decide, by decide⟩ rfl (by decide) ⟨rfl, rfl⟩ rfl rfl (Nat.le_of_ble_eq_true rfl) dX6_exitInKind_1 rfl rfl ?_
  refine zj_if_ne C 9 dX6_exitInKind_4 (by decide) (fun c => ?_) (fun c => ?_)
  · have c_4 : ¬ (R_1 = false) := (zB_neq c)
    refine zj_iload_n C dX6_exitInKind_9 2 rfl ?_
    refine zj_iconst C (v := (nI 1)) dX6_exitInKind_10 (by decide) ?_
    refine zj_icmp_ge C 17 dX6_exitInKind_11 (by decide) (fun c => ?_) (fun c => ?_)
    · have c_11 : (nI 1) ≤ un := c
      refine zj_aload_n C dX6_exitInKind_17 0 rfl ?_
      have M_18 := c_X6_units l D cy a  t 
      obtain ⟨R_18, hR_18⟩ : ∃ g : Int64, g = (f_X6_units t) := ⟨_, rfl⟩
      rw [← hR_18] at M_18
      refine zj_callVB C (nn := 18) (ws' := (WT cy a t)) (st := []) (st1 := [.long R_18]) ([] : va_W) ([] : va_W) 0 6 (M_18) (zg_V tg_397 tg_394 tg_395 tg_396 tg_2) ⟨rfl, hdZ_X6_units⟩ ⟨rfl, rfl⟩ ⟨by decide, by decide⟩ rfl rfl (List.append_nil _).symm ⟨rfl, rfl⟩ rfl rfl (Nat.le_of_ble_eq_true rfl) dX6_exitInKind_18 (List.append_nil _) rfl ?_
      refine zj_lstore_n C (L' := [(3, .long R_18), (0, .ref (a 0)), (1, .int h), (2, .int un)]) dX6_exitInKind_21 rfl (by decide) rfl ?_
      refine zj_iload_n C dX6_exitInKind_22 3 rfl ?_
      refine zj_i2l C dX6_exitInKind_23 ?_
      refine zj_aload_n C dX6_exitInKind_24 1 rfl ?_
      refine zj_iload_n C dX6_exitInKind_25 2 rfl ?_
      refine zj_topi (nI h.toNatClampNeg) (xh_eq' hR_1 c_4) ?_
      have M_26 := c_X6_freeUnits l D cy a h.toNatClampNeg t (xh_lt' hR_1 c_4) hl
      obtain ⟨R_26, hR_26⟩ : ∃ g : Int64, g = (f_X6_freeUnits t h.toNatClampNeg) := ⟨_, rfl⟩
      rw [← hR_26] at M_26
      refine zj_callVB C (nn := 18) (ws' := (WT cy a t)) (st := [.long (un.toInt64)]) (st1 := [.long R_26, .long (un.toInt64)]) ([] : va_W) ([] : va_W) 0 6 (M_26) (zg_V tg_377 tg_374 tg_376 tgp_2 tg_2) ⟨rfl, hdZ_X6_freeUnits⟩ ⟨rfl, rfl⟩ ⟨by decide, by decide⟩ rfl rfl (List.append_nil _).symm ⟨rfl, rfl⟩ rfl rfl (Nat.le_of_ble_eq_true rfl) dX6_exitInKind_26 (List.append_nil _) rfl ?_
      refine zj_lcmp_gt C 39 dX6_exitInKind_29 dX6_exitInKind_30 (by decide) (fun c => ?_) (fun c => ?_)
      · have c_29 : R_26 < (un.toInt64) := c
        refine zj_bipush C (v := (-5)) dX6_exitInKind_39 (by decide) ?_
        subst hR_26
        subst hR_18
        subst hR_1
        have e : f_X6_exitInKind t h un = ((-5), t) := by refine (if_neg c_4).trans ?_; refine (if_pos c_11).trans ?_; refine (if_pos c_29).trans ?_; rfl
        rw [e] at hret
        exact hret _ _ dX6_exitInKind_41
      · have c_29 : ¬ (R_26 < (un.toInt64)) := c
        refine zj_lload_n C dX6_exitInKind_33 0 rfl ?_
        refine zj_lconst C (v := 0) dX6_exitInKind_34 (by decide) ?_
        refine zj_lcmp_gt C 42 dX6_exitInKind_35 dX6_exitInKind_36 (by decide) (fun c => ?_) (fun c => ?_)
        · have c_35 : 0 < R_18 := c
          refine zj_iload_n C dX6_exitInKind_42 3 rfl ?_
          refine zj_i2l C dX6_exitInKind_43 ?_
          refine zj_aload_n C dX6_exitInKind_44 1 rfl ?_
          refine zj_get C 0 6 3 (v := .int (gTr_lots t)) inZ6 rfl rfl (by decide) tg_146 rfl dX6_exitInKind_45 ?_
          refine zj_i2l C dX6_exitInKind_48 ?_
          refine zj_lmul C dX6_exitInKind_49 ?_
          refine zj_lload_n C dX6_exitInKind_50 0 rfl ?_
          refine zj_ldiv C dX6_exitInKind_51 (zne_gt c_35) ?_
          refine zj_l2i C dX6_exitInKind_52 ?_
          refine zj_istore C (L' := [(5, .int (((((un.toInt64) * (((gTr_lots t)).toInt64)) / R_18)).toInt32)), (3, .long R_18), (0, .ref (a 0)), (1, .int h), (2, .int un)]) dX6_exitInKind_53 (by decide) rfl ?_
          refine zj_iload_n C dX6_exitInKind_55 4 rfl ?_
          refine zj_i2l C dX6_exitInKind_56 ?_
          refine zj_aload_n C dX6_exitInKind_57 2 rfl ?_
          refine zj_get C 0 6 0 (v := .long (gTr_cash t)) inZ6 rfl rfl (by decide) tg_139 rfl dX6_exitInKind_58 ?_
          refine zj_lmul C dX6_exitInKind_61 ?_
          refine zj_lload_n C dX6_exitInKind_62 1 rfl ?_
          refine zj_ldiv C dX6_exitInKind_63 (zne_gt c_35) ?_
          refine zj_lstore C (L' := [(6, .long (((un.toInt64) * (gTr_cash t)) / R_18)), (5, .int (((((un.toInt64) * (((gTr_lots t)).toInt64)) / R_18)).toInt32)), (3, .long R_18), (0, .ref (a 0)), (1, .int h), (2, .int un)]) dX6_exitInKind_64 (by decide) rfl ?_
          refine zj_aload_n C dX6_exitInKind_66 3 rfl ?_
          refine zj_dup C dX6_exitInKind_67 rfl ?_
          refine zj_get C 0 6 3 (v := .int (gTr_lots t)) inZ6 rfl rfl (by decide) tg_146 rfl dX6_exitInKind_68 ?_
          refine zj_iload C dX6_exitInKind_71 1 rfl ?_
          refine zj_isub C dX6_exitInKind_73 ?_
          refine zj_topig (fun V_74 hV_74 => ?_)
          refine zj_put C 0 6 3 (v := .int V_74) (ws' := (WT cy a (sTr_lots t V_74))) tyX6 tyX6_ok nmX6 inZ6 rfl rfl (by decide) tg_146 rfl rfl rfl (Nat.le_of_ble_eq_true rfl) dX6_exitInKind_74 rfl ?_
          refine zj_aload_n C dX6_exitInKind_77 3 rfl ?_
          refine zj_get C 0 6 7 (v := .ref (a 2)) inZ6 rfl rfl (by decide) tg_156 rfl dX6_exitInKind_78 ?_
          refine zj_iload_n C dX6_exitInKind_81 4 rfl ?_
          refine zj_topi (nI h.toNatClampNeg) (xh_eq' hR_1 c_4) ?_
          refine zj_aald C 2 4 (f := (fun k => some (a (12 + k)))) (b := (a (12 + h.toNatClampNeg))) h.toNatClampNeg (nI_clamp (by have q := xh_lt' hR_1 c_4; omega)) (vp_in_nI (xh_lt' hR_1 c_4) (by decide)) rfl rfl rfl dX6_exitInKind_82 ?_
          refine zj_dup C dX6_exitInKind_83 rfl ?_
          refine zj_get C (12 + h.toNatClampNeg) 2 6 (v := .long (gHd_lots (gTr_hd t h.toNatClampNeg))) inZ2 (WT_h (xh_lt' hR_1 c_4)) rfl (by decide) tg_52 rfl dX6_exitInKind_84 ?_
          refine zj_iload C dX6_exitInKind_87 1 rfl ?_
          refine zj_i2l C dX6_exitInKind_89 ?_
          refine zj_ladd C dX6_exitInKind_90 ?_
          refine zj_toplg (fun V_91 hV_91 => ?_)
          refine zj_put C (12 + h.toNatClampNeg) 2 6 (v := .long V_91) (ws' := (WT cy a (sTr_hd (sTr_lots t V_74) (zup (gTr_hd t) h.toNatClampNeg (sHd_lots (gTr_hd t h.toNatClampNeg) V_91))))) tyX2 tyX2_ok nmX2 inZ2 (WT_h (xh_lt' hR_1 c_4)) rfl (by decide) tg_52 rfl rfl rfl (Nat.le_of_ble_eq_true rfl) dX6_exitInKind_91 (WT_set (sHd_lots (gTr_hd t h.toNatClampNeg) V_91) (xh_lt' hR_1 c_4)) ?_
          refine zj_aload_n C dX6_exitInKind_94 3 rfl ?_
          refine zj_aload_n C dX6_exitInKind_95 3 rfl ?_
          refine zj_get C 0 6 7 (v := .ref (a 2)) inZ6 rfl rfl (by decide) tg_156 rfl dX6_exitInKind_96 ?_
          refine zj_iload_n C dX6_exitInKind_99 4 rfl ?_
          refine zj_topi (nI h.toNatClampNeg) (xh_eq' hR_1 c_4) ?_
          refine zj_aald C 2 4 (f := (fun k => some (a (12 + k)))) (b := (a (12 + h.toNatClampNeg))) h.toNatClampNeg (nI_clamp (by have q := xh_lt' hR_1 c_4; omega)) (vp_in_nI (xh_lt' hR_1 c_4) (by decide)) rfl rfl rfl dX6_exitInKind_100 ?_
          refine zj_iload_n C dX6_exitInKind_101 5 rfl ?_
          refine zj_i2l C dX6_exitInKind_102 ?_
          refine zj_lload C dX6_exitInKind_103 0 rfl ?_
          refine zj_aload_n C dX6_exitInKind_105 3 rfl ?_
          have M_106 := c_X6_unitIncome l D cy a  (sTr_hd (sTr_lots t V_74) (zup (gTr_hd t) h.toNatClampNeg (sHd_lots (gTr_hd t h.toNatClampNeg) V_91))) 
          obtain ⟨R_106, hR_106⟩ : ∃ g : Int64, g = (f_X6_unitIncome (sTr_hd (sTr_lots t V_74) (zup (gTr_hd t) h.toNatClampNeg (sHd_lots (gTr_hd t h.toNatClampNeg) V_91)))) := ⟨_, rfl⟩
          rw [← hR_106] at M_106
          refine zj_callVB C (nn := 18) (ws' := (WT cy a (sTr_hd (sTr_lots t V_74) (zup (gTr_hd t) h.toNatClampNeg (sHd_lots (gTr_hd t h.toNatClampNeg) V_91))))) (st := [.long (((un.toInt64) * (gTr_cash t)) / R_18), .long (un.toInt64), .ref (a (12 + h.toNatClampNeg)), .ref (a 0)]) (st1 := [.long R_106, .long (((un.toInt64) * (gTr_cash t)) / R_18), .long (un.toInt64), .ref (a (12 + h.toNatClampNeg)), .ref (a 0)]) ([] : va_W) ([] : va_W) 0 6 (M_106) (zg_V tg_401 tg_398 tg_399 tg_400 tg_2) ⟨rfl, hdZ_X6_unitIncome⟩ ⟨rfl, rfl⟩ ⟨by decide, by decide⟩ rfl rfl (List.append_nil _).symm ⟨rfl, rfl⟩ rfl rfl (Nat.le_of_ble_eq_true rfl) dX6_exitInKind_106 (List.append_nil _) rfl ?_
          have M_109 := c_X6_takeUnits l D cy a h.toNatClampNeg (un.toInt64) (((un.toInt64) * (gTr_cash t)) / R_18) R_106 (sTr_hd (sTr_lots t V_74) (zup (gTr_hd t) h.toNatClampNeg (sHd_lots (gTr_hd t h.toNatClampNeg) V_91))) (xh_lt' hR_1 c_4)
          obtain ⟨T_109, hT_109⟩ : ∃ g : zTr, g = (f_X6_takeUnits (sTr_hd (sTr_lots t V_74) (zup (gTr_hd t) h.toNatClampNeg (sHd_lots (gTr_hd t h.toNatClampNeg) V_91))) h.toNatClampNeg (un.toInt64) (((un.toInt64) * (gTr_cash t)) / R_18) R_106) := ⟨_, rfl⟩
          rw [← hT_109] at M_109
          refine zj_callVB C (nn := 18) (ws' := (WT cy a T_109)) (st := []) (st1 := []) ([] : va_W) ([] : va_W) 0 6 (M_109) (zg_V tg_406 tg_403 tg_404 tg_405 tg_2) ⟨rfl, hdZ_X6_takeUnits⟩ ⟨rfl, rfl⟩ ⟨by decide, by decide⟩ rfl rfl (List.append_nil _).symm ⟨rfl, rfl⟩ rfl rfl (Nat.le_of_ble_eq_true rfl) dX6_exitInKind_109 (List.append_nil _) rfl ?_
          refine zj_iload C dX6_exitInKind_112 1 rfl ?_
          subst hT_109
          subst hR_106
          subst hV_91
          subst hV_74
          subst hR_26
          subst hR_18
          subst hR_1
          have e : f_X6_exitInKind t h un = ((((((un.toInt64) * (((gTr_lots t)).toInt64)) / (f_X6_units t))).toInt32), (f_X6_takeUnits (sTr_hd (sTr_lots t ((gTr_lots t) - (((((un.toInt64) * (((gTr_lots t)).toInt64)) / (f_X6_units t))).toInt32))) (zup (gTr_hd t) h.toNatClampNeg (sHd_lots (gTr_hd t h.toNatClampNeg) ((gHd_lots (gTr_hd t h.toNatClampNeg)) + (((((((un.toInt64) * (((gTr_lots t)).toInt64)) / (f_X6_units t))).toInt32)).toInt64))))) h.toNatClampNeg (un.toInt64) (((un.toInt64) * (gTr_cash t)) / (f_X6_units t)) (f_X6_unitIncome (sTr_hd (sTr_lots t ((gTr_lots t) - (((((un.toInt64) * (((gTr_lots t)).toInt64)) / (f_X6_units t))).toInt32))) (zup (gTr_hd t) h.toNatClampNeg (sHd_lots (gTr_hd t h.toNatClampNeg) ((gHd_lots (gTr_hd t h.toNatClampNeg)) + (((((((un.toInt64) * (((gTr_lots t)).toInt64)) / (f_X6_units t))).toInt32)).toInt64)))))))) := by refine (if_neg c_4).trans ?_; refine (if_pos c_11).trans ?_; refine (if_neg c_29).trans ?_; refine (if_pos c_35).trans ?_; rfl
          rw [e] at hret
          exact hret _ _ dX6_exitInKind_114
        · have c_35 : ¬ (0 < R_18) := c
          refine zj_bipush C (v := (-5)) dX6_exitInKind_39 (by decide) ?_
          subst hR_26
          subst hR_18
          subst hR_1
          have e : f_X6_exitInKind t h un = ((-5), t) := by refine (if_neg c_4).trans ?_; refine (if_pos c_11).trans ?_; refine (if_neg c_29).trans ?_; refine (if_neg c_35).trans ?_; rfl
          rw [e] at hret
          exact hret _ _ dX6_exitInKind_41
    · have c_11 : ¬ ((nI 1) ≤ un) := c
      refine zj_bipush C (v := (-2)) dX6_exitInKind_14 (by decide) ?_
      subst hR_1
      have e : f_X6_exitInKind t h un = ((-2), t) := by refine (if_neg c_4).trans ?_; refine (if_neg c_11).trans ?_; rfl
      rw [e] at hret
      exact hret _ _ dX6_exitInKind_16
  · have c_4 : R_1 = false := (zB_eq (Classical.not_not.mp c))
    refine zj_iconst C (v := (-1)) dX6_exitInKind_7 (by decide) ?_
    subst hR_1
    have e : f_X6_exitInKind t h un = ((-1), t) := by refine (if_pos c_4).trans ?_; rfl
    rw [e] at hret
    exact hret _ _ dX6_exitInKind_8
