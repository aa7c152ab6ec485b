/-! what is refused. Written by wip/p26/law15.py -/
theorem i32_0 : (0 : Int32).toInt = 0 := rfl
theorem i32_n2 : (-1000 : Int32).toInt = -1000 := rfl
theorem nI_t (n : Nat) (h : n < 2147483648) : (nI n).toInt = n := nI_int h
theorem rw_no {w : Int} (hw : w < -1000 ∨ 1000000 < w) (hr : r32 w) : f_X7_isHolder (jI w) = false := by
  have e := jI_t hr
  have z := i32_0
  have z6 := nI_t 6 (by decide)
  unfold f_X7_isHolder
  by_cases c : w < 0
  · rw [if_pos (by rw [i32_lt_iff]; omega)]
  · rw [if_neg (by rw [i32_lt_iff]; omega), if_pos (by rw [i32_le_iff]; omega)]
theorem rw_nohr {w : Int} (hw : w < -1000 ∨ 1000000 < w) (hr : r32 w) : f_X6_isHour (jI w) = false := by
  have e := jI_t hr
  have z := i32_0
  have z6 := nI_t 23 (by decide)
  unfold f_X6_isHour
  by_cases c : w < 0
  · rw [if_pos (by rw [i32_lt_iff]; omega)]
  · rw [if_neg (by rw [i32_lt_iff]; omega), if_pos (by rw [i32_lt_iff]; omega)]
theorem rf_set1 {T : zTr} {w : Int} (hw : w < -1000 ∨ 1000000 < w) (hr : r32 w) : f_X6_changeSetting T (jI w) (jI 1) = (jI (-2), T) := by
  have e := jI_t hr
  have z := i32_0
  have z6 := nI_t 5 (by decide)
  unfold f_X6_changeSetting
  by_cases c : w < 0
  · rw [if_pos (by rw [i32_lt_iff]; omega)]; rfl
  · rw [if_neg (by rw [i32_lt_iff]; omega), if_pos (by rw [i32_le_iff]; omega)]; rfl
theorem rf_set2 {T : zTr} {w : Int} (hw : w < -1000 ∨ 1000000 < w) (hr : r32 w) {k : Nat} (hk : k < 2) : f_X6_changeSetting T (jI (k : Int)) (jI w) = (jI (-2), T) := by
  have e := jI_t hr
  have z := i32_0
  have z6 := nI_t 5 (by decide)
  have ek : (jI (k : Int)).toInt = k := jI_t ⟨by omega, by omega⟩
  have eg : (zGi (jI (k : Int)).toNatClampNeg).toInt ≤ 1000 := by
    rcases (show k = 0 ∨ k = 1 by omega) with rfl | rfl <;> decide
  unfold f_X6_changeSetting
  rw [if_neg (by rw [i32_lt_iff]; omega), if_neg (by rw [i32_le_iff]; omega)]
  by_cases c : w < 0
  · rw [if_pos (by rw [i32_lt_iff]; omega)]; rfl
  · rw [if_neg (by rw [i32_lt_iff]; omega), if_neg (by rw [i32_le_iff]; omega)]; rfl
theorem rf_buy1 {T : zTr} {w : Int} (hw : w < -1000 ∨ 1000000 < w) (hr : r32 w) : f_X6_orderToBuy T (jI w) (jI 1) (jI 0) = (jI (-1), T) := by
  unfold f_X6_orderToBuy
  rw [rw_no hw hr]; rfl
theorem rf_buy2 {T : zTr} {w : Int} (hw : w < -1000 ∨ 1000000 < w) (hr : r32 w) : f_X6_orderToBuy T (jI 0) (jI w) (jI 0) = (jI (-2), T) := by
  have e := jI_t hr
  have z6 := nI_t 1 (by decide)
  have z7 := nI_t 1000000 (by decide)
  have hh : f_X7_isHolder (jI 0) = true := isH (i := 0) (by decide)
  unfold f_X6_orderToBuy
  rw [hh, if_neg (by decide)]
  by_cases c : w < 1
  · rw [if_pos (by rw [i32_lt_iff]; omega)]; rfl
  · rw [if_neg (by rw [i32_lt_iff]; omega), if_pos (by rw [i32_lt_iff]; omega)]; rfl
theorem rf_buy3 {T : zTr} {w : Int} (hw : w < -1000 ∨ 1000000 < w) (hr : r32 w) : f_X6_orderToBuy T (jI 0) (jI 1) (jI w) = (jI (-2), T) := by
  have hh : f_X7_isHolder (jI 0) = true := isH (i := 0) (by decide)
  unfold f_X6_orderToBuy
  rw [hh, if_neg (by decide), if_neg (by decide), if_neg (by decide), rw_nohr hw hr]; rfl
theorem rf_lv1 {T : zTr} {w : Int} (hw : w < -1000 ∨ 1000000 < w) (hr : r32 w) : f_X6_orderToLeave T (jI w) (jI 1) (jI 0) = (jI (-1), T) := by
  unfold f_X6_orderToLeave
  rw [rw_no hw hr]; rfl
theorem rf_lv2 {T : zTr} {w : Int} (hw : w < -1000 ∨ 1000000 < w) (hr : r32 w) : f_X6_orderToLeave T (jI 0) (jI 1) (jI w) = (jI (-2), T) := by
  have hh : f_X7_isHolder (jI 0) = true := isH (i := 0) (by decide)
  unfold f_X6_orderToLeave
  rw [hh, if_neg (by decide), if_neg (by decide), rw_nohr hw hr]; rfl
theorem rf_kd1 {T : zTr} {w : Int} (hw : w < -1000 ∨ 1000000 < w) (hr : r32 w) : f_X6_exitInKind T (jI w) (jI 1) = (jI (-1), T) := by
  unfold f_X6_exitInKind
  rw [rw_no hw hr]; rfl
theorem rf_qu {T : zTr} {w : Int} (hw : w < -1000 ∨ 1000000 < w) (hr : r32 w) : f_X6_changeQuote T (jI w) = (jI (-2), T) := by
  have e := jI_t hr
  have z6 := nI_t 1 (by decide)
  have z7 := nI_t 10000 (by decide)
  unfold f_X6_changeQuote
  by_cases c : w < 1
  · rw [if_pos (by rw [i32_lt_iff]; omega)]; rfl
  · rw [if_neg (by rw [i32_lt_iff]; omega), if_neg (by rw [i32_le_iff]; omega)]; rfl
theorem rf_tr {T : zTr} {w : Int} (hw : w < -1000 ∨ 1000000 < w) (hr : r32 w) : f_X6_tradeLots T (jI w) = (jI (-2), T) := by
  have e := jI_t hr
  have z := i32_0
  have z1 := i32_n2
  have z7 := nI_t 1000 (by decide)
  unfold f_X6_tradeLots
  rw [if_neg (fun q => by have q2 := congrArg Int32.toInt q; omega)]
  by_cases c : w < 1
  · rw [if_pos (by rw [i32_lt_iff]; omega)]; rfl
  · rw [if_neg (by rw [i32_lt_iff]; omega), if_neg (by rw [i32_le_iff]; omega)]; rfl
theorem rf_in {T : zTr} {w : Int} (hw : w < -1000 ∨ 1000000 < w) (hr : r32 w) : f_X6_takeIncome T (jI w) = (jI (-2), T) := by
  have e := jI_t hr
  have z6 := nI_t 1 (by decide)
  have z7 := nI_t 1000000 (by decide)
  unfold f_X6_takeIncome
  by_cases c : w < 1
  · rw [if_pos (by rw [i32_lt_iff]; omega)]; rfl
  · rw [if_neg (by rw [i32_lt_iff]; omega), if_neg (by rw [i32_le_iff]; omega)]; rfl
theorem rf_ho1 {T : zTr} {w : Int} (hw : w < -1000 ∨ 1000000 < w) (hr : r32 w) : f_X7_ofHolder T (jI w) (jI 0) = jI (-1) := by
  unfold f_X7_ofHolder
  rw [rw_no hw hr]; rfl
theorem rf_ho2 {T : zTr} {w : Int} (hw : w < -1000 ∨ 1000000 < w) (hr : r32 w) : f_X7_ofHolder T (jI 0) (jI w) = jI (-2) := by
  have e := jI_t hr
  have z := i32_0
  have z6 := nI_t 9 (by decide)
  have hh : f_X7_isHolder (jI 0) = true := isH (i := 0) (by decide)
  unfold f_X7_ofHolder
  rw [hh, if_neg (by decide)]
  by_cases c : w < 0
  · rw [if_pos (by rw [i32_lt_iff]; omega)]; rfl
  · rw [if_neg (by rw [i32_lt_iff]; omega), if_neg (by rw [i32_lt_iff]; omega)]; rfl
theorem rf_cnt {T : zTr} {w : Int} (hw : w < -1000 ∨ 1000000 < w) (hr : r32 w) (z : zPd) (y : zHs) : f_X7_count T z y (jI w) = jI (-2) := by
  have e := jI_t hr
  have z0 := i32_0
  have z6 := nI_t 19 (by decide)
  unfold f_X7_count
  by_cases c : w < 0
  · rw [if_pos (by rw [i32_lt_iff]; omega)]; rfl
  · rw [if_neg (by rw [i32_lt_iff]; omega), if_neg (by rw [i32_lt_iff]; omega)]; rfl
theorem rf_or1 {T : zTr} {w : Int} (hw : w < -1000 ∨ 1000000 < w) (hr : r32 w) : f_X7_order T (jI w) (jI 0) (jI 0) = jI (-2) := by
  have e := jI_t hr
  have z := i32_0
  have z6 := nI_t 1 (by decide)
  unfold f_X7_order
  by_cases c : w < 0
  · rw [if_pos (by rw [i32_lt_iff]; omega)]; rfl
  · rw [if_neg (by rw [i32_lt_iff]; omega), if_pos (by rw [i32_lt_iff]; omega)]; rfl
theorem rf_or2 {T : zTr} {w : Int} (hw : w < -1000 ∨ 1000000 < w) (hr : r32 w) (hb : gOd_n (gTr_bu T) ≤ 20) : f_X7_order T (jI 0) (jI w) (jI 0) = jI (-1) := by
  have e := jI_t hr
  have z := i32_0
  have z6 := nI_t (gOd_n (gTr_bu T)) (by omega)
  unfold f_X7_order
  rw [if_neg (by decide), if_neg (by decide), if_neg (by decide), if_pos (by decide), if_pos (by rfl)]
  by_cases c : w < 0
  · rw [if_pos (by rw [i32_lt_iff]; omega)]; rfl
  · rw [if_neg (by rw [i32_lt_iff]; omega), if_neg (by rw [i32_lt_iff]; omega)]; rfl
theorem rf_or3 {T : zTr} {w : Int} (hw : w < -1000 ∨ 1000000 < w) (hr : r32 w) : f_X7_order T (jI 0) (jI 0) (jI w) = jI (-2) := by
  have e := jI_t hr
  have z := i32_0
  have z6 := nI_t 3 (by decide)
  unfold f_X7_order
  rw [if_neg (by decide), if_neg (by decide)]
  by_cases c : w < 0
  · rw [if_pos (by rw [i32_lt_iff]; omega)]; rfl
  · rw [if_neg (by rw [i32_lt_iff]; omega), if_neg (by rw [i32_lt_iff]; omega)]; rfl
theorem rf_la {T : zTr} {w : Int} (hw : w < -1000 ∨ 1000000 < w) (hr : r32 w) : f_X7_lastDay T (jI w) = jI (-2) := by
  have e := jI_t hr
  have z := i32_0
  have z6 := nI_t 6 (by decide)
  unfold f_X7_lastDay
  by_cases c : w < 0
  · rw [if_pos (by rw [i32_lt_iff]; omega)]; rfl
  · rw [if_neg (by rw [i32_lt_iff]; omega), if_neg (by rw [i32_lt_iff]; omega)]; rfl
theorem rf_pr {T : zTr} {w : Int} (hw : w < -1000 ∨ 1000000 < w) (hr : r32 w) (x : zDd) : f_X7_price T x (jI w) = (jL (-2), x) := by
  have e := jI_t hr
  have z := i32_0
  have z6 := nI_t 4 (by decide)
  unfold f_X7_price
  by_cases c : w < 0
  · rw [if_pos (by rw [i32_lt_iff]; omega)]; rfl
  · rw [if_neg (by rw [i32_lt_iff]; omega), if_neg (by rw [i32_lt_iff]; omega)]; rfl
theorem rf_ex {T : zTr} {w : Int} (hw : w < -1000 ∨ 1000000 < w) (hr : r32 w) (U : zTr) (x : zDd) : f_X7_exitIn T U x (jI w) = (jI (-1), U, x) := by
  unfold f_X7_exitIn
  rw [zsl_e]
  rw [rw_no hw hr]; rfl
theorem rf_sv {T : zTr} {w : Int} (hw : w < -1000 ∨ 1000000 < w) (hr : r32 w) (s : zSl) : f_X7_save T s (jI w) = (jI (-2), s) := by
  have e := jI_t hr
  have z := i32_0
  have z6 := nI_t 2 (by decide)
  unfold f_X7_save
  by_cases c : w < 0
  · rw [if_pos (by rw [i32_lt_iff]; omega)]; rfl
  · rw [if_neg (by rw [i32_lt_iff]; omega), if_neg (by rw [i32_lt_iff]; omega)]; rfl
theorem rf_re {T : zTr} {w : Int} (hw : w < -1000 ∨ 1000000 < w) (hr : r32 w) (y : zHs) (s : zSl) : f_X7_restore T y s (jI w) = (jI (-2), T, y) := by
  have e := jI_t hr
  have z := i32_0
  have z6 := nI_t 2 (by decide)
  unfold f_X7_restore
  by_cases c : w < 0
  · rw [if_pos (by rw [i32_lt_iff]; omega)]; rfl
  · rw [if_neg (by rw [i32_lt_iff]; omega), if_neg (by rw [i32_lt_iff]; omega)]; rfl
/-- the trial's days -/
theorem exit_hP {Dd c : Int} {T U : zTr} {x : zDd} (h : GI Dd c T) (hD : Dd + 61 ≤ 100000) : ∃ P : zDd → zTr → Nat → Prop, P x (f_X6_become U T) 0 ∧ ∀ X U k, k ≤ 60 → P X U k → okT U ∧ P (f_X0_run X U).2.1 (f_X0_run X U).2.2 (k + 1) := by
  refine ⟨fun _ V k => GI (Dd + k) c V, ?_, fun X V k hk hP => ⟨Inv_ok hP.1, ?_⟩⟩
  · have e : Dd + ((0 : Nat) : Int) = Dd := by omega
    show GI (Dd + ((0 : Nat) : Int)) c _
    rw [e]
    exact TE_GI (become_TE U T) h
  · obtain ⟨rform, -, hG1, -⟩ := run_parts hP X (by omega)
    show GI (Dd + ((k + 1 : Nat) : Int)) c (f_X0_run X V).2.2
    rw [rform]
    have e : Dd + ((k + 1 : Nat) : Int) = Dd + k + 1 := by omega
    rw [e]
    exact hG1
theorem su0_z {D c : Int} {T : zTr} (h : GI D c T) {i : Nat} : f_X4_sumOf (gTr_le T) (jI (i : Int)) = 0 ↔ hS (gTr_le T) i = 0 := by
  have e := sumOf_int h.1.2.2.1.1 i
  rw [show jI (i : Int) = nI i from jI_n i]
  have z0 : (0 : Int64).toInt = 0 := rfl
  constructor
  · intro q; rw [q] at e; omega
  · intro q
    rw [q] at e
    exact (jL_is e).trans rfl
/-- nobody waits: at once -/
theorem exit_0 {D c : Int} {T : zTr} (h : GI D c T) {i : Nat} (hi : i < 6) (h0 : hS (gTr_le T) i = 0) (U : zTr) (x : zDd) : f_X7_exitIn T U x (jI (i : Int)) = (jI 0, f_X6_become U T, x) := by
  have hV : GI D c (f_X6_become U T) := TE_GI (become_TE U T) h
  have hv0 : hS (gTr_le (f_X6_become U T)) i = 0 := by rw [((TE_v (become_TE U T)).2.2.2.2.2.2.2.2.2.2.2.2.2.2.2.2 i hi).2.2.2.1]; exact h0
  have e := (su0_z hV).mpr hv0
  unfold f_X7_exitIn
  rw [zsl_e]
  rw [isH hi]
  dsimp only
  have hl : L_X7_exit (jI (i : Int)) true (f_X6_become U T) (61 + 1) x (f_X6_become U T) 0 = (true, nI 0, x, f_X6_become U T, 0) := by
    rw [L_X7_exit_s, if_neg (by decide)]
    dsimp only
    rw [if_pos e]
  rw [if_neg (by decide), show (61 - 0 + 1 : Nat) = 61 + 1 from rfl, hl]
  rfl
theorem count_no {y : zHs} {t : zTr} {r : Int32} (hr : r < 0) : gHs_count (hist2 y t r) = gHs_count y := by rw [hist_no hr]
theorem fault_0 {z : zPd} (hn : gPd_n z = 0) : ∃ z', f_X5_findFault z = (jI 0, z') ∧ gPd_n z' = 0 ∧ gPd_sg z' = gPd_sg z := by
  have h1 : f_X5_readOrder (f_X5_start z) = (false, sPd_kd (f_X5_start z) (nI 0)) := by
    have e : f_X5_signAt (f_X5_start z) (gPd_at (f_X5_start z)) = nI 0 := if_pos (by show gPd_n z ≤ 0; omega)
    unfold f_X5_readOrder
    rw [zsl_e]
    rw [e]
    rfl
  refine ⟨sPd_kd (f_X5_start z) (nI 0), ?_, hn, rfl⟩
  unfold f_X5_findFault
  rw [zsl_e]
  dsimp only
  have hl : L_X5_fault (f_X5_start z) (80 + 1) (f_X5_start z) 0 = (true, nI 0, sPd_kd (f_X5_start z) (nI 0), 0) := by
    rw [L_X5_fault_s, if_neg (by decide), h1]
    rfl
  rw [show (80 - 0 + 1 : Nat) = 80 + 1 from rfl, hl]
  rfl
