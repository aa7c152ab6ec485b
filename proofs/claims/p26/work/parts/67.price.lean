/-! the price: both sides alike, and what it is bounded by -/
/-- the numbers of a trust are in their ranges -/
def iB (T : zTr) : Prop := (∀ k, k < 5 → 0 ≤ (gTr_st T k).toInt ∧ (gTr_st T k).toInt ≤ (zGi k).toInt) ∧ (0 ≤ (gTr_lots T).toInt ∧ (gTr_lots T).toInt ≤ 1000) ∧ (1 ≤ (gTr_quote T).toInt ∧ (gTr_quote T).toInt ≤ 10000) ∧ (0 ≤ (gTr_pool T).toInt ∧ (gTr_pool T).toInt ≤ (gTr_cash T).toInt ∧ (gTr_cash T).toInt ≤ 10000000000) ∧ iH T
theorem zGi1 : (zGi 1).toInt = 1000 := rfl
theorem zGi2 : (zGi 2).toInt = 100 := rfl
theorem zGi3 : (zGi 3).toInt = 1000 := rfl
theorem zGi4 : (zGi 4).toInt = 50 := rfl
def vI (T : zTr) : Int := (gTr_cash T).toInt + (gTr_lots T).toInt * (gTr_quote T).toInt
def mI (T : zTr) : Int := if uAll T ≤ 0 then 100000 else 1000 * vI T / uAll T
def iI (T : zTr) : Int := if uAll T ≤ 0 then 0 else 1000 * (gTr_pool T).toInt / uAll T
theorem vI_bd {T : zTr} (hB : iB T) : 0 ≤ (gTr_lots T).toInt * (gTr_quote T).toInt ∧ (gTr_lots T).toInt * (gTr_quote T).toInt ≤ 10000000 ∧ (gTr_cash T).toInt ≤ vI T ∧ vI T ≤ 10010000000 := by
  obtain ⟨-, h2, h3, h4, -⟩ := hB
  have h5 : 0 ≤ (gTr_lots T).toInt * (gTr_quote T).toInt := Int.mul_nonneg h2.1 (by omega)
  have h6 : (gTr_lots T).toInt * (gTr_quote T).toInt ≤ 1000 * 10000 := Int.mul_le_mul h2.2 h3.2 (by omega) (by decide)
  unfold vI
  omega
theorem value_int {T : zTr} (hB : iB T) : (f_X6_value T).toInt = vI T := by
  obtain ⟨h1, h2, h3, h4⟩ := vI_bd hB
  have h5 := hB.2.2.2.1
  unfold vI at h3 h4
  exact i64_add rfl (i64_mul (i32_l _) (i32_l _) (by omega) (by omega)) (by omega) (by omega)
theorem middle_int {T : zTr} (hB : iB T) : (f_X6_middle T).toInt = mI T := by
  obtain ⟨h1, h2, h3, h4⟩ := vI_bd hB
  have h5 := hB.2.2.2.1
  have hu := units_int hB.2.2.2.2
  show (if f_X6_units T ≤ 0 then (100000 : Int64) else 1000 * f_X6_value T / f_X6_units T).toInt = _
  unfold mI
  by_cases c : uAll T ≤ 0
  · rw [if_pos c, if_pos (by rw [i64_le_iff, hu]; exact c)]; rfl
  · rw [if_neg c, if_neg (by rw [i64_le_iff, hu]; exact c)]
    exact i64_div (i64_mul (x := 1000) rfl (value_int hB) (by omega) (by omega)) hu (by omega) (by omega)
theorem ui_int {T : zTr} (hB : iB T) : (f_X6_unitIncome T).toInt = iI T := by
  have h5 := hB.2.2.2.1
  have hu := units_int hB.2.2.2.2
  show (if f_X6_units T ≤ 0 then (0 : Int64) else 1000 * gTr_pool T / f_X6_units T).toInt = _
  unfold iI
  by_cases c : uAll T ≤ 0
  · rw [if_pos c, if_pos (by rw [i64_le_iff, hu]; exact c)]; rfl
  · rw [if_neg c, if_neg (by rw [i64_le_iff, hu]; exact c)]
    exact i64_div (i64_mul (x := 1000) rfl rfl (by omega) (by omega)) hu (by omega) (by omega)
theorem mI_bd {T : zTr} (hB : iB T) : 0 ≤ mI T ∧ mI T ≤ 10010000000000 ∧ 0 ≤ iI T ∧ (0 < uAll T → uAll T * mI T ≤ 1000 * vI T ∧ iI T ≤ mI T) ∧ (uAll T ≤ 0 → iI T = 0) := by
  obtain ⟨h1, h2, h3, h4⟩ := vI_bd hB
  have h5 := hB.2.2.2.1
  unfold mI iI
  by_cases c : uAll T ≤ 0
  · rw [if_pos c, if_pos c]
    exact ⟨by omega, by omega, by omega, fun z => by omega, fun _ => rfl⟩
  · rw [if_neg c, if_neg c]
    refine ⟨Int.ediv_nonneg (by omega) (by omega), ?_, Int.ediv_nonneg (by omega) (by omega), fun z => ⟨?_, ?_⟩, fun z => by omega⟩
    · exact Int.le_trans (Int.ediv_le_self _ (by omega)) (by omega)
    · rw [Int.mul_comm]; exact Int.ediv_mul_le _ (by omega)
    · exact Int.ediv_le_ediv (by omega) (by omega)
theorem i64_min2 (a b : Int64) : (if a ≤ b then a else b) = (if a < b then a else b) := by
  by_cases h : a < b
  · rw [if_pos h, if_pos (Int64.le_of_lt h)]
  · rw [if_neg h]
    split
    · rename_i h2
      rw [i64_lt_iff] at h; rw [i64_le_iff] at h2
      exact i64_eq_iff.mpr (by omega)
    · rfl
/-- the orders of a kind are as they must be: their number, holders, sizes, days -/
def iO (mx : Int) (o : zOd) : Prop := gOd_n o ≤ 20 ∧ (∀ i, i < gOd_n o → vp_in (gOd_ho o i) 6 ∧ 1 ≤ (gOd_sz o i).toInt ∧ (gOd_sz o i).toInt ≤ mx) ∧ oSort o
theorem sS_nn {mx : Int} {o : zOd} (hO : iO mx o) {fr to : Nat} (h : to ≤ gOd_n o) : 0 ≤ sS o fr to := by
  refine isum_nn _ (fun i hi => ?_)
  have := (hO.2.1 (fr + i) (by omega)).2.1
  omega
theorem st_int {T : zTr} {S : zMs} (hR : RC T (gMs_at S)) {k : Nat} (hk : k < 5) : (gMs_at S k).toInt = (gTr_st T k).toInt := by rw [hR.1 k hk, i32_l]
noncomputable def wI (T : zTr) : Int := sS (gTr_le T) 0 (f_X4_dueOn (gTr_le T) (gTr_day T))
noncomputable def aI (T : zTr) : Int := if (gTr_st T 3).toInt * uAll T / 1000 < wI T then (gTr_st T 3).toInt * uAll T / 1000 else wI T
theorem gate_int {T : zTr} (hB : iB T) : ((gTr_st T 3).toInt64 * f_X6_units T / 1000).toInt = (gTr_st T 3).toInt * uAll T / 1000 ∧ 0 ≤ (gTr_st T 3).toInt * uAll T / 1000 ∧ (gTr_st T 3).toInt * uAll T / 1000 ≤ uAll T := by
  have h1 := hB.1 3 (by omega)
  rw [zGi3] at h1
  have h2 := uAll_nn hB.2.2.2.2
  have h3 := hB.2.2.2.2.2
  have h4 : 0 ≤ (gTr_st T 3).toInt * uAll T := Int.mul_nonneg h1.1 h2
  have h5 : (gTr_st T 3).toInt * uAll T ≤ 1000 * uAll T := Int.mul_le_mul_of_nonneg_right h1.2 h2
  refine ⟨i64_div (i64_mul (i32_l _) (units_int hB.2.2.2.2) (by omega) (by omega)) rfl h4 (by decide), by omega, by omega⟩
theorem allowed_int {T : zTr} (x : zDd) (hB : iB T) {mx : Int} (hl : iO mx (gTr_le T)) : (gDd_allowed (f_X0_takePrice x T)).toInt = aI T ∧ (gDd_wanted (f_X0_takePrice x T)).toInt = wI T ∧ 0 ≤ aI T ∧ aI T ≤ uAll T ∧ aI T ≤ wI T := by
  obtain ⟨g1, g2, g3⟩ := gate_int hB
  have hw : (f_X4_sum (gTr_le T) 0 (f_X4_dueOn (gTr_le T) (gTr_day T))).toInt = wI T := sum_int _ (Nat.zero_le _) (Nat.le_trans xdue_le hl.1)
  have hw0 : 0 ≤ wI T := sS_nn hl xdue_le
  refine ⟨?_, hw, ?_, ?_, ?_⟩
  · show (if (gTr_st T 3).toInt64 * f_X6_units T / 1000 < f_X4_sum (gTr_le T) 0 (f_X4_dueOn (gTr_le T) (gTr_day T)) then (gTr_st T 3).toInt64 * f_X6_units T / 1000 else f_X4_sum (gTr_le T) 0 (f_X4_dueOn (gTr_le T) (gTr_day T))).toInt = _
    unfold aI
    by_cases c : (gTr_st T 3).toInt * uAll T / 1000 < wI T
    · rw [if_pos c, if_pos (by rw [i64_lt_iff, g1, hw]; exact c), g1]
    · rw [if_neg c, if_neg (by rw [i64_lt_iff, g1, hw]; exact c), hw]
  all_goals unfold aI; split <;> omega
theorem mayLeave_eq {T : zTr} {S : zMs} (x : zDd) (hR : RC T (gMs_at S)) (hL : RO 122 (gTr_le T) (gMs_at S)) {mx : Int} (hl : iO mx (gTr_le T)) : f_X8_mayLeave S = gDd_allowed (f_X0_takePrice x T) := by
  unfold f_X8_mayLeave
  rw [zsl_e]
  dsimp only
  rw [i64_min2, hR.2.2.2.2.2.2.1, sumDay_eq hL hl.1 hl.2.2, hR.1 3 (by omega), issue_eq hR]
  rfl
/-- what the swing is -/
noncomputable def nI1 (T : zTr) : Int := sS (gTr_bu T) 0 (f_X4_dueOn (gTr_bu T) (gTr_day T)) - aI T * mI T / 1000
theorem net_int {T : zTr} (x : zDd) (hB : iB T) {m1 m2 : Int} (hb : iO m1 (gTr_bu T)) (hl : iO m2 (gTr_le T)) :
    (f_X4_sum (gTr_bu T) 0 (f_X4_dueOn (gTr_bu T) (gTr_day T)) - gDd_allowed (f_X0_takePrice x T) * f_X6_middle T / 1000).toInt = nI1 T ∧ -1000000000000 ≤ nI1 T ∧ nI1 T ≤ 1000000000000 ∧ 0 ≤ aI T * mI T := by
  obtain ⟨a1, -, a2, a3, -⟩ := allowed_int x hB hl
  obtain ⟨m1', m2', m3, m4, m5⟩ := mI_bd hB
  obtain ⟨v1, v2, v3, v4⟩ := vI_bd hB
  have hc := hB.2.2.2.1
  have hs : (f_X4_sum (gTr_bu T) 0 (f_X4_dueOn (gTr_bu T) (gTr_day T))).toInt = sS (gTr_bu T) 0 (f_X4_dueOn (gTr_bu T) (gTr_day T)) := sum_int _ (Nat.zero_le _) (Nat.le_trans xdue_le hb.1)
  have hs0 : 0 ≤ sS (gTr_bu T) 0 (f_X4_dueOn (gTr_bu T) (gTr_day T)) := sS_nn hb xdue_le
  have hs1 : sS (gTr_bu T) 0 (f_X4_dueOn (gTr_bu T) (gTr_day T)) ≤ 42949672960 := by
    have h := (isum_bd (f := fun i => (gOd_sz (gTr_bu T) (0 + i)).toInt) (B := 2147483648) (f_X4_dueOn (gTr_bu T) (gTr_day T) - 0) (fun i _ => by
      have h1 := i32_lt (a := gOd_sz (gTr_bu T) (0 + i))
      have h2 := i32_ge (a := gOd_sz (gTr_bu T) (0 + i))
      omega)).2
    have h2 : f_X4_dueOn (gTr_bu T) (gTr_day T) ≤ 20 := Nat.le_trans xdue_le hb.1
    have h3 : sS (gTr_bu T) 0 (f_X4_dueOn (gTr_bu T) (gTr_day T)) = isum (fun i => (gOd_sz (gTr_bu T) (0 + i)).toInt) (f_X4_dueOn (gTr_bu T) (gTr_day T) - 0) := rfl
    omega
  have h0 : 0 ≤ aI T * mI T := Int.mul_nonneg a2 m1'
  have h1 : aI T * mI T ≤ 10010000000000 := by
    by_cases c : 0 < uAll T
    · have := (m4 c).1
      have h2 : aI T * mI T ≤ uAll T * mI T := Int.mul_le_mul_of_nonneg_right a3 m1'
      omega
    · have : aI T = 0 := by omega
      rw [this, Int.zero_mul]; omega
  have hd : (gDd_allowed (f_X0_takePrice x T) * f_X6_middle T / 1000).toInt = aI T * mI T / 1000 := i64_div (i64_mul a1 (middle_int hB) (by omega) (by omega)) rfl h0 (by decide)
  unfold nI1
  exact ⟨i64_sub hs hd (by omega) (by omega), by omega, by omega, h0⟩
def dN (n t : Int) : Int := if 0 < n ∧ t < 1000 * n then 1 else if n < 0 ∧ 1000 * n < -t then -1 else 0
noncomputable def dirI (T : zTr) : Int := if uAll T ≤ 0 then 0 else dN (nI1 T) ((gTr_st T 1).toInt * vI T)
theorem dirI_bd (T : zTr) : -1 ≤ dirI T ∧ dirI T ≤ 1 ∧ (uAll T ≤ 0 → dirI T = 0) := by
  unfold dirI dN
  refine ⟨?_, ?_, fun h => by rw [if_pos h]⟩
  all_goals split
  all_goals first | omega | skip
  all_goals split
  all_goals first | omega | skip
  all_goals split <;> omega
theorem dN_1 {n t : Int} (h : 0 < n ∧ t < 1000 * n) : dN n t = 1 := if_pos h
theorem dN_m {n t : Int} (h0 : ¬ (0 < n ∧ t < 1000 * n)) (h : n < 0 ∧ 1000 * n < -t) : dN n t = -1 := (if_neg h0).trans (if_pos h)
theorem dN_0 {n t : Int} (h0 : ¬ (0 < n ∧ t < 1000 * n)) (h : ¬ (n < 0 ∧ 1000 * n < -t)) : dN n t = 0 := (if_neg h0).trans (if_neg h)
theorem dir_int {nt th : Int64} {n t : Int} (hn : nt.toInt = n) (ht : th.toInt = t) (h1 : -1000000000000 ≤ n ∧ n ≤ 1000000000000) (h2 : 0 ≤ t ∧ t ≤ 10010000000000) : (f_X0_direction (1000 * nt) th).toInt = dN n t := by
  have f1 : (1000 * nt).toInt = 1000 * n := i64_mul (x := 1000) rfl hn (by omega) (by omega)
  have f2 : (-th).toInt = -t := i64_neg ht (by omega)
  have z0 : (0 : Int64).toInt = 0 := rfl
  have a1 : (1000 * nt ≤ 0) ↔ n ≤ 0 := by rw [i64_le_iff, f1, z0]; omega
  have a2 : (0 ≤ 1000 * nt) ↔ 0 ≤ n := by rw [i64_le_iff, f1, z0]; omega
  have a3 : (-th ≤ 1000 * nt) ↔ -t ≤ 1000 * n := by rw [i64_le_iff, f1, f2]
  have a4 : (1000 * nt ≤ th) ↔ 1000 * n ≤ t := by rw [i64_le_iff, f1, ht]
  unfold f_X0_direction
  dsimp only
  by_cases c1 : n ≤ 0
  · rw [if_pos (a1.mpr c1)]
    by_cases c2 : 0 ≤ n
    · rw [if_pos (a2.mpr c2), dN_0 (by omega) (by omega)]; rfl
    · rw [if_neg (fun z => c2 (a2.mp z))]
      by_cases c3 : -t ≤ 1000 * n
      · rw [if_pos (a3.mpr c3), dN_0 (by omega) (by omega)]; rfl
      · rw [if_neg (fun z => c3 (a3.mp z)), dN_m (by omega) (by omega)]; rfl
  · rw [if_neg (fun z => c1 (a1.mp z))]
    by_cases c2 : 1000 * n ≤ t
    · rw [if_pos (a4.mpr c2), if_pos (a2.mpr (by omega)), dN_0 (by omega) (by omega)]; rfl
    · rw [if_neg (fun z => c2 (a4.mp z)), dN_1 (by omega)]; rfl
theorem sw_int {nt th : Int64} {n t : Int} (hn : nt.toInt = n) (ht : th.toInt = t) (h1 : -1000000000000 ≤ n ∧ n ≤ 1000000000000) (h2 : 0 ≤ t ∧ t ≤ 10010000000000) : (((if nt ≤ 0 then (if 0 ≤ nt then 2 else (if -th ≤ 1000 * nt then 2 else 1)) else (if 1000 * nt ≤ th then (if 0 ≤ nt then 2 else (if -th ≤ 1000 * nt then 2 else 1)) else 3) : Nat)) : Int) = dN n t + 2 := by
  have f1 : (1000 * nt).toInt = 1000 * n := i64_mul (x := 1000) rfl hn (by omega) (by omega)
  have f2 : (-th).toInt = -t := i64_neg ht (by omega)
  have z0 : (0 : Int64).toInt = 0 := rfl
  have a1 : (nt ≤ 0) ↔ n ≤ 0 := by rw [i64_le_iff, hn, z0]
  have a2 : (0 ≤ nt) ↔ 0 ≤ n := by rw [i64_le_iff, hn, z0]
  have a3 : (-th ≤ 1000 * nt) ↔ -t ≤ 1000 * n := by rw [i64_le_iff, f1, f2]
  have a4 : (1000 * nt ≤ th) ↔ 1000 * n ≤ t := by rw [i64_le_iff, f1, ht]
  by_cases c1 : n ≤ 0
  · rw [if_pos (a1.mpr c1)]
    by_cases c2 : 0 ≤ n
    · rw [if_pos (a2.mpr c2), dN_0 (by omega) (by omega)]; rfl
    · rw [if_neg (fun z => c2 (a2.mp z))]
      by_cases c3 : -t ≤ 1000 * n
      · rw [if_pos (a3.mpr c3), dN_0 (by omega) (by omega)]; rfl
      · rw [if_neg (fun z => c3 (a3.mp z)), dN_m (by omega) (by omega)]; rfl
  · rw [if_neg (fun z => c1 (a1.mp z))]
    by_cases c2 : 1000 * n ≤ t
    · rw [if_pos (a4.mpr c2), if_pos (a2.mpr (by omega)), dN_0 (by omega) (by omega)]; rfl
    · rw [if_neg (fun z => c2 (a4.mp z)), dN_1 (by omega)]; rfl
theorem th_int {T : zTr} (hB : iB T) : ((gTr_st T 1).toInt64 * f_X6_value T).toInt = (gTr_st T 1).toInt * vI T ∧ 0 ≤ (gTr_st T 1).toInt * vI T ∧ (gTr_st T 1).toInt * vI T ≤ 10010000000000 := by
  obtain ⟨v1, v2, v3, v4⟩ := vI_bd hB
  have hc := hB.2.2.2.1
  have h1 := hB.1 1 (by omega)
  rw [zGi1] at h1
  have h4 : 0 ≤ (gTr_st T 1).toInt * vI T := Int.mul_nonneg h1.1 (by omega)
  have h5 : (gTr_st T 1).toInt * vI T ≤ 1000 * vI T := Int.mul_le_mul_of_nonneg_right h1.2 (by omega)
  exact ⟨i64_mul (i32_l _) (value_int hB) (by omega) (by omega), h4, by omega⟩
theorem swung_int {T : zTr} (x : zDd) (hB : iB T) {m1 m2 : Int} (hb : iO m1 (gTr_bu T)) (hl : iO m2 (gTr_le T)) : (gDd_swung (f_X0_takePrice x T)).toInt = dirI T := by
  obtain ⟨n1, n2, n3, -⟩ := net_int x hB hb hl
  obtain ⟨t1, t2, t3⟩ := th_int hB
  have hu := units_int hB.2.2.2.2
  show (if f_X6_units T ≤ 0 then nI 0 else f_X0_direction (1000 * (f_X4_sum (gTr_bu T) 0 (f_X4_dueOn (gTr_bu T) (gTr_day T)) - gDd_allowed (f_X0_takePrice x T) * f_X6_middle T / 1000)) ((gTr_st T 1).toInt64 * f_X6_value T)).toInt = _
  unfold dirI
  by_cases c : uAll T ≤ 0
  · rw [if_pos c, if_pos (by rw [i64_le_iff, hu]; exact c)]; rfl
  · rw [if_neg c, if_neg (by rw [i64_le_iff, hu]; exact c)]
    exact dir_int n1 t1 ⟨n2, n3⟩ ⟨t2, t3⟩
theorem swing_eq {T : zTr} {S : zMs} (x : zDd) (hR : RC T (gMs_at S)) (hRb : RO 61 (gTr_bu T) (gMs_at S)) (hRl : RO 122 (gTr_le T) (gMs_at S)) (hB : iB T) {m1 m2 : Int} (hb : iO m1 (gTr_bu T)) (hl : iO m2 (gTr_le T)) : f_X8_swing S = gDd_swung (f_X0_takePrice x T) + nI 2 := by
  obtain ⟨n1, n2, n3, -⟩ := net_int x hB hb hl
  obtain ⟨t1, t2, t3⟩ := th_int hB
  have hu := units_int hB.2.2.2.2
  have hd := swung_int x hB hb hl
  obtain ⟨d1, d2, d3⟩ := dirI_bd T
  have hd2 : (gDd_swung (f_X0_takePrice x T) + nI 2).toInt = dirI T + 2 := i32_add hd rfl (by omega) (by omega)
  apply i32_eq_iff.mpr
  rw [hd2]
  unfold f_X8_swing
  rw [zsl_e]
  dsimp only
  rw [hR.2.2.2.2.2.2.1, sumDay_eq hRb hb.1 hb.2.2, mayLeave_eq x hR hRl hl, middle_eq hR hB.2.2.2.2, hR.1 1 (by omega), value_eq hR, issue_eq hR]
  unfold dirI at d1 d2 ⊢
  by_cases c : uAll T ≤ 0
  · have h0 := uAll_nn hB.2.2.2.2
    rw [if_pos (i64_eq_iff.mpr (by rw [hu]; show _ = (0 : Int); omega)), if_pos c]; rfl
  · rw [if_neg c] at d1 d2
    rw [if_neg (fun z => by rw [z] at hu; have z0 : (0 : Int64).toInt = 0 := rfl; omega), if_neg c, ← sw_int n1 t1 ⟨n2, n3⟩ ⟨t2, t3⟩]
    exact nI_int (Int.ofNat_lt.mp (by rw [sw_int n1 t1 ⟨n2, n3⟩ ⟨t2, t3⟩]; omega))
/-- the price in integers -/
noncomputable def pI (T : zTr) : Int := (1000 + dirI T * (gTr_st T 2).toInt) * mI T / 1000
theorem k_bd {T : zTr} (hB : iB T) : 900 ≤ 1000 + dirI T * (gTr_st T 2).toInt ∧ 1000 + dirI T * (gTr_st T 2).toInt ≤ 1100 ∧ (uAll T ≤ 0 → 1000 + dirI T * (gTr_st T 2).toInt = 1000) := by
  obtain ⟨d1, d2, d3⟩ := dirI_bd T
  have h2 := hB.1 2 (by omega)
  rw [zGi2] at h2
  rcases (show dirI T = -1 ∨ dirI T = 0 ∨ dirI T = 1 by omega) with e | e | e
  · rw [e]; exact ⟨by omega, by omega, fun z => by have := d3 z; omega⟩
  · rw [e]; exact ⟨by omega, by omega, fun z => by omega⟩
  · rw [e]; exact ⟨by omega, by omega, fun z => by have := d3 z; omega⟩
theorem price_int {T : zTr} (x : zDd) (hB : iB T) {m1 m2 : Int} (hb : iO m1 (gTr_bu T)) (hl : iO m2 (gTr_le T)) : (gDd_price (f_X0_takePrice x T)).toInt = pI T ∧ ((nI 1000 + gDd_swung (f_X0_takePrice x T) * gTr_st T 2).toInt64).toInt = 1000 + dirI T * (gTr_st T 2).toInt ∧ (nI 1000 + gDd_swung (f_X0_takePrice x T) * gTr_st T 2).toInt64 = 1000 + (gDd_swung (f_X0_takePrice x T)).toInt64 * (gTr_st T 2).toInt64 := by
  obtain ⟨k1, k2, -⟩ := k_bd hB
  obtain ⟨m1', m2', -⟩ := mI_bd hB
  have hd := swung_int x hB hb hl
  have e1 : (gDd_swung (f_X0_takePrice x T) * gTr_st T 2).toInt = dirI T * (gTr_st T 2).toInt := i32_mul hd rfl (by omega) (by omega)
  have e2 : (nI 1000 + gDd_swung (f_X0_takePrice x T) * gTr_st T 2).toInt = 1000 + dirI T * (gTr_st T 2).toInt := i32_add (x := 1000) rfl e1 (by omega) (by omega)
  have e3 : ((nI 1000 + gDd_swung (f_X0_takePrice x T) * gTr_st T 2).toInt64).toInt = 1000 + dirI T * (gTr_st T 2).toInt := (i32_l _).trans e2
  refine ⟨?_, e3, i64_eq_iff.mpr ?_⟩
  · show ((nI 1000 + gDd_swung (f_X0_takePrice x T) * gTr_st T 2).toInt64 * f_X6_middle T / 1000).toInt = _
    unfold pI
    generalize (1000 + dirI T * (gTr_st T 2).toInt) = k at k1 k2 e3
    have q1 : 0 ≤ k * mI T := Int.mul_nonneg (by omega) m1'
    have q2 : k * mI T ≤ 1100 * 10010000000000 := Int.mul_le_mul k2 m2' m1' (by decide)
    exact i64_div (i64_mul e3 (middle_int hB) (by omega) (by omega)) rfl q1 (by decide)
  · rw [e3]
    exact (i64_add (x := 1000) rfl (i64_mul ((i32_l _).trans hd) (i32_l _) (by omega) (by omega)) (by omega) (by omega)).symm
theorem priceNow_eq {T : zTr} {S : zMs} (x : zDd) (hR : RC T (gMs_at S)) (hRb : RO 61 (gTr_bu T) (gMs_at S)) (hRl : RO 122 (gTr_le T) (gMs_at S)) (hB : iB T) {m1 m2 : Int} (hb : iO m1 (gTr_bu T)) (hl : iO m2 (gTr_le T)) : f_X8_priceNow S = gDd_price (f_X0_takePrice x T) := by
  obtain ⟨-, -, p3⟩ := price_int x hB hb hl
  have hd := swung_int x hB hb hl
  obtain ⟨d1, d2, -⟩ := dirI_bd T
  unfold f_X8_priceNow
  rw [zsl_e, swing_eq x hR hRb hRl hB hb hl, middle_eq hR hB.2.2.2.2, hR.1 2 (by omega)]
  have e : gDd_swung (f_X0_takePrice x T) + nI 2 - nI 2 = gDd_swung (f_X0_takePrice x T) := i32_eq_iff.mpr (by
    rw [i32_sub (i32_add hd (show (nI 2).toInt = 2 from rfl) (by omega) (by omega)) (show (nI 2).toInt = 2 from rfl) (by omega) (by omega), hd]; omega)
  rw [e, ← p3, Int64.mul_comm]
  rfl
/-- what the price is bounded by -/
theorem pI_bd {T : zTr} (hB : iB T) : 0 ≤ pI T ∧ pI T ≤ 2 * mI T ∧ mI T ≤ 2 * pI T + 2 := by
  obtain ⟨k1, k2, -⟩ := k_bd hB
  obtain ⟨m1', m2', -⟩ := mI_bd hB
  unfold pI
  generalize (1000 + dirI T * (gTr_st T 2).toInt) = k at k1 k2
  have q1 : 900 * mI T ≤ k * mI T := Int.mul_le_mul_of_nonneg_right k1 m1'
  have q2 : k * mI T ≤ 1100 * mI T := Int.mul_le_mul_of_nonneg_right k2 m1'
  omega
/-- what a share of units is paid -/
theorem share_bd {T : zTr} (hB : iB T) {s : Int} (h1 : 0 ≤ s) (h2 : s ≤ uAll T) : 0 ≤ s * pI T ∧ s * pI T ≤ 20020000000000 := by
  obtain ⟨m1', m2', -, m4, -⟩ := mI_bd hB
  obtain ⟨p1, p2, p3⟩ := pI_bd hB
  obtain ⟨v1, v2, v3, v4⟩ := vI_bd hB
  refine ⟨Int.mul_nonneg h1 p1, ?_⟩
  by_cases c : 0 < uAll T
  · have q1 : s * pI T ≤ s * (2 * mI T) := Int.mul_le_mul_of_nonneg_left p2 h1
    have q2 : s * mI T ≤ uAll T * mI T := Int.mul_le_mul_of_nonneg_right h2 m1'
    have q3 : s * (2 * mI T) = 2 * (s * mI T) := by rw [Int.mul_left_comm]
    have := (m4 c).1
    omega
  · have : s = 0 := by omega
    rw [this, Int.zero_mul]; omega
/-- what the units that are made bring into the income pool -/
theorem made_bd {T : zTr} (hB : iB T) {u a : Int} (h1 : 0 ≤ u) (h2 : u ≤ 1000000000) (h3 : u * pI T ≤ 1000 * a) (ha : a ≤ 1000000000) : 0 ≤ u * iI T ∧ u * iI T ≤ 2002000000000 := by
  obtain ⟨m1', m2', i1, m4, m5⟩ := mI_bd hB
  obtain ⟨p1, p2, p3⟩ := pI_bd hB
  refine ⟨Int.mul_nonneg h1 i1, ?_⟩
  by_cases c : 0 < uAll T
  · have q0 := (m4 c).2
    have q1 : u * iI T ≤ u * (2 * pI T + 2) := Int.mul_le_mul_of_nonneg_left (by omega) h1
    have q3 : u * (2 * pI T + 2) = 2 * (u * pI T) + u * 2 := by rw [Int.mul_add, Int.mul_left_comm]
    omega
  · rw [m5 (by omega), Int.mul_zero]; omega
