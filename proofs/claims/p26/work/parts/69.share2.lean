/-! a day's orders: both sides alike -/
theorem ofO_eq {S : zMs} {o : zOd} (hR : RO 122 o (gMs_at S)) {i : Nat} (hi : i < gOd_n o) : f_X8_ofOrder S 122 i 1 = (gOd_sz o i).toInt64 ∧ f_X8_ofOrder S 122 i 2 = (gOd_dy o i).toInt64 ∧ f_X8_ofOrder S 122 i 0 = (gOd_ho o i).toInt64 := ⟨(hR.2 i hi).2.1, (hR.2 i hi).2.2, (hR.2 i hi).1⟩
theorem sS_split {o : zOd} {fr to n : Nat} (h1 : fr ≤ to) (h2 : to ≤ n) : sS o fr n = sS o fr to + sS o to n := by
  have key : ∀ m : Nat, to + m = n → isum (fun i => (gOd_sz o (fr + i)).toInt) (n - fr) = isum (fun i => (gOd_sz o (fr + i)).toInt) (to - fr) + isum (fun i => (gOd_sz o (to + i)).toInt) m := by
    clear h2
    intro m
    induction m generalizing n with
    | zero =>
      intro e
      have : n = to := by omega
      subst this
      show _ = _ + (0 : Int)
      omega
    | succ m ih =>
      intro e
      have h := ih (n := to + m) rfl
      rw [show n - fr = (to + m - fr) + 1 by omega]
      show isum _ (to + m - fr) + (gOd_sz o (fr + (to + m - fr))).toInt = _ + (isum _ m + (gOd_sz o (to + m)).toInt)
      rw [h, show fr + (to + m - fr) = to + m by omega]
      omega
  have := key (n - to) (by omega)
  exact this
theorem sS_le {mx : Int} {o : zOd} (hO : iO mx o) {fr to : Nat} (h1 : fr ≤ to) (h2 : to ≤ gOd_n o) : sS o fr to ≤ sS o 0 (gOd_n o) := by
  have e1 := sS_split (o := o) (Nat.zero_le fr) (Nat.le_trans h1 h2)
  have e2 := sS_split (o := o) h1 h2
  have n1 := sS_nn hO (fr := 0) (Nat.le_trans h1 h2)
  have n2 := sS_nn hO (fr := to) (Nat.le_refl (gOd_n o))
  omega
theorem sS_ge {mx : Int} {o : zOd} (hO : iO mx o) {fr to i : Nat} (h1 : fr ≤ i) (h2 : i < to) (h3 : to ≤ gOd_n o) : (gOd_sz o i).toInt ≤ sS o fr to := by
  have := isum_ge (f := fun j => (gOd_sz o (fr + j)).toInt) (to - fr) (i - fr) (by omega) (fun j hj => by have := (hO.2.1 (fr + j) (by omega)).2.1; omega)
  rw [show fr + (i - fr) = i by omega] at this
  exact this
/-- one day's sharing out -/
theorem day_eq {S : zMs} {o : zOd} {x : zDd} {mx : Int} (hR : RO 122 o (gMs_at S)) (hO : iO mx o) (ht : sS o 0 (gOd_n o) ≤ 1000000000) {fr to : Nat} (h1 : fr < to) (h2 : to ≤ gOd_n o) (sh sc : Nat → Int64) {left : Int64} (hl : 0 ≤ left.toInt) :
    ∃ sh' sc' : Nat → Int64, f_X8_shareDay (sMs_sh S sh) fr to left = (left - (if left < f_X4_sum o fr to then left else f_X4_sum o fr to), sMs_sh S sh') ∧ f_X0_shareOutDay (sDd_sh x sc) o fr to (f_X4_sum o fr to) (if left < f_X4_sum o fr to then left else f_X4_sum o fr to) = sDd_sh x sc' ∧
      (∀ i, i < fr ∨ to ≤ i → sh' i = sh i ∧ sc' i = sc i) ∧ (∀ i, fr ≤ i → i < to → sh' i = sc' i ∧ 0 ≤ (sc' i).toInt ∧ (sc' i).toInt ≤ (gOd_sz o i).toInt) ∧ 0 ≤ (left - (if left < f_X4_sum o fr to then left else f_X4_sum o fr to)).toInt := by
  have hn := hO.1
  have hsm := sum_int o (Nat.le_of_lt h1) (Nat.le_trans h2 hn)
  have hS0 := sS_le hO (Nat.le_of_lt h1) h2
  have hu : ∀ i, fr ≤ i → i < to → 1 ≤ (gOd_sz o i).toInt ∧ (gOd_sz o i).toInt ≤ sS o fr to := fun i a b => ⟨(hO.2.1 i (by omega)).2.1, sS_ge hO a b h2⟩
  have hS1 : 1 ≤ sS o fr to := by have := hu fr (Nat.le_refl _) h1; omega
  have hsum : ∀ sh : Nat → Int64, (L_X8_sd1 (sMs_sh S sh) to (to - fr + 1) 0 fr).1 = f_X4_sum o fr to := fun sh => by
    rw [L_sd1m_z _ to (to - fr) fr 0 (by omega), Int64.zero_add, sum_z o (Nat.le_of_lt h1)]
    exact zsum_congr _ (fun i hi => (ofO_eq hR (i := fr + i) (by omega)).1)
  unfold f_X8_shareDay f_X0_shareOutDay
  rw [zsl_e]
  dsimp only
  rw [hsum sh]
  obtain ⟨m1, m2⟩ := L_sd2m_at (sMs_sh S sh) to left (f_X4_sum o fr to) (to - fr) fr sh left (by omega)
  obtain ⟨c1, c2⟩ := L_sd1c_at o to (f_X4_sum o fr to) (if left < f_X4_sum o fr to then left else f_X4_sum o fr to) (to - fr) fr sc (if left < f_X4_sum o fr to then left else f_X4_sum o fr to) (by omega)
  have gsh : gMs_sh (sMs_sh S sh) = sh := rfl
  have gsc : gDd_sh (sDd_sh x sc) = sc := rfl
  rw [gsh, gsc]
  generalize L_X8_sd2 (sMs_sh S sh) to left (f_X4_sum o fr to) (to - fr + 1) sh left fr = M at m1 m2 ⊢
  generalize L_X0_sd1 o to (f_X4_sum o fr to) (if left < f_X4_sum o fr to then left else f_X4_sum o fr to) (to - fr + 1) sc (if left < f_X4_sum o fr to then left else f_X4_sum o fr to) fr = Cc at c1 c2 ⊢
  generalize hsmd : f_X4_sum o fr to = sm at hsm m1 m2 c1 c2 ⊢
  generalize hSd : sS o fr to = SS at hsm hS0 hu hS1
  have z0 : (0 : Int64).toInt = 0 := rfl
  by_cases c : left < sm
  · rw [if_pos c] at c1 c2 ⊢
    have hc := i64_lt_iff.mp c
    rw [hsm] at hc
    -- the values
    have hv : ∀ i, fr ≤ i → i < to → vM (sMs_sh S sh) left sm i = vC o sm left i ∧ (vC o sm left i).toInt = (gOd_sz o i).toInt * left.toInt / SS := fun i a b => by
      have hui := hu i a b
      have e1 : vM (sMs_sh S sh) left sm i = (gOd_sz o i).toInt64 * left / sm := by
        unfold vM
        rw [if_pos c]
        have : f_X8_ofOrder (sMs_sh S sh) 122 i 1 = (gOd_sz o i).toInt64 := (ofO_eq hR (i := i) (by omega)).1
        rw [this]
      have e2 : vC o sm left i = (gOd_sz o i).toInt64 * left / sm := by
        unfold vC
        rw [if_neg (by rw [i64_le_iff, hsm, z0]; omega)]
      refine ⟨e1.trans e2.symm, ?_⟩
      rw [e2]
      have p1 : 0 ≤ (gOd_sz o i).toInt * left.toInt := Int.mul_nonneg (by omega) hl
      have p2 : (gOd_sz o i).toInt * left.toInt ≤ 1000000000 * 1000000000 := Int.mul_le_mul (by omega) (by omega) hl (by decide)
      exact i64_div (i64_mul (i32_l _) rfl (by omega) (by omega)) hsm p1 (by omega)
    have hz : zsum (fun j => vM (sMs_sh S sh) left sm (fr + j)) (to - fr) = zsum (fun j => vC o sm left (fr + j)) (to - fr) := zsum_congr _ (fun j hj => (hv (fr + j) (by omega) (by omega)).1)
    rw [hz] at m2
    -- what is left
    obtain ⟨f1, f2⟩ := floor_sum (u := fun j => (gOd_sz o (fr + j)).toInt) (L := left.toInt) (S := SS) hl (by omega) (to - fr) (fun j hj => by have := hu (fr + j) (by omega) (by omega); omega)
    have hU : isum (fun j => (gOd_sz o (fr + j)).toInt) (to - fr) = SS := hSd
    have hnn : ∀ j, j < to - fr → 0 ≤ (gOd_sz o (fr + j)).toInt * left.toInt / SS := fun j hj => Int.ediv_nonneg (Int.mul_nonneg (by have := hu (fr + j) (by omega) (by omega); omega) hl) (by omega)
    have hle : ∀ j, j < to - fr → (gOd_sz o (fr + j)).toInt * left.toInt / SS < (gOd_sz o (fr + j)).toInt := fun j hj => by
      have := hu (fr + j) (by omega) (by omega)
      exact Int.ediv_lt_of_lt_mul (by omega) (Int.mul_lt_mul_of_pos_left hc (by omega))
    have hZ : (zsum (fun j => vC o sm left (fr + j)) (to - fr)).toInt = isum (fun j => (gOd_sz o (fr + j)).toInt * left.toInt / SS) (to - fr) := by
      refine zsum_int _ (fun j hj => (hv (fr + j) (by omega) (by omega)).2) (isum_r _ (by omega) (fun j hj => ?_))
      have a1 := hnn j hj
      have a2 := hle j hj
      have a3 := i32_lt (a := gOd_sz o (fr + j))
      omega
    rw [hU] at f1 f2
    generalize isum (fun j => (gOd_sz o (fr + j)).toInt * left.toInt / SS) (to - fr) = Z at hZ f1 f2
    have hZl : Z ≤ left.toInt := by
      rw [Int.mul_comm left.toInt] at f1
      exact Int.le_of_mul_le_mul_left f1 (by omega)
    have hZg : left.toInt - Z < ((to - fr : Nat) : Int) := by
      refine Int.lt_of_mul_lt_mul_left (a := SS) ?_ (by omega)
      rw [Int.mul_sub, Int.mul_comm SS left.toInt]
      have q1 : ((to - fr : Nat) : Int) * (SS - 1) = SS * ((to - fr : Nat) : Int) - ((to - fr : Nat) : Int) := by rw [Int.mul_sub, Int.mul_one, Int.mul_comm]
      omega
    obtain ⟨r, hr⟩ : ∃ r : Nat, left.toInt - Z = (r : Int) := ⟨(left.toInt - Z).toNat, by omega⟩
    have hZ0 : 0 ≤ Z := by
      have := zsum_int (f := fun j => vC o sm left (fr + j)) (g := fun j => (gOd_sz o (fr + j)).toInt * left.toInt / SS) (to - fr) (fun j hj => (hv (fr + j) (by omega) (by omega)).2) (isum_r _ (by omega) (fun j hj => by
        have a1 := hnn j hj
        have a2 := hle j hj
        have a3 := i32_lt (a := gOd_sz o (fr + j))
        omega))
      rw [hZ] at this
      rw [this]
      exact isum_nn _ hnn
    have hrest : M.2.1.toInt = (r : Int) := by
      rw [m2, i64_sub rfl hZ (by omega) (by omega)]; exact hr
    have hrestc : Cc.2.1.toInt = (r : Int) := by
      rw [c2, i64_sub rfl hZ (by omega) (by omega)]; exact hr
    have hM1 : ∀ i, fr ≤ i → i < to → M.1 i = vC o sm left i := fun i a b => by rw [m1 i, if_pos ⟨a, b⟩]; exact (hv i a b).1
    have hC1 : ∀ i, fr ≤ i → i < to → Cc.1 i = vC o sm left i := fun i a b => by rw [c1 i, if_pos ⟨a, b⟩]
    have hvb : ∀ i, fr ≤ i → i < to → 0 ≤ (vC o sm left i).toInt ∧ (vC o sm left i).toInt < (gOd_sz o i).toInt := fun i a b => by
      have a1 := hnn (i - fr) (by omega)
      have a2 := hle (i - fr) (by omega)
      rw [show fr + (i - fr) = i by omega] at a1 a2
      rw [(hv i a b).2]
      exact ⟨a1, a2⟩
    obtain ⟨d1, d2⟩ := L_sd3m_at (sMs_sh S sh) to left sm c (to - fr) fr M.1 M.2.1 r (by omega) hrest (fun i a b => by
      rw [hM1 i a b]
      have := (hvb i a b).2
      have a3 := i32_lt (a := gOd_sz o i)
      omega)
    have e1 := L_sd2c_at o to Cc.1 Cc.2.1 Cc.2.2 (to - fr) fr Cc.1 Cc.2.1 r (by omega) hrestc (fun i a b _ => by rw [hC1 i a b]; exact (hvb i a b).2)
    generalize L_X8_sd3 (sMs_sh S sh) to left sm (to - fr + 1) M.1 M.2.1 fr = D at d1 d2 ⊢
    generalize L_X0_sd2 o to Cc.1 Cc.2.1 Cc.2.2 (to - fr + 1) Cc.1 Cc.2.1 fr = Dc at e1 ⊢
    have hD0 : D.2.1 = left - left := by
      apply i64_eq_iff.mpr
      rw [d2, if_pos (by omega), Int64.sub_self]; rfl
    refine ⟨D.1, Dc.1, by rw [hD0], rfl, fun i hi => ⟨?_, ?_⟩, fun i a b => ?_, by rw [Int64.sub_self]; exact Int.le_refl _⟩
    · rw [d1 i, if_neg (by omega), m1 i, if_neg (by omega)]
    · rw [e1 i, if_neg (by omega), c1 i, if_neg (by omega)]
    · rw [d1 i, e1 i, hM1 i a b, hC1 i a b]
      have hb := hvb i a b
      have a3 := i32_lt (a := gOd_sz o i)
      refine ⟨rfl, ?_⟩
      split
      · have : (vC o sm left i + 1).toInt = (vC o sm left i).toInt + 1 := i64_add rfl rfl (by omega) (by omega)
        rw [this]; omega
      · omega
  · rw [if_neg c] at c1 c2 ⊢
    have hc : SS ≤ left.toInt := by
      rw [i64_lt_iff, hsm] at c; omega
    have hv : ∀ i, fr ≤ i → i < to → vM (sMs_sh S sh) left sm i = (gOd_sz o i).toInt64 ∧ vC o sm sm i = (gOd_sz o i).toInt64 := fun i a b => by
      have hui := hu i a b
      refine ⟨?_, ?_⟩
      · unfold vM
        rw [if_neg c]
        exact (ofO_eq hR (i := i) (by omega)).1
      · unfold vC
        rw [if_neg (by rw [i64_le_iff, hsm, z0]; omega)]
        apply i64_eq_iff.mpr
        have p1 : 0 ≤ (gOd_sz o i).toInt * SS := Int.mul_nonneg (by omega) (by omega)
        have p2 : (gOd_sz o i).toInt * SS ≤ 1000000000 * 1000000000 := Int.mul_le_mul (by omega) (by omega) (by omega) (by decide)
        rw [i64_div (i64_mul (i32_l _) hsm (by omega) (by omega)) hsm p1 (by omega), i32_l]
        exact Int.mul_ediv_cancel _ (by omega)
    have hze : zsum (fun j => (gOd_sz o (fr + j)).toInt64) (to - fr) = sm := by rw [← sum_z o (Nat.le_of_lt h1)]; exact hsmd
    have hzm : zsum (fun j => vM (sMs_sh S sh) left sm (fr + j)) (to - fr) = sm := (zsum_congr _ (fun j hj => (hv (fr + j) (by omega) (by omega)).1)).trans hze
    have hzc : zsum (fun j => vC o sm sm (fr + j)) (to - fr) = sm := (zsum_congr _ (fun j hj => (hv (fr + j) (by omega) (by omega)).2)).trans hze
    rw [hzm] at m2
    rw [hzc, Int64.sub_self] at c2
    have hM1 : ∀ i, fr ≤ i → i < to → M.1 i = (gOd_sz o i).toInt64 := fun i a b => by rw [m1 i, if_pos ⟨a, b⟩]; exact (hv i a b).1
    have hC1 : ∀ i, fr ≤ i → i < to → Cc.1 i = (gOd_sz o i).toInt64 := fun i a b => by rw [c1 i, if_pos ⟨a, b⟩]; exact (hv i a b).2
    have e3 : L_X8_sd3 (sMs_sh S sh) to left sm (to - fr + 1) M.1 M.2.1 fr = (M.1, M.2.1, fr) := by
      rw [L_X8_sd3_s, if_neg (by omega), if_pos (Int64.not_lt.mp c)]
    have e1 := L_sd2c_at o to Cc.1 Cc.2.1 Cc.2.2 (to - fr) fr Cc.1 Cc.2.1 0 (by omega) (by rw [c2]; rfl) (fun i a b c => by omega)
    rw [e3]
    generalize L_X0_sd2 o to Cc.1 Cc.2.1 Cc.2.2 (to - fr + 1) Cc.1 Cc.2.1 fr = Dc at e1 ⊢
    have hsub : (left - sm).toInt = left.toInt - SS := by
      have := i64_lt (a := left)
      exact i64_sub rfl hsm (by omega) (by omega)
    refine ⟨M.1, Dc.1, by rw [m2], rfl, fun i hi => ⟨?_, ?_⟩, fun i a b => ?_, by rw [hsub]; omega⟩
    · rw [m1 i, if_neg (by omega)]
    · rw [e1 i, if_neg (by omega), c1 i, if_neg (by omega)]
    · rw [e1 i, if_neg (by omega), hM1 i a b, hC1 i a b, i32_l]
      have := hu i a b
      exact ⟨rfl, by omega, Int.le_refl _⟩
