/-! the shares of a day's end, day by day -/
/-- how many of the first orders have an earlier day -/
def cntD (o : zOd) (d : Int) : Nat → Nat
  | 0 => 0
  | n + 1 => cntD o d n + (if oD o n < d then 1 else 0)
theorem cntD_le (o : zOd) (d : Int) : ∀ n, cntD o d n ≤ n
  | 0 => Nat.le_refl _
  | n + 1 => by
    have := cntD_le o d n
    show cntD o d n + (if oD o n < d then 1 else 0) ≤ n + 1
    split <;> omega
theorem cnt_iff {o : zOd} (d : Int) : ∀ n, (∀ i j, i ≤ j → j < n → oD o i ≤ oD o j) → ∀ i, i < n → (i < cntD o d n ↔ oD o i < d)
  | 0, _, i, hi => by omega
  | n + 1, hs, i, hi => by
    have ih := cnt_iff d n (fun i j a b => hs i j a (by omega))
    have hl := cntD_le o d n
    show i < cntD o d n + (if oD o n < d then 1 else 0) ↔ _
    by_cases g : oD o n < d
    · have hall : ∀ j, j < n → j < cntD o d n := fun j hj => (ih j hj).mpr (by have := hs j n (by omega) (by omega); omega)
      have hn : cntD o d n = n := by
        by_cases e : cntD o d n = n
        · exact e
        · have := hall (cntD o d n) (by omega); omega
      rw [if_pos g, hn]
      have := hs i n (by omega) (by omega)
      constructor
      · intro _; omega
      · intro _; omega
    · rw [if_neg g, Nat.add_zero]
      by_cases e : i = n
      · subst e
        constructor
        · intro q; omega
        · intro q; omega
      · exact ih i (by omega)
theorem oSort_i {o : zOd} (hs : oSort o) : ∀ i j, i ≤ j → j < gOd_n o → oD o i ≤ oD o j := fun i j a b => i32_le_iff.mp (hs i j a b)
theorem cnt_mono {o : zOd} (hs : oSort o) {d d' : Int} (h : d ≤ d') : cntD o d (gOd_n o) ≤ cntD o d' (gOd_n o) := by
  have l := cntD_le o d (gOd_n o)
  by_cases c : cntD o d (gOd_n o) ≤ cntD o d' (gOd_n o)
  · exact c
  · have h1 := (cnt_iff d (gOd_n o) (oSort_i hs) (cntD o d' (gOd_n o)) (by omega)).mp (by omega)
    have h2 := (cnt_iff d' (gOd_n o) (oSort_i hs) (cntD o d' (gOd_n o)) (by omega)).mpr (by omega)
    omega
theorem cnt_due {o : zOd} (hs : oSort o) (day : Int32) : f_X4_dueOn o day = cntD o (day.toInt + 1) (gOd_n o) := by
  obtain ⟨h1, h2⟩ := due_spec o day
  have hd : f_X4_dueOn o day ≤ gOd_n o := xdue_le
  have hl := cntD_le o (day.toInt + 1) (gOd_n o)
  have key := cnt_iff (day.toInt + 1) (gOd_n o) (oSort_i hs)
  by_cases a : f_X4_dueOn o day < cntD o (day.toInt + 1) (gOd_n o)
  · have := (key _ (by omega)).mp a
    have g := h2 (by omega)
    rw [i32_lt_iff] at g
    unfold oD at this
    omega
  · by_cases b : cntD o (day.toInt + 1) (gOd_n o) < f_X4_dueOn o day
    · have g := h1 _ b
      rw [i32_le_iff] at g
      have := (key (cntD o (day.toInt + 1) (gOd_n o)) (by omega)).mpr (by unfold oD; omega)
      omega
    · omega
theorem so2_t {o : zOd} (hs : oSort o) {due fr : Nat} {d : Int} (hdue : due ≤ gOd_n o) (hfr : oD o fr = d) (hto : cntD o (d + 1) (gOd_n o) ≤ due) : ∀ m t : Nat, t + m = due → fr < t → t ≤ cntD o (d + 1) (gOd_n o) → L_X0_so2 o due fr (m + 1) t = cntD o (d + 1) (gOd_n o) := by
  have hs2 : ∀ (f t : Nat), L_X0_so2 o due fr (f + 1) t = if due ≤ t then t else if gOd_dy o t = gOd_dy o fr then L_X0_so2 o due fr f (t + 1) else t := fun f t => rfl
  have key := cnt_iff (d + 1) (gOd_n o) (oSort_i hs)
  intro m
  induction m with
  | zero =>
    intro t ht h1 h2
    rw [hs2, if_pos (by omega)]
    omega
  | succ m ih =>
    intro t ht h1 h2
    rw [hs2, if_neg (by omega)]
    by_cases c : gOd_dy o t = gOd_dy o fr
    · rw [if_pos c]
      have e : oD o t = d := by rw [← hfr]; unfold oD; rw [c]
      have := (key t (by omega)).mpr (by omega)
      exact ih (t + 1) (by omega) (by omega) (by omega)
    · rw [if_neg c]
      have h3 := oSort_i hs fr t (by omega) (by omega)
      have h4 : oD o t ≠ d := fun e => c (i32_eq_iff.mpr (by show oD o t = oD o fr; omega))
      have h5 : ¬ t < cntD o (d + 1) (gOd_n o) := fun q => by have := (key t (by omega)).mp q; omega
      omega
/-- the floors' sum, from one place on -/
def flS (o : zOd) (L S : Int) (fr m : Nat) : Int := isum (fun j => oS o (fr + j) * L / S) m
/-- what an order of a day gets, when L units are left for S -/
def shG (o : zOd) (L S : Int) (fr to i : Nat) : Int := if S ≤ L then oS o i else oS o i * L / S + (if (i : Int) - fr < L - flS o L S fr (to - fr) then 1 else 0)
theorem flS_r {mx : Int} {o : zOd} (hO : iO mx o) (ht : sS o 0 (gOd_n o) ≤ 1000000000) {fr to : Nat} (h1 : fr < to) (h2 : to ≤ gOd_n o) {L : Int} (hL : 0 ≤ L) (hLS : L < sS o fr to) : 0 ≤ L - flS o L (sS o fr to) fr (to - fr) ∧ L - flS o L (sS o fr to) fr (to - fr) ≤ (to - fr : Nat) ∧ ∀ j, j < to - fr → 0 ≤ oS o (fr + j) * L ∧ oS o (fr + j) * L ≤ 1000000000000000000 ∧ 0 ≤ oS o (fr + j) * L / sS o fr to ∧ oS o (fr + j) * L / sS o fr to < oS o (fr + j) := by
  have hS0 := sS_le hO (Nat.le_of_lt h1) h2
  have hS : 0 < sS o fr to := by omega
  have hp : ∀ j, j < to - fr → 1 ≤ oS o (fr + j) ∧ oS o (fr + j) ≤ sS o fr to := fun j hj => ⟨(hO.2.1 (fr + j) (by omega)).2.1, sS_ge hO (i := fr + j) (by omega) (by omega) h2⟩
  obtain ⟨f1, f2⟩ := floor_sum (u := fun j => oS o (fr + j)) hL hS (to - fr) (fun j hj => by have := hp j hj; omega)
  have e1 : isum (fun j => oS o (fr + j)) (to - fr) = sS o fr to := rfl
  have e2 : isum (fun j => oS o (fr + j) * L / sS o fr to) (to - fr) = flS o L (sS o fr to) fr (to - fr) := rfl
  rw [e1, e2] at f1 f2
  generalize flS o L (sS o fr to) fr (to - fr) = F at f1 f2 ⊢
  generalize sS o fr to = S at *
  have g1 : F ≤ L := by
    have : S * F ≤ S * L := by rw [Int.mul_comm S L]; exact f1
    exact Int.le_of_mul_le_mul_left this hS
  have g2 : L - F ≤ ((to - fr : Nat) : Int) := by
    have : S * L ≤ S * (F + ((to - fr : Nat) : Int)) := by
      have q1 : ((to - fr : Nat) : Int) * (S - 1) ≤ S * ((to - fr : Nat) : Int) := by
        rw [Int.mul_sub, Int.mul_comm S]; omega
      rw [Int.mul_add, Int.mul_comm S L]
      omega
    have := Int.le_of_mul_le_mul_left this hS
    omega
  refine ⟨by omega, g2, fun j hj => ?_⟩
  obtain ⟨p1, p2⟩ := hp j hj
  have m1 : 0 ≤ oS o (fr + j) * L := Int.mul_nonneg (by omega) hL
  have m2 : oS o (fr + j) * L ≤ 1000000000 * 1000000000 := Int.mul_le_mul (by omega) (by omega) hL (by decide)
  refine ⟨m1, m2, Int.ediv_nonneg m1 (by omega), ?_⟩
  refine Int.ediv_lt_of_lt_mul hS ?_
  exact Int.mul_lt_mul_of_pos_left hLS (by omega)
/-- the class's sharing of one day -/
theorem day_sp {mx : Int} {o : zOd} {x : zDd} (hO : iO mx o) (ht : sS o 0 (gOd_n o) ≤ 1000000000) {fr to : Nat} (h1 : fr < to) (h2 : to ≤ gOd_n o) (sc : Nat → Int64) {left : Int64} {L : Int} (el : left.toInt = L) (hl : 0 ≤ L ∧ L ≤ 1000000000) :
    ∃ sc' : Nat → Int64, f_X0_shareOutDay (sDd_sh x sc) o fr to (f_X4_sum o fr to) (if left < f_X4_sum o fr to then left else f_X4_sum o fr to) = sDd_sh x sc' ∧ (∀ i, i < fr ∨ to ≤ i → sc' i = sc i) ∧ (∀ i, fr ≤ i → i < to → (sc' i).toInt = shG o L (sS o fr to) fr to i) ∧ (left - (if left < f_X4_sum o fr to then left else f_X4_sum o fr to)).toInt = (if sS o fr to ≤ L then L - sS o fr to else 0) := by
  have hn := hO.1
  have hsm := sum_int o (Nat.le_of_lt h1) (Nat.le_trans h2 hn)
  have hS0 := sS_le hO (Nat.le_of_lt h1) h2
  have hu : ∀ i, fr ≤ i → i < to → 1 ≤ oS o i ∧ oS o i ≤ sS o fr to := fun i a b => ⟨(hO.2.1 i (by omega)).2.1, sS_ge hO a b h2⟩
  have hS1 : 1 ≤ sS o fr to := by have := hu fr (Nat.le_refl _) h1; omega
  have z0 : (0 : Int64).toInt = 0 := rfl
  have hgv : (if left < f_X4_sum o fr to then left else f_X4_sum o fr to).toInt = (if sS o fr to ≤ L then sS o fr to else L) := by
    by_cases c : left < f_X4_sum o fr to
    · rw [if_pos c]
      rw [i64_lt_iff, el, hsm] at c
      rw [if_neg (by omega), el]
    · rw [if_neg c]
      rw [i64_lt_iff, el, hsm] at c
      rw [if_pos (by omega), hsm]
  have hlr : (left - (if left < f_X4_sum o fr to then left else f_X4_sum o fr to)).toInt = (if sS o fr to ≤ L then L - sS o fr to else 0) := by
    have : (left - (if left < f_X4_sum o fr to then left else f_X4_sum o fr to)).toInt = L - (if sS o fr to ≤ L then sS o fr to else L) := i64_sub el hgv (by split <;> omega) (by split <;> omega)
    rw [this]
    split <;> omega
  obtain ⟨c1, c2⟩ := L_sd1c_at o to (f_X4_sum o fr to) (if left < f_X4_sum o fr to then left else f_X4_sum o fr to) (to - fr) fr sc (if left < f_X4_sum o fr to then left else f_X4_sum o fr to) (by omega)
  have form : f_X0_shareOutDay (sDd_sh x sc) o fr to (f_X4_sum o fr to) (if left < f_X4_sum o fr to then left else f_X4_sum o fr to) = sDd_sh x (L_X0_sd2 o to (L_X0_sd1 o to (f_X4_sum o fr to) (if left < f_X4_sum o fr to then left else f_X4_sum o fr to) (to - fr + 1) sc (if left < f_X4_sum o fr to then left else f_X4_sum o fr to) fr).1 (L_X0_sd1 o to (f_X4_sum o fr to) (if left < f_X4_sum o fr to then left else f_X4_sum o fr to) (to - fr + 1) sc (if left < f_X4_sum o fr to then left else f_X4_sum o fr to) fr).2.1 (L_X0_sd1 o to (f_X4_sum o fr to) (if left < f_X4_sum o fr to then left else f_X4_sum o fr to) (to - fr + 1) sc (if left < f_X4_sum o fr to then left else f_X4_sum o fr to) fr).2.2 (to - fr + 1) (L_X0_sd1 o to (f_X4_sum o fr to) (if left < f_X4_sum o fr to then left else f_X4_sum o fr to) (to - fr + 1) sc (if left < f_X4_sum o fr to then left else f_X4_sum o fr to) fr).1 (L_X0_sd1 o to (f_X4_sum o fr to) (if left < f_X4_sum o fr to then left else f_X4_sum o fr to) (to - fr + 1) sc (if left < f_X4_sum o fr to then left else f_X4_sum o fr to) fr).2.1 fr).1 := rfl
  rw [form]
  generalize L_X0_sd1 o to (f_X4_sum o fr to) (if left < f_X4_sum o fr to then left else f_X4_sum o fr to) (to - fr + 1) sc (if left < f_X4_sum o fr to then left else f_X4_sum o fr to) fr = Cc at c1 c2 ⊢
  generalize (if left < f_X4_sum o fr to then left else f_X4_sum o fr to) = gv at hgv hlr c1 c2 ⊢
  generalize f_X4_sum o fr to = sm at hsm c1 c2
  -- the floors
  have hv : ∀ i, fr ≤ i → i < to → (vC o sm gv i).toInt = (if sS o fr to ≤ L then oS o i else oS o i * L / sS o fr to) := fun i a b => by
    obtain ⟨u1, u2⟩ := hu i a b
    unfold vC
    rw [if_neg (by rw [i64_le_iff, hsm, z0]; omega)]
    by_cases c : sS o fr to ≤ L
    · rw [if_pos c] at hgv ⊢
      have m1 : 0 ≤ oS o i * sS o fr to := Int.mul_nonneg (by omega) (by omega)
      have m2 : oS o i * sS o fr to ≤ 1000000000 * 1000000000 := Int.mul_le_mul (by omega) (by omega) (by omega) (by decide)
      rw [i64_div (i64_mul (i32_l _) hgv (by show _ ≤ oS o i * _; omega) (by show oS o i * _ < _; omega)) hsm m1 (by omega)]
      exact Int.mul_ediv_cancel _ (by omega)
    · rw [if_neg c] at hgv ⊢
      obtain ⟨-, -, f3⟩ := flS_r hO ht h1 h2 hl.1 (by omega)
      obtain ⟨m1, m2, -, -⟩ := f3 (i - fr) (by omega)
      rw [show fr + (i - fr) = i by omega] at m1 m2
      exact i64_div (i64_mul (i32_l _) hgv (by show _ ≤ oS o i * _; omega) (by show oS o i * _ < _; omega)) hsm m1 (by omega)
  have hz : (zsum (fun j => vC o sm gv (fr + j)) (to - fr)).toInt = (if sS o fr to ≤ L then sS o fr to else flS o L (sS o fr to) fr (to - fr)) := by
    have e : (zsum (fun j => vC o sm gv (fr + j)) (to - fr)).toInt = isum (fun j => if sS o fr to ≤ L then oS o (fr + j) else oS o (fr + j) * L / sS o fr to) (to - fr) := by
      refine zsum_int (to - fr) (fun j hj => hv (fr + j) (by omega) (by omega)) (isum_r (to - fr) (by omega) (fun j hj => ?_))
      obtain ⟨u1, u2⟩ := hu (fr + j) (by omega) (by omega)
      split
      · exact ⟨by omega, by omega⟩
      · obtain ⟨-, -, f3⟩ := flS_r hO ht h1 h2 hl.1 (by omega)
        obtain ⟨-, -, m3, m4⟩ := f3 j hj
        exact ⟨by omega, by omega⟩
    rw [e]
    by_cases c : sS o fr to ≤ L
    · rw [if_pos c]
      exact isum_congr _ (fun j _ => if_pos c)
    · rw [if_neg c]
      exact isum_congr _ (fun j _ => if_neg c)
  have hrest : Cc.2.1.toInt = (if sS o fr to ≤ L then 0 else L - flS o L (sS o fr to) fr (to - fr)) := by
    rw [c2]
    by_cases c : sS o fr to ≤ L
    · rw [if_pos c] at hgv hz ⊢
      rw [i64_sub hgv hz (by omega) (by omega)]; omega
    · rw [if_neg c] at hgv hz ⊢
      obtain ⟨f1, f2, -⟩ := flS_r hO ht h1 h2 hl.1 (by omega)
      exact i64_sub hgv hz (by omega) (by omega)
  have hr : ∃ r : Nat, Cc.2.1.toInt = (r : Int) ∧ (sS o fr to ≤ L → r = 0) ∧ (¬ sS o fr to ≤ L → (r : Int) = L - flS o L (sS o fr to) fr (to - fr)) := by
    by_cases c : sS o fr to ≤ L
    · rw [if_pos c] at hrest
      exact ⟨0, hrest, fun _ => rfl, fun q => absurd c q⟩
    · rw [if_neg c] at hrest
      obtain ⟨f1, f2, -⟩ := flS_r hO ht h1 h2 hl.1 (by omega)
      exact ⟨(L - flS o L (sS o fr to) fr (to - fr)).toNat, by rw [hrest]; omega, fun q => absurd q c, fun _ => by omega⟩
  obtain ⟨r, r1, r2, r3⟩ := hr
  have hlt : ∀ i, fr ≤ i → i < to → i < fr + r → (Cc.1 i).toInt < (gOd_sz o i).toInt := fun i a b q => by
    rw [c1 i, if_pos ⟨a, b⟩, hv i a b]
    by_cases c : sS o fr to ≤ L
    · have := r2 c; omega
    · rw [if_neg c]
      obtain ⟨-, -, f3⟩ := flS_r hO ht h1 h2 hl.1 (by omega)
      have := (f3 (i - fr) (by omega)).2.2.2
      rw [show fr + (i - fr) = i by omega] at this
      exact this
  have k := L_sd2c_at o to Cc.1 Cc.2.1 Cc.2.2 (to - fr) fr Cc.1 Cc.2.1 r (by omega) r1 hlt
  refine ⟨_, rfl, fun i hi => ?_, fun i a b => ?_, hlr⟩
  · rw [k i, if_neg (by omega), c1 i, if_neg (by omega)]
  · rw [k i]
    unfold shG
    by_cases c : sS o fr to ≤ L
    · have := r2 c
      rw [if_neg (by omega), c1 i, if_pos ⟨a, b⟩, hv i a b, if_pos c, if_pos c]
    · have e := r3 c
      rw [if_neg c]
      obtain ⟨-, -, f3⟩ := flS_r hO ht h1 h2 hl.1 (by omega)
      obtain ⟨-, -, m3, m4⟩ := f3 (i - fr) (by omega)
      rw [show fr + (i - fr) = i by omega] at m3 m4
      obtain ⟨u1, u2⟩ := hu i a b
      by_cases g : i < fr + r
      · rw [if_pos ⟨a, b, g⟩, if_pos (by omega), c1 i, if_pos ⟨a, b⟩]
        have hvi := hv i a b
        rw [if_neg c] at hvi
        exact i64_add hvi rfl (by omega) (by omega)
      · rw [if_neg (by omega), if_neg (by omega), c1 i, if_pos ⟨a, b⟩, hv i a b, if_neg c]
        omega
/-- how far the class has shared out, when all earlier days are done -/
def soP (x : zDd) (o : zOd) (due : Nat) (d : Int) (L : Int) (f : Nat → Int) : Prop := ∃ (m : Nat) (sc : Nat → Int64) (left : Int64), f_X0_shareOut x o due = sDd_sh x (L_X0_so x o due (m + 1) sc left (cntD o d (gOd_n o))).1 ∧ due - cntD o d (gOd_n o) ≤ m ∧ left.toInt = L ∧ (∀ i, i < cntD o d (gOd_n o) → f i = (sc i).toInt) ∧ ∀ i, cntD o d (gOd_n o) ≤ i → f i = 0
theorem soP_0 {x : zDd} {o : zOd} {due : Nat} {L : Int} (hd : ∀ i, i < gOd_n o → 0 ≤ oD o i) (hs : oSort o) (el : (gDd_allowed x).toInt = L) : soP x o due 0 L (fun _ => 0) := by
  have e : cntD o 0 (gOd_n o) = 0 := by
    by_cases c : cntD o 0 (gOd_n o) = 0
    · exact c
    · have hl := cntD_le o 0 (gOd_n o)
      have := (cnt_iff 0 (gOd_n o) (oSort_i hs) 0 (by omega)).mp (by omega)
      have := hd 0 (by omega)
      omega
  exact ⟨due, gDd_sh x, gDd_allowed x, by rw [e]; rfl, by omega, el, fun i hi => by omega, fun i _ => rfl⟩
theorem soP_no {x : zDd} {o : zOd} {due : Nat} {d L : Int} {f : Nat → Int} (h : soP x o due d L f) (e : cntD o (d + 1) (gOd_n o) = cntD o d (gOd_n o)) : soP x o due (d + 1) L f := by
  unfold soP
  rw [e]
  exact h
theorem soP_day {mx : Int} {x : zDd} {o : zOd} (hO : iO mx o) (ht : sS o 0 (gOd_n o) ≤ 1000000000) {due : Nat} (hdue : due ≤ gOd_n o) {d L : Int} {f f' : Nat → Int} (h : soP x o due d L f) (hL : 0 ≤ L ∧ L ≤ 1000000000) (h1 : cntD o d (gOd_n o) < cntD o (d + 1) (gOd_n o)) (h2 : cntD o (d + 1) (gOd_n o) ≤ due) (hf1 : ∀ i, (i < cntD o d (gOd_n o) ∨ cntD o (d + 1) (gOd_n o) ≤ i) → f' i = f i) (hf2 : ∀ i, cntD o d (gOd_n o) ≤ i → i < cntD o (d + 1) (gOd_n o) → f' i = shG o L (sS o (cntD o d (gOd_n o)) (cntD o (d + 1) (gOd_n o))) (cntD o d (gOd_n o)) (cntD o (d + 1) (gOd_n o)) i) : soP x o due (d + 1) (if sS o (cntD o d (gOd_n o)) (cntD o (d + 1) (gOd_n o)) ≤ L then L - sS o (cntD o d (gOd_n o)) (cntD o (d + 1) (gOd_n o)) else 0) f' := by
  obtain ⟨m, sc, left, e1, e2, e3, e4, e5⟩ := h
  have key := cnt_iff d (gOd_n o) (oSort_i hO.2.2)
  have key2 := cnt_iff (d + 1) (gOd_n o) (oSort_i hO.2.2)
  have hfr : oD o (cntD o d (gOd_n o)) = d := by
    have a := (key2 _ (by omega)).mp h1
    have b : ¬ oD o (cntD o d (gOd_n o)) < d := fun q => by have := (key _ (by omega)).mpr q; omega
    omega
  have hso := so2_t hO.2.2 hdue hfr h2 (due - (cntD o d (gOd_n o) + 1)) (cntD o d (gOd_n o) + 1) (by omega) (by omega) (by omega)
  have hto : cntD o (d + 1) (gOd_n o) ≤ gOd_n o := cntD_le _ _ _
  obtain ⟨sc', g1, g2, g3, g4⟩ := day_sp (x := x) hO ht h1 hto sc e3 hL
  have hstep := L_X0_so_s x o due m sc left (cntD o d (gOd_n o))
  rw [if_neg (by omega)] at hstep
  dsimp only at hstep
  rw [hso, g1] at hstep
  rw [hstep] at e1
  obtain ⟨m', rfl⟩ : ∃ m', m = m' + 1 := ⟨m - 1, by omega⟩
  refine ⟨m', sc', _, e1, by omega, g4, fun i hi => ?_, fun i hi => ?_⟩
  · by_cases c : i < cntD o d (gOd_n o)
    · rw [hf1 i (Or.inl c), e4 i c, g2 i (Or.inl c)]
    · rw [hf2 i (by omega) hi, g3 i (by omega) hi]
  · rw [hf1 i (Or.inr hi), e5 i (by omega)]
theorem soP_end {x : zDd} {o : zOd} {due : Nat} {d L : Int} {f : Nat → Int} (h : soP x o due d L f) (e : cntD o d (gOd_n o) = due) : (∀ i, i < due → f i = (gDd_sh (f_X0_shareOut x o due) i).toInt) ∧ ∀ i, due ≤ i → f i = 0 := by
  obtain ⟨m, sc, left, e1, e2, e3, e4, e5⟩ := h
  rw [L_X0_so_s, if_pos (by omega)] at e1
  rw [e1]
  rw [e] at e4 e5
  exact ⟨e4, e5⟩
