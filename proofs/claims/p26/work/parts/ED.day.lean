/-! sums that the law makes of a day's orders -/
def dueS (o : zOd) (d : Int) (k : Nat) : Int := isum (fun i => if oD o i ≤ d then oS o i else 0) k
theorem dueS_s (o : zOd) (d : Int) (k : Nat) : dueS o d (k + 1) = dueS o d k + (if oD o k ≤ d then oS o k else 0) := rfl
theorem dueS_r {mx d : Int} {o : zOd} (hO : iO mx o) (hm : 0 ≤ mx) : ∀ k, k ≤ gOd_n o → 0 ≤ dueS o d k ∧ dueS o d k ≤ k * mx
  | 0, _ => ⟨Int.le_refl _, by show (0 : Int) ≤ ((0 : Nat) : Int) * mx; omega⟩
  | k + 1, hk => by
    obtain ⟨h1, h2⟩ := dueS_r (d := d) hO hm k (by omega)
    have h3 := (hO.2.1 k (by omega)).2
    have h4 : oS o k = (gOd_sz o k).toInt := rfl
    rw [dueS_s]
    have e : (((k + 1 : Nat) : Int)) * mx = (k : Int) * mx + mx := by rw [show ((k + 1 : Nat) : Int) = (k : Int) + 1 by omega, Int.add_mul, Int.one_mul]
    rw [e]
    split <;> omega
theorem dueS_t {o : zOd} (hs : oSort o) (day : Int32) : dueS o day.toInt (gOd_n o) = sS o 0 (f_X4_dueOn o day) := by
  have hd : f_X4_dueOn o day ≤ gOd_n o := xdue_le
  have key := cnt_iff (day.toInt + 1) (gOd_n o) (oSort_i hs)
  rw [← cnt_due hs] at key
  have q : ∀ m, m ≤ gOd_n o → dueS o day.toInt m = isum (fun i => oS o (0 + i)) (if m ≤ f_X4_dueOn o day then m else f_X4_dueOn o day) := by
    intro m
    induction m with
    | zero => intro _; rw [if_pos (Nat.zero_le _)]; rfl
    | succ m ih =>
      intro hm
      rw [dueS_s, ih (by omega)]
      by_cases c : m + 1 ≤ f_X4_dueOn o day
      · rw [if_pos (show m ≤ f_X4_dueOn o day by omega), if_pos c, if_pos (show oD o m ≤ day.toInt by have := (key m (by omega)).mp (by omega); omega)]
        show _ = isum _ m + oS o (0 + m)
        rw [Nat.zero_add]
      · have h1 : (if oD o m ≤ day.toInt then oS o m else 0) = 0 := if_neg (fun g => by have := (key m (by omega)).mpr (by omega); omega)
        rw [h1, if_neg c]
        by_cases e : m = f_X4_dueOn o day
        · have h2 : (if m ≤ f_X4_dueOn o day then m else f_X4_dueOn o day) = f_X4_dueOn o day := by rw [if_pos (by omega), e]
          rw [h2]; omega
        · have h2 : (if m ≤ f_X4_dueOn o day then m else f_X4_dueOn o day) = f_X4_dueOn o day := if_neg (by omega)
          rw [h2]; omega
  have h := q (gOd_n o) (Nat.le_refl _)
  rw [h]
  have e : (if gOd_n o ≤ f_X4_dueOn o day then gOd_n o else f_X4_dueOn o day) = f_X4_dueOn o day := by
    split <;> omega
  rw [e]
  rfl
theorem wI_t {D c : Int} {T : zTr} (h : GI D c T) : dueS (gTr_le T) (dI T) (gOd_n (gTr_le T)) = wI T := dueS_t h.1.2.2.1.2.2 (gTr_day T)
noncomputable def inS (T : zTr) : Int := sS (gTr_bu T) 0 (f_X4_dueOn (gTr_bu T) (gTr_day T))
theorem inS_t {D c : Int} {T : zTr} (h : GI D c T) : dueS (gTr_bu T) (dI T) (gOd_n (gTr_bu T)) = inS T := dueS_t h.1.2.1.2.2 (gTr_day T)
theorem day_nums {D c : Int} {T : zTr} (h : GI D c T) : (0 ≤ wI T ∧ wI T ≤ 1000000000) ∧ (0 ≤ inS T ∧ inS T ≤ 20000000) ∧ (0 ≤ sI T 3 * uAll T ∧ sI T 3 * uAll T ≤ 1000000000000) ∧ (0 ≤ aI T ∧ aI T ≤ uAll T ∧ aI T ≤ wI T ∧ (wI T < sI T 3 * uAll T / 1000 → aI T = wI T) ∧ (sI T 3 * uAll T / 1000 ≤ wI T → aI T = sI T 3 * uAll T / 1000)) ∧ (0 ≤ mI T ∧ mI T ≤ 10010000000000) ∧ (0 ≤ aI T * mI T ∧ aI T * mI T ≤ 10010000000000) ∧ (inS T - aI T * mI T / 1000 = nI1 T ∧ -1000000000000 ≤ nI1 T ∧ nI1 T ≤ 1000000000000) ∧ (0 ≤ sI T 1 * vI T ∧ sI T 1 * vI T ≤ 10010000000000) ∧ (-1 ≤ dirI T ∧ dirI T ≤ 1) ∧ (0 ≤ pI T ∧ pI T ≤ 20020000000000) := by
  have hg := GI_r h
  have hs := GI_s h
  obtain ⟨hB, hOb, hOl, hE, -⟩ := id h.1
  have hr := dueS_r (d := dI T) hOb (by decide) _ (Nat.le_refl _)
  have hr2 := dueS_r (d := dI T) hOl (by decide) _ (Nat.le_refl _)
  rw [inS_t h] at hr
  rw [wI_t h] at hr2
  have hw : wI T ≤ sS (gTr_le T) 0 (gOd_n (gTr_le T)) := sS_le hOl (Nat.zero_le _) xdue_le
  obtain ⟨-, -, ha1, ha2, ha3⟩ := allowed_int (0, 0, 0, 0, 0, 0, fun _ => 0) hB hOl
  obtain ⟨m1, m2, m3, m4, m5⟩ := mI_bd hB
  obtain ⟨n1, n2, n3, n4⟩ := net_int (0, 0, 0, 0, 0, 0, fun _ => 0) hB hOb hOl
  obtain ⟨-, t2, t3⟩ := th_int hB
  obtain ⟨d1, d2, -⟩ := dirI_bd T
  obtain ⟨p1, p2, -⟩ := pI_bd hB
  have hgate : 0 ≤ sI T 3 * uAll T := Int.mul_nonneg hs.2.2.2.1.1 hg.2.2.2.2.1.1
  have hgate2 : sI T 3 * uAll T ≤ 1000 * 1000000000 := Int.mul_le_mul hs.2.2.2.1.2 hg.2.2.2.2.1.2 hg.2.2.2.2.1.1 (by decide)
  have ham : aI T * mI T ≤ 10010000000000 := by
    by_cases c : 0 < uAll T
    · have := (m4 c).1
      have h2 : aI T * mI T ≤ uAll T * mI T := Int.mul_le_mul_of_nonneg_right ha2 m1
      have := (vI_bd hB).2.2.2
      omega
    · have : aI T = 0 := by omega
      rw [this, Int.zero_mul]; omega
  have hnb := hOb.1
  refine ⟨⟨hr2.1, by omega⟩, ⟨hr.1, by omega⟩, ⟨hgate, by omega⟩, ⟨ha1, ha2, ha3, fun g => ?_, fun g => ?_⟩, ⟨m1, m2⟩, ⟨n4, ham⟩, ⟨rfl, n2, n3⟩, ⟨t2, t3⟩, ⟨d1, d2⟩, ⟨p1, by omega⟩⟩
  · show (if sI T 3 * uAll T / 1000 < wI T then _ else _) = _
    rw [if_neg (by omega)]
  · show (if sI T 3 * uAll T / 1000 < wI T then sI T 3 * uAll T / 1000 else wI T) = _
    by_cases e : sI T 3 * uAll T / 1000 < wI T
    · rw [if_pos e]
    · rw [if_neg e]; omega
theorem dir_t (T : zTr) : (uAll T = 0 → dirI T = 0) ∧ (0 < uAll T → (0 < nI1 T → sI T 1 * vI T < 1000 * nI1 T → dirI T = 1) ∧ (¬ (0 < nI1 T ∧ sI T 1 * vI T < 1000 * nI1 T) → nI1 T < 0 → 1000 * nI1 T < -(sI T 1 * vI T) → dirI T = -1) ∧ (¬ (0 < nI1 T ∧ sI T 1 * vI T < 1000 * nI1 T) → ¬ (nI1 T < 0 ∧ 1000 * nI1 T < -(sI T 1 * vI T)) → dirI T = 0)) := by
  refine ⟨fun h => if_pos (by omega), fun h => ?_⟩
  have e : dirI T = dN (nI1 T) (sI T 1 * vI T) := if_neg (by omega)
  rw [e]
  exact ⟨fun a b => dN_1 ⟨a, b⟩, fun a b c => dN_m a ⟨b, c⟩, fun a b => dN_0 a b⟩
theorem price_t {D c : Int} {T : zTr} (h : GI D c T) : (dirI T = 0 → pI T = mI T) ∧ (dirI T = 1 → pI T = mI T * (1000 + sI T 2) / 1000) ∧ (dirI T = -1 → pI T = mI T * (1000 - sI T 2) / 1000) ∧ (0 ≤ mI T * (1000 + sI T 2) ∧ mI T * (1000 + sI T 2) ≤ 11011000000000000) ∧ (0 ≤ mI T * (1000 - sI T 2) ∧ mI T * (1000 - sI T 2) ≤ 10010000000000000) := by
  have hs := (GI_s h).2.2.1
  obtain ⟨m1, m2, -⟩ := mI_bd h.1.1
  have e : sI T 2 = (gTr_st T 2).toInt := rfl
  refine ⟨fun g => ?_, fun g => ?_, fun g => ?_, ⟨Int.mul_nonneg m1 (by omega), ?_⟩, ⟨Int.mul_nonneg m1 (by omega), ?_⟩⟩
  · unfold pI
    rw [g, Int.zero_mul, Int.add_zero]
    exact Int.mul_ediv_cancel_left _ (by decide)
  · unfold pI
    rw [g, Int.one_mul, ← e, Int.mul_comm]
  · unfold pI
    rw [g, ← e, Int.mul_comm]
    congr 2
    omega
  · have := Int.mul_le_mul m2 (show 1000 + sI T 2 ≤ 1100 by omega) (by omega) (by decide)
    omega
  · have := Int.mul_le_mul m2 (show 1000 - sI T 2 ≤ 1000 by omega) (by omega) (by decide)
    omega
