/-! the changes: both sides alike -/
def pPhi (T : zTr) : Int := gP (20000 + 4 * (gTr_quote T).toInt) T + 2000 * (10000 - (gTr_quote T).toInt)
/-- a change on both sides: refused alike, or done alike, with what it adds at most -/
def opR (D : Int) (T : zTr) (S : zMs) (b : Bool) (c : Int32 × zTr) (m : Int32 × zMs) (ad at5 : Int) : Prop :=
  c.1 = m.1 ∧ ((c.1.toInt < 0 ∧ c.2 = T ∧ m.2 = S) ∨ (0 ≤ c.1.toInt ∧ ∃ (A : Nat → Int64) (sm : Nat → Int64), m.2 = sMs_sh (sMs_at (f_X8_keepIf S b) A) sm ∧ RTr c.2 A ∧ Inv D c.2 ∧ pPhi c.2 ≤ pPhi T + ad ∧ gP 50000 c.2 ≤ gP 50000 T + at5))
theorem keepIf_at (S : zMs) (b : Bool) : gMs_at (f_X8_keepIf S b) = gMs_at S := by cases b <;> rfl
theorem opR_no {D : Int} {T : zTr} {S : zMs} {b : Bool} {ad at5 : Int} {r : Int32} (h : r.toInt < 0) : opR D T S b (r, T) (r, S) ad at5 := ⟨rfl, Or.inl ⟨h, rfl, rfl⟩⟩
theorem opR_yes {D : Int} {T T' : zTr} {S : zMs} {b : Bool} {ad at5 : Int} {r : Int32} (A : Nat → Int64) (h0 : 0 ≤ r.toInt) (hR : RTr T' A) (hI : Inv D T') (h1 : pPhi T' ≤ pPhi T + ad) (h2 : gP 50000 T' ≤ gP 50000 T + at5) : opR D T S b (r, T') (r, sMs_at (f_X8_keepIf S b) A) ad at5 := ⟨rfl, Or.inr ⟨h0, A, gMs_sh (f_X8_keepIf S b), rfl, hR, hI, h1, h2⟩⟩
theorem in_false {v lo hi : Int64} : f_X8_in v lo hi = false ↔ ¬ (lo.toInt ≤ v.toInt ∧ v.toInt ≤ hi.toInt) := by
  have h := f_in_iff (v := v) (lo := lo) (hi := hi)
  rw [i64_le_iff, i64_le_iff] at h
  constructor
  · intro e q
    rw [h.mpr q] at e; cases e
  · intro q
    cases e : f_X8_in v lo hi
    · rfl
    · exact absurd (h.mp e) q
theorem holder_eq (h : Int32) : f_X8_isHolder h = f_X7_isHolder h := by
  have e1 : f_X8_isHolder h = false ↔ ¬ (0 ≤ h.toInt ∧ h.toInt ≤ 5) := by
    show f_X8_in h.toInt64 0 5 = false ↔ _
    rw [in_false, i32_l]; rfl
  have e2 : f_X7_isHolder h = false ↔ ¬ (0 ≤ h.toInt ∧ h.toInt ≤ 5) := by
    show (if h < 0 then false else if nI 6 ≤ h then false else true) = false ↔ _
    have z0 : (0 : Int32).toInt = 0 := rfl
    have z6 : (nI 6).toInt = 6 := rfl
    by_cases c1 : h < 0
    · rw [if_pos c1]
      rw [i32_lt_iff, z0] at c1
      exact ⟨fun _ => by omega, fun _ => rfl⟩
    · rw [if_neg c1]
      rw [i32_lt_iff, z0] at c1
      by_cases c2 : nI 6 ≤ h
      · rw [if_pos c2]
        rw [i32_le_iff, z6] at c2
        exact ⟨fun _ => by omega, fun _ => rfl⟩
      · rw [if_neg c2]
        rw [i32_le_iff, z6] at c2
        exact ⟨fun z => (by cases z), fun z => absurd (show 0 ≤ h.toInt ∧ h.toInt ≤ 5 by omega) z⟩
  cases q1 : f_X8_isHolder h <;> cases q2 : f_X7_isHolder h
  · rfl
  · have := e2.mpr (e1.mp q1); rw [this] at q2; cases q2
  · have := e1.mpr (e2.mp q2); rw [this] at q1; cases q1
  · rfl
theorem RTr_C {T T' : zTr} {A B : Nat → Int64} {D : Int} (hI : Inv D T) (h : RTr T A) (hC : RC T' B) (e : ∀ i, (11 ≤ i ∧ i < 19 ∨ 61 ≤ i) → B i = A i) (hb : gTr_bu T' = gTr_bu T) (hl : gTr_le T' = gTr_le T) (ha : gTr_la T' = gTr_la T) : RTr T' B := by
  refine ⟨hC, by rw [hb]; exact RO_ext hI.2.1.1 h.2.1 (fun i h1 h2 => e i (by omega)), by rw [hl]; exact RO_ext hI.2.2.1.1 h.2.2.1 (fun i h1 h2 => e i (by omega)), ?_⟩
  rw [ha]
  obtain ⟨r1, r2, r3⟩ := h.2.2.2
  refine ⟨(e 18 (by omega)).trans r1, (e 11 (by omega)).trans r2, fun z => ?_⟩
  obtain ⟨q1, q2, q3, q4, q5, q6⟩ := r3 z
  exact ⟨(e 12 (by omega)).trans q1, (e 13 (by omega)).trans q2, (e 14 (by omega)).trans q3, (e 15 (by omega)).trans q4, (e 16 (by omega)).trans q5, (e 17 (by omega)).trans q6⟩
/-! quote -/
theorem quote_op {D : Int} {T : zTr} {S : zMs} (q : Int32) (b : Bool) (hI : Inv D T) (hR : RTr T (gMs_at S)) : opR D T S b (f_X6_changeQuote T q) (f_X8_tryQuote S q b) 20000000 0 := by
  unfold f_X8_tryQuote f_X6_changeQuote
  rw [zsl_e]
  have z1 : (nI 1).toInt = 1 := rfl
  have z2 : (nI 10000).toInt = 10000 := rfl
  have hin : f_X8_in q.toInt64 1 10000 = false ↔ ¬ (1 ≤ q.toInt ∧ q.toInt ≤ 10000) := by rw [in_false, i32_l]; rfl
  by_cases c : 1 ≤ q.toInt ∧ q.toInt ≤ 10000
  · have c1 : ¬ q < nI 1 := by rw [i32_lt_iff, z1]; omega
    have c2 : q ≤ nI 10000 := by rw [i32_le_iff, z2]; omega
    rw [if_neg c1, if_pos c2, if_neg (fun z => hin.mp z c), keepIf_at]
    have h7 := hR.1.2.2.2.1
    rw [h7, i_l_i]
    obtain ⟨hB, hOb, hOl, hE, hdy, hYb, hYl⟩ := hI
    have hl := hB.2.1
    have hq := hB.2.2.1
    refine opR_yes _ (by omega) (RTr_C ⟨hB, hOb, hOl, hE, hdy, hYb, hYl⟩ hR ?_ (fun i hi => vp_updL_n _ _ (by omega)) rfl rfl rfl) ⟨⟨hB.1, hl, c, hB.2.2.2.1, hB.2.2.2.2⟩, hOb, hOl, hE, hdy, hYb, hYl⟩ ?_ ?_
    · obtain ⟨r1, r5, r6, r7, r8, r9, r10, rh⟩ := hR.1
      refine ⟨fun k hk => ?_, ?_, ?_, ?_, ?_, ?_, ?_, fun j hj => ?_⟩
      · rw [vp_updL_n _ _ (by omega)]; exact r1 k hk
      · rw [vp_updL_n _ _ (by omega)]; exact r5
      · rw [vp_updL_n _ _ (by omega)]; exact r6
      · rw [vp_updL_s]
      · rw [vp_updL_n _ _ (by omega)]; exact r8
      · rw [vp_updL_n _ _ (by omega)]; exact r9
      · rw [vp_updL_n _ _ (by omega)]; exact r10
      · rw [vp_updL_n _ _ (by omega), vp_updL_n _ _ (by omega), vp_updL_n _ _ (by omega), vp_updL_n _ _ (by omega), vp_updL_n _ _ (by omega), vp_updL_n _ _ (by omega), vp_updL_n _ _ (by omega)]; exact rh j hj
    · unfold pPhi gP
      show 5 * (gTr_cash T).toInt + 5 * pS (gTr_bu T) 0 + (20000 + 4 * q.toInt) * (gTr_lots T).toInt + 2000 * (10000 - q.toInt) ≤ _
      rw [Int.add_mul, Int.add_mul, Int.mul_assoc, Int.mul_assoc]
      by_cases cq : (gTr_quote T).toInt ≤ q.toInt
      · have p1 : 0 ≤ (q.toInt - (gTr_quote T).toInt) * (1000 - (gTr_lots T).toInt) := Int.mul_nonneg (by omega) (by omega)
        rw [Int.mul_sub, Int.sub_mul, Int.sub_mul] at p1
        omega
      · have p1 : 0 ≤ ((gTr_quote T).toInt - q.toInt) * (gTr_lots T).toInt := Int.mul_nonneg (by omega) (by omega)
        rw [Int.sub_mul] at p1
        omega
    · exact Int.le_of_eq (by unfold gP; show 5 * (gTr_cash T).toInt + 5 * pS (gTr_bu T) 0 + 50000 * (gTr_lots T).toInt = _; omega)
  · by_cases c1 : q < nI 1
    · rw [if_pos c1, if_pos (hin.mpr c)]; exact opR_no (by decide)
    · have c2 : ¬ q ≤ nI 10000 := by
        rw [i32_le_iff, z2]; rw [i32_lt_iff, z1] at c1; omega
      rw [if_neg c1, if_neg c2, if_pos (hin.mpr c)]; exact opR_no (by decide)
