/-! the changes, told over integers -/
section OP
variable {D c : Int} {T : zTr}
theorem GI_hg (h : GI D c T) : gP 50000 T ≤ 10700000000 := by
  have h1 := (pPhi_gP h.1).1
  obtain ⟨-, ⟨x1, x2, x3, x4, x5⟩, hD, hc0, hc⟩ := h
  have t1 : 0 ≤ isum (paI T) 6 := isum_nn 6 (fun j hj => (x1 j hj).2.1)
  have t2 : 0 ≤ isum (inI T) 6 := isum_nn 6 (fun j hj => (x1 j hj).2.2.1)
  omega
theorem GI_up {T' : zTr} (h : GI D c T) (hI : Inv D T') (hc : c + 1 ≤ 400) (hh : gTr_hd T' = gTr_hd T) (he : gTr_even T' = gTr_even T) (hb : pS (gTr_bu T') 0 ≤ pS (gTr_bu T) 0 + 1000000) (hp : pPhi T' ≤ pPhi T + 20000000) (hn : (∀ i, i < gOd_n (gTr_bu T') → dI T' ≤ oD (gTr_bu T') i) ∧ (∀ i, i < gOd_n (gTr_le T') → 0 ≤ oD (gTr_le T') i)) : GI D (c + 1) T' := by
  obtain ⟨-, ⟨x1, x2, x3, x4, x5⟩, hD, hc0, -⟩ := h
  have e1 : boI T' = boI T := by funext i; unfold boI; rw [hh]
  have e2 : paI T' = paI T := by funext i; unfold paI; rw [hh]
  have e3 : inI T' = inI T := by funext i; unfold inI; rw [hh]
  have e4 : eeI T' = eeI T := by funext i; unfold eeI; rw [hh]
  have e5 : loI T' = loI T := by funext i; unfold loI; rw [hh]
  refine ⟨hI, ⟨fun i hi => ?_, ?_, ?_, ?_, hn⟩, hD, by omega, hc⟩
  · rw [e1, e2, e3, e4, e5]
    obtain ⟨g1, g2, g3, g4, g5, g6, g7⟩ := x1 i hi
    exact ⟨g1, g2, g3, g4, g5, g6, by omega⟩
  · unfold evI
    rw [he, e1]
    exact x2
  · rw [e1]; omega
  · rw [e2, e3]; omega
theorem GI_wk {c' : Int} (h : GI D c T) (h1 : c ≤ c') (h2 : c' ≤ 400) : GI D c' T := by
  obtain ⟨hI, ⟨x1, x2, x3, x4, x5⟩, hD, hc0, -⟩ := h
  refine ⟨hI, ⟨fun i hi => ?_, x2, by omega, by omega, x5⟩, hD, by omega, h2⟩
  obtain ⟨g1, g2, g3, g4, g5, g6, g7⟩ := x1 i hi
  exact ⟨g1, g2, g3, g4, g5, g6, by omega⟩
theorem GI_D {D' : Int} (h : GI D c T) (h1 : D ≤ D') (h2 : D' ≤ 100000) : GI D' c T := ⟨Inv_mono h1 h.1, h.2.1, h2, h.2.2.2⟩
theorem GI_RTr (h : GI D c T) : RTr T (gMs_at (sA (aOf T))) := RTr_aOf h.1.2.1.1
/-- a setting -/
theorem set_sp (h : GI D c T) {k : Nat} (hk : k < 5) {v : Int} (hv : 0 ≤ v ∧ v ≤ (zGi k).toInt) : f_X6_changeSetting T (jI (k : Int)) (jI v) = (jI (sI T k), sTr_st T (upd (gTr_st T) k (jI v))) ∧ GI D c (sTr_st T (upd (gTr_st T) k (jI v))) ∧ (∀ j, sI (sTr_st T (upd (gTr_st T) k (jI v))) j = if j = k then v else sI T j) := by
  have hz : (zGi k).toInt < 2147483648 := i32_lt
  have rv : r32 v := ⟨by omega, by omega⟩
  have e : (jI v).toInt = v := jI_t rv
  refine ⟨?_, ?_, fun j => ?_⟩
  · unfold f_X6_changeSetting
    dsimp only
    rw [← jI_n, if_neg (nI_pos (by omega)), if_neg (show ¬ nI 5 ≤ nI k by rw [nI_leI (by decide) (by omega)]; omega), if_neg (show ¬ jI v < 0 by rw [jI_0, jI_lt rv ⟨by decide, by decide⟩]; omega), nI_clamp (by omega), if_pos (show jI v ≤ zGi k by rw [i32_le_iff, e]; exact hv.2)]
    show (gTr_st T k, _) = _
    rw [show gTr_st T k = jI (sI T k) from jI_of _]
  · have hI := Inv_set hk (v := jI v) (by rw [e]; exact hv) h.1
    exact ⟨hI, h.2.1, h.2.2⟩
  · unfold sI
    show (upd (gTr_st T) k (jI v) j).toInt = _
    rw [upd_at]
    split
    · exact e
    · rfl
/-- the quote -/
theorem quote_sp (h : GI D c T) (hc : c + 1 ≤ 400) {v : Int} (hv : 1 ≤ v ∧ v ≤ 10000) : f_X6_changeQuote T (jI v) = (jI (qI T), sTr_quote T (jI v)) ∧ GI D (c + 1) (sTr_quote T (jI v)) ∧ qI (sTr_quote T (jI v)) = v := by
  have rv : r32 v := ⟨by omega, by omega⟩
  have e : (jI v).toInt = v := jI_t rv
  have ef : f_X6_changeQuote T (jI v) = (jI (qI T), sTr_quote T (jI v)) := by
    unfold f_X6_changeQuote
    rw [jI_n, jI_n, if_neg (show ¬ jI v < jI ((1 : Nat) : Int) by rw [jI_lt rv ⟨by decide, by decide⟩]; omega), if_pos (show jI v ≤ jI ((10000 : Nat) : Int) by rw [jI_le rv ⟨by decide, by decide⟩]; omega)]
    rw [show gTr_quote T = jI (qI T) from jI_of _]
  have ho := quote_op (S := sA (aOf T)) (jI v) true h.1 (GI_RTr h)
  rw [ef] at ho
  have rq := (GI_r h).2.2.1
  obtain ⟨hI, hp⟩ := opR_get ho (show 0 ≤ (jI (qI T)).toInt by rw [jI_t ⟨by omega, by omega⟩]; omega)
  exact ⟨ef, GI_up h hI hc rfl rfl (by show pS (gTr_bu T) 0 ≤ _; omega) hp h.2.1.2.2.2.2, e⟩
/-- income -/
theorem income_sp (h : GI D c T) (hc : c + 1 ≤ 400) {v : Int} (hv : 1 ≤ v ∧ v ≤ 1000000) : (uAll T = 0 → f_X6_takeIncome T (jI v) = (-5, T)) ∧ (0 < uAll T → ∃ T', f_X6_takeIncome T (jI v) = (jI (poI T + v), T') ∧ GI D (c + 1) T' ∧ poI T' = poI T + v ∧ cI T' = cI T + v ∧ 0 ≤ poI T + v) := by
  have rv : r32 v := ⟨by omega, by omega⟩
  have e : (jI v).toInt = v := jI_t rv
  obtain ⟨⟨c1, c2⟩, -, -, -, ⟨u1, u2⟩, -, ⟨p1, p2⟩, -⟩ := GI_r h
  have hu := units_int h.1.1.2.2.2.2
  have c1' : ¬ jI v < nI 1 := by rw [jI_n, jI_lt rv ⟨by decide, by decide⟩]; omega
  have c2' : jI v ≤ nI 1000000 := by rw [jI_n, jI_le rv ⟨by decide, by decide⟩]; omega
  refine ⟨fun z => ?_, fun z => ?_⟩
  · unfold f_X6_takeIncome
    dsimp only
    rw [if_neg c1', if_pos c2', if_pos (show f_X6_units T = 0 by rw [i64_eq_iff, hu, z]; rfl)]
  · have ev : (jI v).toInt64.toInt = v := (i32_l _).trans e
    have e1 : (gTr_pool T + (jI v).toInt64).toInt = poI T + v := i64_add rfl ev (by omega) (by omega)
    have e2 : (gTr_cash T + (jI v).toInt64).toInt = cI T + v := i64_add rfl ev (by omega) (by omega)
    have ef : f_X6_takeIncome T (jI v) = (jI (poI T + v), sTr_pool (sTr_cash T (gTr_cash T + (jI v).toInt64)) (gTr_pool T + (jI v).toInt64)) := by
      unfold f_X6_takeIncome
      dsimp only
      rw [if_neg c1', if_pos c2', if_neg (show ¬ f_X6_units T = 0 by rw [i64_eq_iff, hu]; intro q; have : (0 : Int64).toInt = 0 := rfl; omega), jL_il e1]
    have ho := income_op (S := sA (aOf T)) (jI v) true h.1 (GI_RTr h) (GI_hg h)
    rw [ef] at ho
    obtain ⟨hI, hp⟩ := opR_get ho (show 0 ≤ (jI (poI T + v)).toInt by rw [jI_t ⟨by omega, by omega⟩]; omega)
    exact ⟨_, ef, GI_up h hI hc rfl rfl (by show pS (gTr_bu T) 0 ≤ _; omega) hp h.2.1.2.2.2.2, e1, e2, by omega⟩
/-- a trade -/
def coI (T : zTr) (b : Int) : Int := if 0 < b then b * (qI T + (qI T * sI T 4 + 999) / 1000) else b * (qI T - (qI T * sI T 4 + 999) / 1000)
theorem coI_r (h : GI D c T) {b : Int} (hb : -40 ≤ b ∧ b ≤ 40) : -1000000 ≤ coI T b ∧ coI T b ≤ 1000000 := by
  obtain ⟨-, -, ⟨q1, q2⟩, -⟩ := GI_r h
  obtain ⟨-, -, -, -, s⟩ := GI_s h
  have h1 : 0 ≤ qI T * sI T 4 := Int.mul_nonneg (by omega) s.1
  have h2 : qI T * sI T 4 ≤ qI T * 50 := Int.mul_le_mul_of_nonneg_left s.2 (by omega)
  unfold coI
  split
  · have a1 : b * (qI T + (qI T * sI T 4 + 999) / 1000) ≤ 40 * (qI T + (qI T * sI T 4 + 999) / 1000) := Int.mul_le_mul_of_nonneg_right hb.2 (by omega)
    have a2 : 0 ≤ b * (qI T + (qI T * sI T 4 + 999) / 1000) := Int.mul_nonneg (by omega) (by omega)
    omega
  · have a1 : -40 * (qI T - (qI T * sI T 4 + 999) / 1000) ≤ b * (qI T - (qI T * sI T 4 + 999) / 1000) := Int.mul_le_mul_of_nonneg_right hb.1 (by omega)
    have a2 : b * (qI T - (qI T * sI T 4 + 999) / 1000) ≤ 0 := Int.mul_nonpos_of_nonpos_of_nonneg (by omega) (by omega)
    omega
theorem trade_sp (h : GI D c T) (hc : c + 1 ≤ 400) {b : Int} (hb : -40 ≤ b ∧ b ≤ 40) (hb0 : b ≠ 0) : (1000 < lI T + b → f_X6_tradeLots T (jI b) = (-4, T)) ∧ (lI T + b ≤ 1000 → (lI T + b < 0 ∨ 0 < b ∧ cI T - poI T < coI T b) → f_X6_tradeLots T (jI b) = (-5, T)) ∧ (lI T + b ≤ 1000 → 0 ≤ lI T + b → (0 < b → coI T b ≤ cI T - poI T) → ∃ T', f_X6_tradeLots T (jI b) = (jI (lI T + b), T') ∧ GI D (c + 1) T' ∧ lI T' = lI T + b ∧ cI T' = cI T - coI T b) := by
  have rv : r32 b := ⟨by omega, by omega⟩
  have e : (jI b).toInt = b := jI_t rv
  have ev : (jI b).toInt64.toInt = b := (i32_l _).trans e
  obtain ⟨⟨c1, c2⟩, ⟨l1, l2⟩, ⟨q1, q2⟩, -, -, -, ⟨p1, p2⟩, -⟩ := GI_r h
  have hco := coI_r h hb
  have hs := (GI_s h).2.2.2.2
  obtain ⟨f1, f2, f3⟩ := fee_int (T := T) ⟨q1, q2⟩ hs
  have f1' : (f_X6_fee T).toInt = (qI T * sI T 4 + 999) / 1000 := f1
  have f4 : 0 ≤ qI T * sI T 4 := f2
  have f5 : qI T * sI T 4 ≤ qI T * 50 := f3
  have n0 : ¬ jI b = 0 := by rw [jI_0, jI_eq rv ⟨by decide, by decide⟩]; exact hb0
  have n1 : ¬ jI b < -1000 := by rw [show (-1000 : Int32) = jI (-1000) by decide, jI_lt rv ⟨by decide, by decide⟩]; omega
  have n2 : jI b ≤ nI 1000 := by rw [jI_n, jI_le rv ⟨by decide, by decide⟩]; omega
  have s1 : (gTr_lots T + jI b).toInt = lI T + b := i32_add rfl e (by omega) (by omega)
  have n3 : gTr_lots T + jI b ≤ nI 1000 ↔ lI T + b ≤ 1000 := by rw [i32_le_iff, s1]; exact Iff.rfl
  have n4 : gTr_lots T + jI b < 0 ↔ lI T + b < 0 := by rw [i32_lt_iff, s1]; exact Iff.rfl
  have n5 : jI b ≤ 0 ↔ b ≤ 0 := by rw [i32_le_iff, e]; exact Iff.rfl
  have hq : ((gTr_quote T).toInt64).toInt = qI T := i32_l _
  have hk : (if jI b ≤ 0 then (jI b).toInt64 * ((gTr_quote T).toInt64 - f_X6_fee T) else (jI b).toInt64 * ((gTr_quote T).toInt64 + f_X6_fee T)).toInt = coI T b := by
    unfold coI at hco ⊢
    by_cases g : b ≤ 0
    · rw [if_pos (n5.mpr g), if_neg (by omega)]
      rw [if_neg (by omega)] at hco
      exact i64_mul ev (i64_sub hq f1' (by omega) (by omega)) (by omega) (by omega)
    · rw [if_neg (fun q => g (n5.mp q)), if_pos (by omega)]
      rw [if_pos (by omega)] at hco
      exact i64_mul ev (i64_add hq f1' (by omega) (by omega)) (by omega) (by omega)
  have hcp : (gTr_cash T - gTr_pool T).toInt = cI T - poI T := i64_sub rfl rfl (by omega) (by omega)
  have form : f_X6_tradeLots T (jI b) = (if gTr_lots T + jI b ≤ nI 1000 then (if gTr_lots T + jI b < 0 then (-5, T) else if jI b ≤ 0 then (gTr_lots T + jI b, sTr_lots (sTr_cash T (gTr_cash T - (if jI b ≤ 0 then (jI b).toInt64 * ((gTr_quote T).toInt64 - f_X6_fee T) else (jI b).toInt64 * ((gTr_quote T).toInt64 + f_X6_fee T)))) (gTr_lots T + jI b)) else if (if jI b ≤ 0 then (jI b).toInt64 * ((gTr_quote T).toInt64 - f_X6_fee T) else (jI b).toInt64 * ((gTr_quote T).toInt64 + f_X6_fee T)) ≤ gTr_cash T - gTr_pool T then (gTr_lots T + jI b, sTr_lots (sTr_cash T (gTr_cash T - (if jI b ≤ 0 then (jI b).toInt64 * ((gTr_quote T).toInt64 - f_X6_fee T) else (jI b).toInt64 * ((gTr_quote T).toInt64 + f_X6_fee T)))) (gTr_lots T + jI b)) else (-5, T)) else (-4, T)) := by
    unfold f_X6_tradeLots
    rw [if_neg n0, if_neg n1, if_pos n2]
  have ho := trade_op (S := sA (aOf T)) (jI b) h.1 (GI_RTr h) (GI_hg h)
  rw [form] at ho ⊢
  generalize (if jI b ≤ 0 then (jI b).toInt64 * ((gTr_quote T).toInt64 - f_X6_fee T) else (jI b).toInt64 * ((gTr_quote T).toInt64 + f_X6_fee T)) = K at hk ho ⊢
  have n6 : K ≤ gTr_cash T - gTr_pool T ↔ coI T b ≤ cI T - poI T := by rw [i64_le_iff, hk, hcp]
  refine ⟨fun g => ?_, fun g1 g2 => ?_, fun g1 g2 g3 => ?_⟩
  · rw [if_neg (fun q => by have := n3.mp q; omega)]
  · rw [if_pos (n3.mpr g1)]
    by_cases g4 : lI T + b < 0
    · rw [if_pos (n4.mpr g4)]
    · rw [if_neg (fun q => g4 (n4.mp q)), if_neg (fun q => by have := n5.mp q; omega), if_neg (fun q => by have := n6.mp q; omega)]
  · have hcm : (gTr_cash T - K).toInt = cI T - coI T b := i64_sub rfl hk (by omega) (by omega)
    have ef : (if gTr_lots T + jI b ≤ nI 1000 then (if gTr_lots T + jI b < 0 then ((-5 : Int32), T) else if jI b ≤ 0 then (gTr_lots T + jI b, sTr_lots (sTr_cash T (gTr_cash T - K)) (gTr_lots T + jI b)) else if K ≤ gTr_cash T - gTr_pool T then (gTr_lots T + jI b, sTr_lots (sTr_cash T (gTr_cash T - K)) (gTr_lots T + jI b)) else (-5, T)) else (-4, T)) = (jI (lI T + b), sTr_lots (sTr_cash T (gTr_cash T - K)) (gTr_lots T + jI b)) := by
      rw [if_pos (n3.mpr g1), if_neg (fun q => by have := n4.mp q; omega), ← jI_is s1]
      by_cases g4 : b ≤ 0
      · rw [if_pos (n5.mpr g4)]
      · rw [if_neg (fun q => g4 (n5.mp q)), if_pos (n6.mpr (g3 (by omega)))]
    rw [ef] at ho ⊢
    obtain ⟨hI, hp⟩ := opR_get ho (show 0 ≤ (jI (lI T + b)).toInt by rw [jI_t ⟨by omega, by omega⟩]; omega)
    exact ⟨_, rfl, GI_up h hI hc rfl rfl (by show pS (gTr_bu T) 0 ≤ _; omega) hp h.2.1.2.2.2.2, s1, hcm⟩
end OP
