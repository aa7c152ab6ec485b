/-! new orders, told over integers -/
section OP2
variable {D c : Int} {T : zTr}
/-- the place of the order that was made -/
theorem add_has (o : zOd) (hs : oSort o) (hn : gOd_n o < 20) {h sz dy : Int32} {hi si di : Int} (e1 : h.toInt = hi) (e2 : sz.toInt = si) (e3 : dy.toInt = di) : gOd_n (f_X4_add o h sz dy) = gOd_n o + 1 ∧ ∃ p : Nat, p < gOd_n (f_X4_add o h sz dy) ∧ oH (f_X4_add o h sz dy) p = hi ∧ oS (f_X4_add o h sz dy) p = si ∧ oD (f_X4_add o h sz dy) p = di ∧ ∀ i, p < i → i < gOd_n (f_X4_add o h sz dy) → di < oD (f_X4_add o h sz dy) i := by
  obtain ⟨h1, h2⟩ := add_tr o h sz dy hn
  obtain ⟨q1, q2⟩ := cpos_spec dy (gOd_dy o) (gOd_n o)
  have hp := cpos_le dy (gOd_dy o) (gOd_n o)
  refine ⟨h1, cpos dy (gOd_dy o) (gOd_n o), by omega, ?_, ?_, ?_, fun i g1 g2 => ?_⟩
  · have t := h2 _ hp
    rw [if_neg (Nat.lt_irrefl _), if_pos rfl] at t
    unfold oH
    rw [show gOd_ho (f_X4_add o h sz dy) (cpos dy (gOd_dy o) (gOd_n o)) = h from congrArg (fun t => t.1) t]
    exact e1
  · have t := h2 _ hp
    rw [if_neg (Nat.lt_irrefl _), if_pos rfl] at t
    unfold oS
    rw [show gOd_sz (f_X4_add o h sz dy) (cpos dy (gOd_dy o) (gOd_n o)) = sz from congrArg (fun t => t.2.1) t]
    exact e2
  · have t := h2 _ hp
    rw [if_neg (Nat.lt_irrefl _), if_pos rfl] at t
    unfold oD
    rw [show gOd_dy (f_X4_add o h sz dy) (cpos dy (gOd_dy o) (gOd_n o)) = dy from congrArg (fun t => t.2.2) t]
    exact e3
  · have t := h2 i (by omega)
    rw [if_neg (by omega), if_neg (by omega)] at t
    unfold oD
    rw [show gOd_dy (f_X4_add o h sz dy) i = gOd_dy o (i - 1) from congrArg (fun t => t.2.2) t, ← e3]
    exact i32_lt_iff.mp (q1 (i - 1) (by omega) (by omega))
theorem hour_t {v : Int} (hv : 0 ≤ v ∧ v ≤ 23) : ¬ f_X6_isHour (jI v) = false := by
  rw [← hour_eq, in_false, i32_l, jI_t ⟨by omega, by omega⟩]
  intro q
  exact q hv
theorem day_t (h : GI D c T) {v : Int} (hv : 0 ≤ v ∧ v ≤ 23) : (f_X6_dayOf T (jI v)).toInt = if v < sI T 0 then dI T else dI T + 1 := by
  have rd := (GI_r h).2.2.2.2.2.2.2.2.1
  have e : gTr_st T 0 ≤ jI v ↔ sI T 0 ≤ v := by rw [i32_le_iff, jI_t ⟨by omega, by omega⟩]; exact Iff.rfl
  unfold f_X6_dayOf
  dsimp only
  by_cases g : sI T 0 ≤ v
  · rw [if_pos (e.mpr g), if_neg (by omega)]
    exact i32_add rfl rfl (by show _ ≤ dI T + 1; omega) (by show dI T + 1 < _; omega)
  · rw [if_neg (fun q => g (e.mp q)), if_pos (by omega)]
    rfl
theorem full_t {mx : Int} {o : zOd} (ho : iO mx o) : f_X4_isFull o = false ↔ gOd_n o < 20 := by
  have hR : RO 61 o (gMs_at (sA (aOf (sTr_bu t0 o)))) := (RTr_aOf (T := sTr_bu t0 o) ho.1).2.1
  have e := full_eq hR ho.1
  rw [zcn_o hR ho.1] at e
  have hn := ho.1
  have e2 : lN (gOd_n o) = 20 ↔ gOd_n o = 20 := by rw [show (20 : Int64) = lN 20 from rfl, lN_eq (by omega) (by omega)]
  constructor
  · intro f
    by_cases g : gOd_n o = 20
    · exact absurd f (e.mp (e2.mpr g))
    · omega
  · intro g
    by_cases f : f_X4_isFull o = false
    · exact f
    · have := e2.mp (e.mpr f); omega
theorem isH_n {i : Nat} (hi : i < 6) : ¬ f_X7_isHolder (jI (i : Int)) = false := by rw [isH hi]; decide
theorem buy_sp (h : GI D c T) (hc : c + 1 ≤ 400) {i : Nat} (hi : i < 6) {a v : Int} (ha : 1 ≤ a ∧ a ≤ 1000000) (hv : 0 ≤ v ∧ v ≤ 23) : (gOd_n (gTr_bu T) = 20 → f_X6_orderToBuy T (jI (i : Int)) (jI a) (jI v) = (-4, T)) ∧ (gOd_n (gTr_bu T) < 20 → ∃ T', f_X6_orderToBuy T (jI (i : Int)) (jI a) (jI v) = (jI (if v < sI T 0 then dI T else dI T + 1), T') ∧ GI D (c + 1) T' ∧ gOd_n (gTr_bu T') = gOd_n (gTr_bu T) + 1 ∧ ∃ p : Nat, p < gOd_n (gTr_bu T') ∧ oH (gTr_bu T') p = (i : Int) ∧ oS (gTr_bu T') p = a ∧ oD (gTr_bu T') p = (if v < sI T 0 then dI T else dI T + 1) ∧ ∀ j, p < j → j < gOd_n (gTr_bu T') → (if v < sI T 0 then dI T else dI T + 1) < oD (gTr_bu T') j) := by
  have ra : r32 a := ⟨by omega, by omega⟩
  have ea : (jI a).toInt = a := jI_t ra
  have ei : (jI (i : Int)).toInt = (i : Int) := jI_t ⟨by omega, by omega⟩
  have n1 : ¬ jI a < nI 1 := by rw [jI_n, jI_lt ra ⟨by decide, by decide⟩]; omega
  have n2 : ¬ nI 1000000 < jI a := by rw [jI_n, jI_lt ⟨by decide, by decide⟩ ra]; omega
  have hO := h.1.2.1
  have ed := day_t h hv
  have rd := (GI_r h).2.2.2.2.2.2.2.2.1
  refine ⟨fun g => ?_, fun g => ?_⟩
  · unfold f_X6_orderToBuy
    dsimp only
    rw [if_neg (isH_n hi), if_neg n1, if_neg n2, if_neg (hour_t hv), if_neg (fun q => by have := (full_t hO).mp q; omega)]
  · have ef : f_X6_orderToBuy T (jI (i : Int)) (jI a) (jI v) = (jI (if v < sI T 0 then dI T else dI T + 1), sTr_bu T (f_X4_add (gTr_bu T) (jI (i : Int)) (jI a) (f_X6_dayOf T (jI v)))) := by
      unfold f_X6_orderToBuy
      dsimp only
      rw [if_neg (isH_n hi), if_neg n1, if_neg n2, if_neg (hour_t hv), if_pos ((full_t hO).mpr g)]
      have e2 : f_X6_dayOf (sTr_bu T (f_X4_add (gTr_bu T) (jI (i : Int)) (jI a) (f_X6_dayOf T (jI v)))) (jI v) = f_X6_dayOf T (jI v) := rfl
      rw [e2, ← jI_is ed]
    have ho := buy_op (S := sA (aOf T)) (jI (i : Int)) (jI a) (jI v) true h.1 (by have := h.2.2.1; omega) (GI_RTr h)
    rw [ef] at ho
    obtain ⟨hI, hp⟩ := opR_get ho (show 0 ≤ (jI (if v < sI T 0 then dI T else dI T + 1)).toInt by rw [jI_t (by split <;> exact ⟨by omega, by omega⟩)]; split <;> omega)
    obtain ⟨h1, p, p1, p2, p3, p4, p5⟩ := add_has (gTr_bu T) hO.2.2 g (sz := jI a) (h := jI (i : Int)) ei ea ed
    refine ⟨_, ef, GI_up h hI hc rfl rfl ?_ hp ⟨fun j hj => ?_, h.2.1.2.2.2.2.2⟩, h1, p, p1, p2, p3, p4, p5⟩
    · have q1 := @pS_oL (f_X4_add (gTr_bu T) (jI (i : Int)) (jI a) (f_X6_dayOf T (jI v)))
      have q2 := @pS_oL (gTr_bu T)
      show pS (f_X4_add (gTr_bu T) (jI (i : Int)) (jI a) (f_X6_dayOf T (jI v))) 0 ≤ _
      rw [q1, q2, add_oL _ _ _ _ g, (ins_sum 0 (oL (gTr_bu T)) _ _).2]
      show _ + (jI a).toInt ≤ _
      omega
    · have hm : trO (f_X4_add (gTr_bu T) (jI (i : Int)) (jI a) (f_X6_dayOf T (jI v))) j ∈ oL (f_X4_add (gTr_bu T) (jI (i : Int)) (jI a) (f_X6_dayOf T (jI v))) := oL_mem.mpr ⟨j, hj, rfl⟩
      rw [add_oL _ _ _ _ g] at hm
      show dI T ≤ (gOd_dy (f_X4_add (gTr_bu T) (jI (i : Int)) (jI a) (f_X6_dayOf T (jI v))) j).toInt
      rcases ins_mem hm with e | hm
      · rw [show gOd_dy (f_X4_add (gTr_bu T) (jI (i : Int)) (jI a) (f_X6_dayOf T (jI v))) j = f_X6_dayOf T (jI v) from congrArg (fun t => t.2.2) e, ed]
        split <;> omega
      · obtain ⟨k, hk, e⟩ := oL_mem.mp hm
        rw [← show gOd_dy (gTr_bu T) k = gOd_dy (f_X4_add (gTr_bu T) (jI (i : Int)) (jI a) (f_X6_dayOf T (jI v))) j from congrArg (fun t => t.2.2) e]
        exact GI_n h hk
theorem free_t (h : GI D c T) {i : Nat} (hi : i < 6) : (f_X6_freeUnits T i).toInt = uU T i - hS (gTr_le T) i := free_int h.1.1.2.2.2.2 h.1.2.2.1 h.1.2.2.2.1 hi
theorem leave_sp (h : GI D c T) (hc : c + 1 ≤ 400) {i : Nat} (hi : i < 6) {a v : Int} (ha : 1 ≤ a ∧ a < 2147483648) (hv : 0 ≤ v ∧ v ≤ 23) : (gOd_n (gTr_le T) = 20 → f_X6_orderToLeave T (jI (i : Int)) (jI a) (jI v) = (-4, T)) ∧ (gOd_n (gTr_le T) < 20 → uU T i - hS (gTr_le T) i < a → f_X6_orderToLeave T (jI (i : Int)) (jI a) (jI v) = (-5, T)) ∧ (gOd_n (gTr_le T) < 20 → a ≤ uU T i - hS (gTr_le T) i → ∃ T', f_X6_orderToLeave T (jI (i : Int)) (jI a) (jI v) = (jI (if v < sI T 0 then dI T else dI T + 1), T') ∧ GI D (c + 1) T' ∧ gOd_n (gTr_le T') = gOd_n (gTr_le T) + 1 ∧ sS (gTr_le T') 0 (gOd_n (gTr_le T')) = sS (gTr_le T) 0 (gOd_n (gTr_le T)) + a ∧ uU T' i - hS (gTr_le T') i = uU T i - hS (gTr_le T) i - a ∧ ∃ p : Nat, p < gOd_n (gTr_le T') ∧ oH (gTr_le T') p = (i : Int) ∧ oS (gTr_le T') p = a ∧ oD (gTr_le T') p = (if v < sI T 0 then dI T else dI T + 1) ∧ ∀ j, p < j → j < gOd_n (gTr_le T') → (if v < sI T 0 then dI T else dI T + 1) < oD (gTr_le T') j) := by
  have ra : r32 a := ⟨by omega, by omega⟩
  have ea : (jI a).toInt = a := jI_t ra
  have ei : (jI (i : Int)).toInt = (i : Int) := jI_t ⟨by omega, by omega⟩
  have n1 : ¬ jI a < nI 1 := by rw [jI_n, jI_lt ra ⟨by decide, by decide⟩]; omega
  have hO := h.1.2.2.1
  have ed := day_t h hv
  have rd := (GI_r h).2.2.2.2.2.2.2.2.1
  have hf := free_t h hi
  have n2 : (jI a).toInt64 ≤ f_X6_freeUnits T (jI (i : Int)).toNatClampNeg ↔ a ≤ uU T i - hS (gTr_le T) i := by rw [ncI (by omega), i64_le_iff, hf, i32_l, ea]
  refine ⟨fun g => ?_, fun g g2 => ?_, fun g g2 => ?_⟩
  · unfold f_X6_orderToLeave
    dsimp only
    rw [if_neg (isH_n hi), if_neg n1, if_neg (hour_t hv), if_neg (fun q => by have := (full_t hO).mp q; omega)]
  · unfold f_X6_orderToLeave
    dsimp only
    rw [if_neg (isH_n hi), if_neg n1, if_neg (hour_t hv), if_pos ((full_t hO).mpr g), if_neg (fun q => by have := n2.mp q; omega)]
  · have ef : f_X6_orderToLeave T (jI (i : Int)) (jI a) (jI v) = (jI (if v < sI T 0 then dI T else dI T + 1), sTr_le T (f_X4_add (gTr_le T) (jI (i : Int)) (jI a) (f_X6_dayOf T (jI v)))) := by
      unfold f_X6_orderToLeave
      dsimp only
      rw [if_neg (isH_n hi), if_neg n1, if_neg (hour_t hv), if_pos ((full_t hO).mpr g), if_pos (n2.mpr g2)]
      have e2 : f_X6_dayOf (sTr_le T (f_X4_add (gTr_le T) (jI (i : Int)) (jI a) (f_X6_dayOf T (jI v)))) (jI v) = f_X6_dayOf T (jI v) := rfl
      rw [e2, ← jI_is ed]
    have ho := leave_op (S := sA (aOf T)) (jI (i : Int)) (jI a) (jI v) true h.1 (by have := h.2.2.1; omega) (GI_RTr h)
    rw [ef] at ho
    obtain ⟨hI, hp⟩ := opR_get ho (show 0 ≤ (jI (if v < sI T 0 then dI T else dI T + 1)).toInt by rw [jI_t (by split <;> exact ⟨by omega, by omega⟩)]; split <;> omega)
    obtain ⟨h1, p, p1, p2, p3, p4, p5⟩ := add_has (gTr_le T) hO.2.2 g (sz := jI a) (h := jI (i : Int)) ei ea ed
    have q1 := @pS_oL (f_X4_add (gTr_le T) (jI (i : Int)) (jI a) (f_X6_dayOf T (jI v)))
    have q2 := @pS_oL (gTr_le T)
    have q3 := hS_lS (f_X4_add (gTr_le T) (jI (i : Int)) (jI a) (f_X6_dayOf T (jI v))) i
    have q4 := hS_lS (gTr_le T) i
    obtain ⟨i1, i2⟩ := ins_sum i (oL (gTr_le T)) (cpos (f_X6_dayOf T (jI v)) (gOd_dy (gTr_le T)) (gOd_n (gTr_le T))) (jI (i : Int), jI a, f_X6_dayOf T (jI v))
    rw [add_oL _ _ _ _ g] at q1 q3
    refine ⟨_, ef, GI_up h hI hc rfl rfl (by show pS (gTr_bu T) 0 ≤ _; omega) hp ⟨h.2.1.2.2.2.2.1, fun j hj => ?_⟩, h1, ?_, ?_, p, p1, p2, p3, p4, p5⟩
    · have hm : trO (f_X4_add (gTr_le T) (jI (i : Int)) (jI a) (f_X6_dayOf T (jI v))) j ∈ oL (f_X4_add (gTr_le T) (jI (i : Int)) (jI a) (f_X6_dayOf T (jI v))) := oL_mem.mpr ⟨j, hj, rfl⟩
      rw [add_oL _ _ _ _ g] at hm
      show 0 ≤ (gOd_dy (f_X4_add (gTr_le T) (jI (i : Int)) (jI a) (f_X6_dayOf T (jI v))) j).toInt
      rcases ins_mem hm with e | hm
      · rw [show gOd_dy (f_X4_add (gTr_le T) (jI (i : Int)) (jI a) (f_X6_dayOf T (jI v))) j = f_X6_dayOf T (jI v) from congrArg (fun t => t.2.2) e, ed]
        split <;> omega
      · obtain ⟨k, hk, e⟩ := oL_mem.mp hm
        rw [← show gOd_dy (gTr_le T) k = gOd_dy (f_X4_add (gTr_le T) (jI (i : Int)) (jI a) (f_X6_dayOf T (jI v))) j from congrArg (fun t => t.2.2) e]
        exact GI_l0 h hk
    · show pS (f_X4_add (gTr_le T) (jI (i : Int)) (jI a) (f_X6_dayOf T (jI v))) 0 = pS (gTr_le T) 0 + a
      rw [q1, q2, i2]
      show _ + (jI a).toInt = _
      omega
    · show uU T i - hS (f_X4_add (gTr_le T) (jI (i : Int)) (jI a) (f_X6_dayOf T (jI v))) i = _
      rw [q3, q4, i1, if_pos (jI_n i).symm]
      show _ - (_ + (jI a).toInt) = _
      omega
end OP2
