/-! what the questions answer, as integers. Written by wip/p26/views.py -/
def cI (T : zTr) : Int := (gTr_cash T).toInt
def lI (T : zTr) : Int := (gTr_lots T).toInt
def qI (T : zTr) : Int := (gTr_quote T).toInt
def poI (T : zTr) : Int := (gTr_pool T).toInt
def evI (T : zTr) : Int := (gTr_even T).toInt
def dI (T : zTr) : Int := (gTr_day T).toInt
def sI (T : zTr) (k : Nat) : Int := (gTr_st T k).toInt
def boI (T : zTr) (h : Nat) : Int := (gHd_bought (gTr_hd T h)).toInt
def paI (T : zTr) (h : Nat) : Int := (gHd_paid (gTr_hd T h)).toInt
def inI (T : zTr) (h : Nat) : Int := (gHd_inc (gTr_hd T h)).toInt
def eeI (T : zTr) (h : Nat) : Int := (gHd_eve (gTr_hd T h)).toInt
def loI (T : zTr) (h : Nat) : Int := (gHd_lots (gTr_hd T h)).toInt
def oH (o : zOd) (i : Nat) : Int := (gOd_ho o i).toInt
def oS (o : zOd) (i : Nat) : Int := (gOd_sz o i).toInt
def oD (o : zOd) (i : Nat) : Int := (gOd_dy o i).toInt
/-- what is told of the holders' pasts, and of all money: c bounds how much came in -/
def XI (c : Int) (T : zTr) : Prop := (∀ h, h < 6 → 0 ≤ boI T h ∧ 0 ≤ paI T h ∧ 0 ≤ inI T h ∧ 0 ≤ eeI T h ∧ eeI T h ≤ inI T h ∧ 0 ≤ loI T h ∧ loI T h ≤ 1000 * c) ∧ (0 ≤ evI T ∧ evI T ≤ 4 * isum (boI T) 6) ∧ isum (boI T) 6 + pS (gTr_bu T) 0 ≤ 1000000 * c ∧ pPhi T + 5 * isum (paI T) 6 + 5 * isum (inI T) 6 ≤ 20000000 * (c + 1) ∧ (∀ i, i < gOd_n (gTr_bu T) → dI T ≤ oD (gTr_bu T) i) ∧ (∀ i, i < gOd_n (gTr_le T) → 0 ≤ oD (gTr_le T) i)
def GI (D c : Int) (T : zTr) : Prop := Inv D T ∧ XI c T ∧ D ≤ 100000 ∧ 0 ≤ c ∧ c ≤ 400
theorem GI_hS {D c : Int} {T : zTr} (h : GI D c T) {i : Nat} (hi : i < 6) : 0 ≤ hS (gTr_le T) i ∧ hS (gTr_le T) i ≤ uU T i := ⟨isum_nn _ (fun j hj => by
  have := (h.1.2.2.1.2.1 j hj).2.1
  show 0 ≤ (if gOd_ho (gTr_le T) j = nI i then (gOd_sz (gTr_le T) j).toInt else 0)
  split
  · omega
  · omega), h.1.2.2.2.1 i hi⟩
/-- in what ranges all answers lie -/
theorem GI_r {D c : Int} {T : zTr} (h : GI D c T) : (0 ≤ cI T ∧ cI T ≤ 1700000000) ∧ (0 ≤ lI T ∧ lI T ≤ 1000) ∧ (1 ≤ qI T ∧ qI T ≤ 10000) ∧ (0 ≤ vI T ∧ vI T ≤ 1800000000 ∧ vI T = cI T + lI T * qI T ∧ 0 ≤ lI T * qI T) ∧ (0 ≤ uAll T ∧ uAll T ≤ 1000000000) ∧ (0 ≤ uNew T ∧ uNew T ≤ uAll T) ∧ (0 ≤ poI T ∧ poI T ≤ cI T) ∧ (0 ≤ evI T ∧ evI T ≤ 1600000000) ∧ (0 ≤ dI T ∧ dI T ≤ 100000) ∧ (0 ≤ (gOd_n (gTr_bu T) : Int) ∧ (gOd_n (gTr_bu T) : Int) ≤ 20) ∧ (0 ≤ (gOd_n (gTr_le T) : Int) ∧ (gOd_n (gTr_le T) : Int) ≤ 20) ∧ (0 ≤ sS (gTr_le T) 0 (gOd_n (gTr_le T)) ∧ sS (gTr_le T) 0 (gOd_n (gTr_le T)) ≤ uAll T) := by
  obtain ⟨⟨hB, hb, hl, hE, hd, -, -⟩, ⟨x1, x2, x3, x4, x5⟩, hD, hc0, hc⟩ := h
  obtain ⟨b1, b2, b3, b4, b5⟩ := id hB
  have v := vI_bd hB
  have u1 := uAll_nn b5
  have n1 := uNew_nn b5
  have n2 := uNew_le b5
  have t1 := tot_le hl hE
  have t2 : 0 ≤ sS (gTr_le T) 0 (gOd_n (gTr_le T)) := sS_nn hl (Nat.le_refl _)
  have p1 : 0 ≤ pS (gTr_bu T) 0 := pS_nn hb 0
  have s1 : 0 ≤ isum (paI T) 6 := isum_nn 6 (fun i hi => (x1 i hi).2.1)
  have s2 : 0 ≤ isum (inI T) 6 := isum_nn 6 (fun i hi => (x1 i hi).2.2.1)
  have s3 : 0 ≤ isum (boI T) 6 := isum_nn 6 (fun i hi => (x1 i hi).1)
  have ph : 5 * (gTr_cash T).toInt ≤ pPhi T := by
    unfold pPhi gP
    have : 0 ≤ (20000 + 4 * (gTr_quote T).toInt) * (gTr_lots T).toInt := Int.mul_nonneg (by omega) b2.1
    omega
  have hu := b5.2
  have nb := hb.1
  have nl := hl.1
  refine ⟨⟨by show 0 ≤ (gTr_cash T).toInt; omega, by show (gTr_cash T).toInt ≤ _; omega⟩, b2, b3, ⟨by omega, ?_, rfl, v.1⟩, ⟨u1, hu⟩, ⟨n1, n2⟩, ⟨b4.1, b4.2.1⟩, ⟨x2.1, by omega⟩, ⟨hd.1, by show (gTr_day T).toInt ≤ _; omega⟩, ⟨by omega, by omega⟩, ⟨by omega, by omega⟩, t2, t1⟩
  have : vI T = (gTr_cash T).toInt + (gTr_lots T).toInt * (gTr_quote T).toInt := rfl
  omega
theorem GI_s {D c : Int} {T : zTr} (h : GI D c T) : (0 ≤ sI T 0 ∧ sI T 0 ≤ 23) ∧ (0 ≤ sI T 1 ∧ sI T 1 ≤ 1000) ∧ (0 ≤ sI T 2 ∧ sI T 2 ≤ 100) ∧ (0 ≤ sI T 3 ∧ sI T 3 ≤ 1000) ∧ (0 ≤ sI T 4 ∧ sI T 4 ≤ 50) := by
  have g := h.1.1.1
  exact ⟨g 0 (by decide), g 1 (by decide), g 2 (by decide), g 3 (by decide), g 4 (by decide)⟩
theorem GI_h {D c : Int} {T : zTr} (h : GI D c T) {i : Nat} (hi : i < 6) : (0 ≤ uO T i ∧ 0 ≤ uN T i ∧ uU T i = uO T i + uN T i ∧ uU T i ≤ uAll T ∧ uN T i ≤ uNew T) ∧ (0 ≤ hS (gTr_le T) i ∧ hS (gTr_le T) i ≤ uU T i) ∧ (0 ≤ boI T i ∧ boI T i ≤ 400000000) ∧ (0 ≤ paI T i ∧ paI T i ≤ 1700000000) ∧ (0 ≤ inI T i ∧ inI T i ≤ 1700000000) ∧ (0 ≤ eeI T i ∧ eeI T i ≤ inI T i) ∧ (0 ≤ loI T i ∧ loI T i ≤ 400000) := by
  have hs := GI_hS h hi
  obtain ⟨⟨hB, hb, hl, hE, hd, -, -⟩, ⟨x1, x2, x3, x4, x5⟩, hD, hc0, hc⟩ := h
  obtain ⟨b1, b2, b3, b4, b5⟩ := id hB
  obtain ⟨g1, g2, g3, g4, g5, g6, g7⟩ := x1 i hi
  have p1 : 0 ≤ pS (gTr_bu T) 0 := pS_nn hb 0
  have s1 : paI T i ≤ isum (paI T) 6 := isum_ge 6 i hi (fun j hj => (x1 j hj).2.1)
  have s2 : inI T i ≤ isum (inI T) 6 := isum_ge 6 i hi (fun j hj => (x1 j hj).2.2.1)
  have s3 : boI T i ≤ isum (boI T) 6 := isum_ge 6 i hi (fun j hj => (x1 j hj).1)
  have t1 : 0 ≤ isum (paI T) 6 := isum_nn 6 (fun j hj => (x1 j hj).2.1)
  have t2 : 0 ≤ isum (inI T) 6 := isum_nn 6 (fun j hj => (x1 j hj).2.2.1)
  have ph : 0 ≤ pPhi T := by
    unfold pPhi gP
    have : 0 ≤ (20000 + 4 * (gTr_quote T).toInt) * (gTr_lots T).toInt := Int.mul_nonneg (by omega) b2.1
    omega
  have u := b5.1 i hi
  exact ⟨⟨u.1, u.2, rfl, uU_le b5 hi, uNew_ge b5 hi⟩, hs, ⟨g1, by omega⟩, ⟨g2, by omega⟩, ⟨g3, by omega⟩, ⟨g4, g5⟩, g6, by omega⟩
theorem GI_ob {D c : Int} {T : zTr} (h : GI D c T) {i : Nat} (hi : i < gOd_n (gTr_bu T)) : (0 ≤ oH (gTr_bu T) i ∧ oH (gTr_bu T) i < 6) ∧ (1 ≤ oS (gTr_bu T) i ∧ oS (gTr_bu T) i ≤ 1000000) ∧ (-2147483648 ≤ oD (gTr_bu T) i ∧ oD (gTr_bu T) i ≤ dI T + 1) := by
  obtain ⟨a1, a2, a3⟩ := h.1.2.1.2.1 i hi
  have e := xho_eq a1
  have l := xho_lt a1
  have t : oH (gTr_bu T) i = ((gOd_ho (gTr_bu T) i).toNatClampNeg : Int) := by
    unfold oH
    conv => lhs; rw [e]
    exact nI_int (by omega)
  exact ⟨⟨by omega, by omega⟩, ⟨a2, a3⟩, i32_ge, h.1.2.2.2.2.2.1 i hi⟩
theorem GI_ol {D c : Int} {T : zTr} (h : GI D c T) {i : Nat} (hi : i < gOd_n (gTr_le T)) : (0 ≤ oH (gTr_le T) i ∧ oH (gTr_le T) i < 6) ∧ (1 ≤ oS (gTr_le T) i ∧ oS (gTr_le T) i ≤ 1000000000) ∧ (-2147483648 ≤ oD (gTr_le T) i ∧ oD (gTr_le T) i ≤ dI T + 1) := by
  obtain ⟨a1, a2, a3⟩ := h.1.2.2.1.2.1 i hi
  have e := xho_eq a1
  have l := xho_lt a1
  have t : oH (gTr_le T) i = ((gOd_ho (gTr_le T) i).toNatClampNeg : Int) := by
    unfold oH
    conv => lhs; rw [e]
    exact nI_int (by omega)
  exact ⟨⟨by omega, by omega⟩, ⟨a2, a3⟩, i32_ge, h.1.2.2.2.2.2.2 i hi⟩
theorem GI_n {D c : Int} {T : zTr} (h : GI D c T) {i : Nat} (hi : i < gOd_n (gTr_bu T)) : dI T ≤ oD (gTr_bu T) i := h.2.1.2.2.2.2.1 i hi
theorem GI_l0 {D c : Int} {T : zTr} (h : GI D c T) {i : Nat} (hi : i < gOd_n (gTr_le T)) : 0 ≤ oD (gTr_le T) i := h.2.1.2.2.2.2.2 i hi
theorem GI_ob2 {D c : Int} {T : zTr} (h : GI D c T) {i j : Nat} (hij : i ≤ j) (hj : j < gOd_n (gTr_bu T)) : oD (gTr_bu T) i ≤ oD (gTr_bu T) j := i32_le_iff.mp (h.1.2.1.2.2 i j hij hj)
theorem GI_ol2 {D c : Int} {T : zTr} (h : GI D c T) {i j : Nat} (hij : i ≤ j) (hj : j < gOd_n (gTr_le T)) : oD (gTr_le T) i ≤ oD (gTr_le T) j := i32_le_iff.mp (h.1.2.2.1.2.2 i j hij hj)
section VW
variable {D c : Int} {T : zTr}
theorem vc_0 (h : GI D c T) (z : zPd) (y : zHs) : f_X7_count T z y (jI 0) = jI (cI T) := by
  show (gTr_cash T).toInt32 = _
  exact jL_il rfl
theorem vc_1 (h : GI D c T) (z : zPd) (y : zHs) : f_X7_count T z y (jI 1) = jI (lI T) := by
  show gTr_lots T = _
  exact jI_of _
theorem vc_2 (h : GI D c T) (z : zPd) (y : zHs) : f_X7_count T z y (jI 2) = jI (qI T) := by
  show gTr_quote T = _
  exact jI_of _
theorem vc_3 (h : GI D c T) (z : zPd) (y : zHs) : f_X7_count T z y (jI 3) = jI (vI T) := by
  show (f_X6_value T).toInt32 = _
  exact jL_il (value_int h.1.1)
theorem vc_4 (h : GI D c T) (z : zPd) (y : zHs) : f_X7_count T z y (jI 4) = jI (uAll T) := by
  show (f_X6_units T).toInt32 = _
  exact jL_il (units_int h.1.1.2.2.2.2)
theorem vc_5 (h : GI D c T) (z : zPd) (y : zHs) : f_X7_count T z y (jI 5) = jI (uNew T) := by
  show (f_X6_newUnits T).toInt32 = _
  exact jL_il (new_int h.1.1.2.2.2.2)
theorem vc_6 (h : GI D c T) (z : zPd) (y : zHs) : f_X7_count T z y (jI 6) = jI (poI T) := by
  show (gTr_pool T).toInt32 = _
  exact jL_il rfl
theorem vc_7 (h : GI D c T) (z : zPd) (y : zHs) : f_X7_count T z y (jI 7) = jI (evI T) := by
  show (gTr_even T).toInt32 = _
  exact jL_il rfl
theorem vc_8 (h : GI D c T) (z : zPd) (y : zHs) : f_X7_count T z y (jI 8) = jI (dI T) := by
  show gTr_day T = _
  exact jI_of _
theorem vc_9 (h : GI D c T) (z : zPd) (y : zHs) : f_X7_count T z y (jI 9) = jI ((gOd_n (gTr_bu T) : Int)) := by
  show nI (gOd_n (gTr_bu T)) = _
  exact jI_n _
theorem vc_10 (h : GI D c T) (z : zPd) (y : zHs) : f_X7_count T z y (jI 10) = jI ((gOd_n (gTr_le T) : Int)) := by
  show nI (gOd_n (gTr_le T)) = _
  exact jI_n _
theorem vc_11 (h : GI D c T) (z : zPd) (y : zHs) : f_X7_count T z y (jI 11) = jI (sS (gTr_le T) 0 (gOd_n (gTr_le T))) := by
  show (f_X4_sum (gTr_le T) 0 (gOd_n (gTr_le T))).toInt32 = _
  exact jL_il (sum_int _ (Nat.zero_le _) h.1.2.2.1.1)
theorem vc_12 (h : GI D c T) (z : zPd) (y : zHs) : f_X7_count T z y (jI 12) = jI (sI T 0) := by
  show gTr_st T 0 = _
  exact jI_of _
theorem vc_13 (h : GI D c T) (z : zPd) (y : zHs) : f_X7_count T z y (jI 13) = jI (sI T 1) := by
  show gTr_st T 1 = _
  exact jI_of _
theorem vc_14 (h : GI D c T) (z : zPd) (y : zHs) : f_X7_count T z y (jI 14) = jI (sI T 2) := by
  show gTr_st T 2 = _
  exact jI_of _
theorem vc_15 (h : GI D c T) (z : zPd) (y : zHs) : f_X7_count T z y (jI 15) = jI (sI T 3) := by
  show gTr_st T 3 = _
  exact jI_of _
theorem vc_16 (h : GI D c T) (z : zPd) (y : zHs) : f_X7_count T z y (jI 16) = jI (sI T 4) := by
  show gTr_st T 4 = _
  exact jI_of _
theorem vc_17 (h : GI D c T) (z : zPd) (y : zHs) : f_X7_count T z y (jI 17) = jI (gPd_n z : Int) := by
  show nI (gPd_n z) = _
  exact jI_n _
theorem vc_18 (h : GI D c T) (z : zPd) (y : zHs) : f_X7_count T z y (jI 18) = jI (gHs_count y : Int) := by
  show nI (gHs_count y) = _
  exact jI_n _
theorem isH {i : Nat} (hi : i < 6) : f_X7_isHolder (jI (i : Int)) = true := by
  rcases (show i = 0 ∨ i = 1 ∨ i = 2 ∨ i = 3 ∨ i = 4 ∨ i = 5 by omega) with rfl | rfl | rfl | rfl | rfl | rfl <;> rfl
theorem ncI {i : Nat} (hi : i < 1000) : (jI (i : Int)).toNatClampNeg = i := by rw [← jI_n]; exact nI_clamp (by omega)
theorem isH_t {T : zTr} {i : Nat} (hi : i < 6) (wh : Int32) {v : Int32} (e : f_X7_ofHolder T (jI (i : Int)) wh = (if f_X7_isHolder (jI (i : Int)) = false then (-1) else v)) : f_X7_ofHolder T (jI (i : Int)) wh = v := by
  rw [e, isH hi, if_neg (by decide)]
theorem vh_0 (h : GI D c T) {i : Nat} (hi : i < 6) : f_X7_ofHolder T (jI (i : Int)) (jI 0) = jI (uU T i) := by
  have e : f_X7_ofHolder T (jI (i : Int)) (jI 0) = (if f_X7_isHolder (jI (i : Int)) = false then (-1) else (f_X2_units (gTr_hd T (jI (i : Int)).toNatClampNeg)).toInt32) := rfl
  rw [isH_t hi _ e]
  rw [ncI (by omega)]
  exact jL_il (hunits_int h.1.1.2.2.2.2 hi)
theorem vh_1 (h : GI D c T) {i : Nat} (hi : i < 6) : f_X7_ofHolder T (jI (i : Int)) (jI 1) = jI (uO T i) := by
  have e : f_X7_ofHolder T (jI (i : Int)) (jI 1) = (if f_X7_isHolder (jI (i : Int)) = false then (-1) else (gHd_old (gTr_hd T (jI (i : Int)).toNatClampNeg)).toInt32) := rfl
  rw [isH_t hi _ e]
  rw [ncI (by omega)]
  exact jL_il rfl
theorem vh_2 (h : GI D c T) {i : Nat} (hi : i < 6) : f_X7_ofHolder T (jI (i : Int)) (jI 2) = jI (uN T i) := by
  have e : f_X7_ofHolder T (jI (i : Int)) (jI 2) = (if f_X7_isHolder (jI (i : Int)) = false then (-1) else (gHd_new (gTr_hd T (jI (i : Int)).toNatClampNeg)).toInt32) := rfl
  rw [isH_t hi _ e]
  rw [ncI (by omega)]
  exact jL_il rfl
theorem vh_3 (h : GI D c T) {i : Nat} (hi : i < 6) : f_X7_ofHolder T (jI (i : Int)) (jI 3) = jI (hS (gTr_le T) i) := by
  have e : f_X7_ofHolder T (jI (i : Int)) (jI 3) = (if f_X7_isHolder (jI (i : Int)) = false then (-1) else (f_X4_sumOf (gTr_le T) (jI (i : Int))).toInt32) := rfl
  rw [isH_t hi _ e]
  exact by rw [← jI_n]; exact jL_il (sumOf_int h.1.2.2.1.1 i)
theorem vh_4 (h : GI D c T) {i : Nat} (hi : i < 6) : f_X7_ofHolder T (jI (i : Int)) (jI 4) = jI (boI T i) := by
  have e : f_X7_ofHolder T (jI (i : Int)) (jI 4) = (if f_X7_isHolder (jI (i : Int)) = false then (-1) else (gHd_bought (gTr_hd T (jI (i : Int)).toNatClampNeg)).toInt32) := rfl
  rw [isH_t hi _ e]
  rw [ncI (by omega)]
  exact jL_il rfl
theorem vh_5 (h : GI D c T) {i : Nat} (hi : i < 6) : f_X7_ofHolder T (jI (i : Int)) (jI 5) = jI (paI T i) := by
  have e : f_X7_ofHolder T (jI (i : Int)) (jI 5) = (if f_X7_isHolder (jI (i : Int)) = false then (-1) else (gHd_paid (gTr_hd T (jI (i : Int)).toNatClampNeg)).toInt32) := rfl
  rw [isH_t hi _ e]
  rw [ncI (by omega)]
  exact jL_il rfl
theorem vh_6 (h : GI D c T) {i : Nat} (hi : i < 6) : f_X7_ofHolder T (jI (i : Int)) (jI 6) = jI (inI T i) := by
  have e : f_X7_ofHolder T (jI (i : Int)) (jI 6) = (if f_X7_isHolder (jI (i : Int)) = false then (-1) else (gHd_inc (gTr_hd T (jI (i : Int)).toNatClampNeg)).toInt32) := rfl
  rw [isH_t hi _ e]
  rw [ncI (by omega)]
  exact jL_il rfl
theorem vh_7 (h : GI D c T) {i : Nat} (hi : i < 6) : f_X7_ofHolder T (jI (i : Int)) (jI 7) = jI (eeI T i) := by
  have e : f_X7_ofHolder T (jI (i : Int)) (jI 7) = (if f_X7_isHolder (jI (i : Int)) = false then (-1) else (gHd_eve (gTr_hd T (jI (i : Int)).toNatClampNeg)).toInt32) := rfl
  rw [isH_t hi _ e]
  rw [ncI (by omega)]
  exact jL_il rfl
theorem vh_8 (h : GI D c T) {i : Nat} (hi : i < 6) : f_X7_ofHolder T (jI (i : Int)) (jI 8) = jI (loI T i) := by
  have e : f_X7_ofHolder T (jI (i : Int)) (jI 8) = (if f_X7_isHolder (jI (i : Int)) = false then (-1) else (gHd_lots (gTr_hd T (jI (i : Int)).toNatClampNeg)).toInt32) := rfl
  rw [isH_t hi _ e]
  rw [ncI (by omega)]
  exact jL_il rfl
theorem vo_0c (h : GI D c T) {i : Nat} (hi : i < gOd_n (gTr_bu T)) : ¬ jI (i : Int) < 0 ∧ jI (i : Int) < nI (gOd_n (gTr_bu T)) := by
  have hn := h.1.2.1.1
  rw [← jI_n]
  exact ⟨nI_pos (by omega), (nI_ltI (by omega) (by omega)).mpr hi⟩
theorem vo_00 (h : GI D c T) {i : Nat} (hi : i < gOd_n (gTr_bu T)) : f_X7_order T (jI 0) (jI (i : Int)) (jI 0) = jI (oH (gTr_bu T) i) := by
  have e : f_X7_order T (jI 0) (jI (i : Int)) (jI 0) = (if jI (i : Int) < 0 then (-1) else if jI (i : Int) < nI (gOd_n (gTr_bu T)) then gOd_ho (gTr_bu T) (jI (i : Int)).toNatClampNeg else (-1)) := rfl
  have hn := h.1.2.1.1
  rw [e, if_neg (vo_0c h hi).1, if_pos (vo_0c h hi).2, ncI (by omega)]
  exact jI_of _
theorem vo_01 (h : GI D c T) {i : Nat} (hi : i < gOd_n (gTr_bu T)) : f_X7_order T (jI 0) (jI (i : Int)) (jI 1) = jI (oS (gTr_bu T) i) := by
  have e : f_X7_order T (jI 0) (jI (i : Int)) (jI 1) = (if jI (i : Int) < 0 then (-1) else if jI (i : Int) < nI (gOd_n (gTr_bu T)) then gOd_sz (gTr_bu T) (jI (i : Int)).toNatClampNeg else (-1)) := rfl
  have hn := h.1.2.1.1
  rw [e, if_neg (vo_0c h hi).1, if_pos (vo_0c h hi).2, ncI (by omega)]
  exact jI_of _
theorem vo_02 (h : GI D c T) {i : Nat} (hi : i < gOd_n (gTr_bu T)) : f_X7_order T (jI 0) (jI (i : Int)) (jI 2) = jI (oD (gTr_bu T) i) := by
  have e : f_X7_order T (jI 0) (jI (i : Int)) (jI 2) = (if jI (i : Int) < 0 then (-1) else if jI (i : Int) < nI (gOd_n (gTr_bu T)) then gOd_dy (gTr_bu T) (jI (i : Int)).toNatClampNeg else (-1)) := rfl
  have hn := h.1.2.1.1
  rw [e, if_neg (vo_0c h hi).1, if_pos (vo_0c h hi).2, ncI (by omega)]
  exact jI_of _
theorem vo_0e (h : GI D c T) : f_X7_order T (jI 0) (jI (gOd_n (gTr_bu T) : Int)) (jI 0) = jI (-1) := by
  have e : f_X7_order T (jI 0) (jI (gOd_n (gTr_bu T) : Int)) (jI 0) = (if jI (gOd_n (gTr_bu T) : Int) < 0 then (-1) else if jI (gOd_n (gTr_bu T) : Int) < nI (gOd_n (gTr_bu T)) then gOd_ho (gTr_bu T) (jI (gOd_n (gTr_bu T) : Int)).toNatClampNeg else (-1)) := rfl
  have hn := h.1.2.1.1
  rw [e, ← jI_n, if_neg (nI_pos (by omega)), if_neg (by rw [nI_ltI (by omega) (by omega)]; omega)]
  decide
theorem vo_1c (h : GI D c T) {i : Nat} (hi : i < gOd_n (gTr_le T)) : ¬ jI (i : Int) < 0 ∧ jI (i : Int) < nI (gOd_n (gTr_le T)) := by
  have hn := h.1.2.2.1.1
  rw [← jI_n]
  exact ⟨nI_pos (by omega), (nI_ltI (by omega) (by omega)).mpr hi⟩
theorem vo_10 (h : GI D c T) {i : Nat} (hi : i < gOd_n (gTr_le T)) : f_X7_order T (jI 1) (jI (i : Int)) (jI 0) = jI (oH (gTr_le T) i) := by
  have e : f_X7_order T (jI 1) (jI (i : Int)) (jI 0) = (if jI (i : Int) < 0 then (-1) else if jI (i : Int) < nI (gOd_n (gTr_le T)) then gOd_ho (gTr_le T) (jI (i : Int)).toNatClampNeg else (-1)) := rfl
  have hn := h.1.2.2.1.1
  rw [e, if_neg (vo_1c h hi).1, if_pos (vo_1c h hi).2, ncI (by omega)]
  exact jI_of _
theorem vo_11 (h : GI D c T) {i : Nat} (hi : i < gOd_n (gTr_le T)) : f_X7_order T (jI 1) (jI (i : Int)) (jI 1) = jI (oS (gTr_le T) i) := by
  have e : f_X7_order T (jI 1) (jI (i : Int)) (jI 1) = (if jI (i : Int) < 0 then (-1) else if jI (i : Int) < nI (gOd_n (gTr_le T)) then gOd_sz (gTr_le T) (jI (i : Int)).toNatClampNeg else (-1)) := rfl
  have hn := h.1.2.2.1.1
  rw [e, if_neg (vo_1c h hi).1, if_pos (vo_1c h hi).2, ncI (by omega)]
  exact jI_of _
theorem vo_12 (h : GI D c T) {i : Nat} (hi : i < gOd_n (gTr_le T)) : f_X7_order T (jI 1) (jI (i : Int)) (jI 2) = jI (oD (gTr_le T) i) := by
  have e : f_X7_order T (jI 1) (jI (i : Int)) (jI 2) = (if jI (i : Int) < 0 then (-1) else if jI (i : Int) < nI (gOd_n (gTr_le T)) then gOd_dy (gTr_le T) (jI (i : Int)).toNatClampNeg else (-1)) := rfl
  have hn := h.1.2.2.1.1
  rw [e, if_neg (vo_1c h hi).1, if_pos (vo_1c h hi).2, ncI (by omega)]
  exact jI_of _
theorem vo_1e (h : GI D c T) : f_X7_order T (jI 1) (jI (gOd_n (gTr_le T) : Int)) (jI 0) = jI (-1) := by
  have e : f_X7_order T (jI 1) (jI (gOd_n (gTr_le T) : Int)) (jI 0) = (if jI (gOd_n (gTr_le T) : Int) < 0 then (-1) else if jI (gOd_n (gTr_le T) : Int) < nI (gOd_n (gTr_le T)) then gOd_ho (gTr_le T) (jI (gOd_n (gTr_le T) : Int)).toNatClampNeg else (-1)) := rfl
  have hn := h.1.2.2.1.1
  rw [e, ← jI_n, if_neg (nI_pos (by omega)), if_neg (by rw [nI_ltI (by omega) (by omega)]; omega)]
  decide
def lpI (T : zTr) : Int := if gLd_ended (gTr_la T) = false then -6 else (gLd_price (gTr_la T)).toInt
theorem vp_0 (h : GI D c T) {x x' : zDd} {r : Int64} (e : f_X7_price T x (jI 0) = (r, x')) : r = jL (mI T) := by
  have e2 : f_X7_price T x (jI 0) = (f_X6_middle T, x) := rfl
  rw [e2] at e
  rw [← (Prod.mk.inj e).1]
  exact jL_is (middle_int h.1.1)
theorem vp_1 (h : GI D c T) {x x' : zDd} {r : Int64} (e : f_X7_price T x (jI 1) = (r, x')) : r = jL (pI T) := by
  have e2 : f_X7_price T x (jI 1) = (gDd_price (f_X0_takePrice x T), f_X0_takePrice x T) := rfl
  rw [e2] at e
  rw [← (Prod.mk.inj e).1]
  exact jL_is (price_int x h.1.1 h.1.2.1 h.1.2.2.1).1
theorem vp_2 (h : GI D c T) {x x' : zDd} {r : Int64} (e : f_X7_price T x (jI 2) = (r, x')) : r = jL (lpI T) := by
  have e2 : f_X7_price T x (jI 2) = ((if gLd_ended (gTr_la T) = false then (-6) else gLd_price (gTr_la T)), x) := rfl
  rw [e2] at e
  rw [← (Prod.mk.inj e).1]
  unfold lpI
  split
  · decide
  · exact jL_of _
theorem vp_3 (h : GI D c T) {x x' : zDd} {r : Int64} (e : f_X7_price T x (jI 3) = (r, x')) : r = jL (iI T) := by
  have e2 : f_X7_price T x (jI 3) = (f_X6_unitIncome T, x) := rfl
  rw [e2] at e
  rw [← (Prod.mk.inj e).1]
  exact jL_is (ui_int h.1.1)
end VW
