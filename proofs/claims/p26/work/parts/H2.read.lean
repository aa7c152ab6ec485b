/-! the text is read. Written by wip/p26/law21.py -/
/-- a reader at a place of a text -/
def PZ (g : Nat → Int32) (X : zPd) (p : Nat) : Prop := gPd_n X = 29 ∧ gPd_sg X = g ∧ gPd_at X = p
section RD
variable {g : Nat → Int32} {X : zPd} {p : Nat}
theorem sg_in (h : PZ g X p) {q : Nat} (hq : q < 29) : f_X5_signAt X q = g q := by
  unfold f_X5_signAt
  dsimp only
  rw [if_neg (by rw [h.1]; omega), h.2.1]
theorem sg_out (h : PZ g X p) {q : Nat} (hq : 29 ≤ q) : f_X5_signAt X q = nI 0 := by
  unfold f_X5_signAt
  dsimp only
  rw [if_pos (by rw [h.1]; omega)]
theorem skip_y (h : PZ g X p) (hp : p < 29) {c : Int32} (hc : g p = c) : f_X5_skip X c = (true, sPd_at X (p + 1)) := by
  unfold f_X5_skip
  rw [zsl_e]
  rw [h.2.2, sg_in h hp, if_pos hc]
theorem skip_n (h : PZ g X p) (hp : p < 29) {c : Int32} (hc : g p ≠ c) : f_X5_skip X c = (false, X) := by
  unfold f_X5_skip
  rw [zsl_e]
  rw [h.2.2, sg_in h hp, if_neg hc]
theorem skip_end (h : PZ g X 29) {c : Int32} (hc : nI 0 ≠ c) : f_X5_skip X c = (false, X) := by
  unfold f_X5_skip
  rw [zsl_e]
  rw [h.2.2, sg_out h (Nat.le_refl _), if_neg hc]
theorem PZ_at (h : PZ g X p) (q : Nat) : PZ g (sPd_at X q) q := ⟨h.1, h.2.1, rfl⟩
theorem isD_j {d : Int} (hd : 0 ≤ d ∧ d ≤ 9) : isD (jI (48 + d)) ∧ jI (48 + d) - nI 48 = jI d := by
  have e : (jI (48 + d)).toInt = 48 + d := jI_t ⟨by omega, by omega⟩
  have hD : isD (jI (48 + d)) := ⟨by omega, by omega⟩
  refine ⟨hD, jI_is ?_⟩
  rw [dig_int hD, e]; omega
theorem dig_y (h : PZ g X p) (hp : p < 29) {d : Int} (hd : 0 ≤ d ∧ d ≤ 9) (e : g p = jI (48 + d)) : f_X5_digitAt X = jI d := by
  have e1 : f_X5_signAt X (gPd_at X) = jI (48 + d) := by rw [h.2.2, sg_in h hp, e]
  rw [dig_yes (by rw [e1]; exact (isD_j hd).1), e1]
  exact (isD_j hd).2
theorem dig_n (h : PZ g X p) (hp : p < 29) {v : Int} (hv : r32 v) (hn : v < 48 ∨ 57 < v) (e : g p = jI v) : f_X5_digitAt X = -1 := by
  refine dig_no ?_
  rw [h.2.2, sg_in h hp, e]
  intro q
  have h1 := q.1
  have h2 := q.2
  rw [jI_t hv] at h1 h2
  omega
theorem num_s (h : PZ g X p) {gr R1 R2 : Int32} {V q f : Nat} {v d : Int} (hq : q < 29) (hv : 1 ≤ v) (hd : 0 ≤ d) (hg : 10 * v + d ≤ gr.toInt) (hg2 : gr.toInt ≤ 1000000) : L_X5_num X gr R1 V R2 (f + 1) q (jI v) (jI d) = L_X5_num X gr R1 V R2 f (q + 1) (jI (10 * v + d)) (f_X5_digitAt (sPd_at X (q + 1))) := by
  have ev : (jI v).toInt = v := jI_t ⟨by omega, by omega⟩
  have ed : (jI d).toInt = d := jI_t ⟨by omega, by omega⟩
  have e10 : (nI 10).toInt = 10 := rfl
  have es : (nI 10 * jI v + jI d).toInt = 10 * v + d := i32_add (i32_mul e10 ev (by omega) (by omega)) ed (by omega) (by omega)
  have es2 : nI 10 * jI v + jI d = jI (10 * v + d) := jI_is es
  have z0 : (0 : Int32).toInt = 0 := rfl
  rw [L_X5_num_s, if_neg (by rw [i32_lt_iff]; omega), if_neg (by rw [h.1]; omega), if_neg (fun q => by have q2 := congrArg Int32.toInt q; omega), if_pos (by rw [i32_le_iff, es]; exact hg), es2]
theorem num_e {gr R1 R2 : Int32} {V q f : Nat} {v : Int32} : L_X5_num X gr R1 V R2 (f + 1) q v (-1) = (false, 0, q, v, -1) := by
  rw [L_X5_num_s, if_pos (by decide)]
end RD
theorem num_2 {g : Nat → Int32} {X : zPd} {p : Nat} (h : PZ g X p) (hp : p + 2 < 29) {gr : Int32} {d0_ d1_ w : Int} (k0 : 0 ≤ d0_ ∧ d0_ ≤ 9) (g0 : g (p + 0) = jI (48 + d0_)) (k1 : 0 ≤ d1_ ∧ d1_ ≤ 9) (g1 : g (p + 1) = jI (48 + d1_)) (k00 : 1 ≤ d0_) (hw : r32 w) (hw2 : w < 48 ∨ 57 < w) (gw : g (p + 2) = jI w) (hg : (10 * d0_ + d1_) ≤ gr.toInt) (hg2 : gr.toInt ≤ 1000000) : f_X5_readNumber X gr = (jI (10 * d0_ + d1_), sPd_at X (p + 2)) := by
  have hd0 : f_X5_digitAt X = jI d0_ := dig_y h (by omega) k0 g0
  have hat : gPd_at X = p := h.2.2
  have z0 : (0 : Int32).toInt = 0 := rfl
  have hd1 : f_X5_digitAt (sPd_at X (p + 1)) = jI d1_ := dig_y (PZ_at h _) (by omega) k1 g1
  have hdw : f_X5_digitAt (sPd_at X (p + 2)) = -1 := dig_n (PZ_at h _) hp hw hw2 gw
  have hfu : gPd_n X - (p + 1) + 1 = (29 - (p + 1) + 1 - 2) + 2 := by rw [h.1]; omega
  have hl : L_X5_num X gr (jI d0_) (p + 1) (jI d1_) (gPd_n X - (p + 1) + 1) (p + 1) (jI d0_) (jI d1_) = (false, 0, p + 2, jI (10 * d0_ + d1_), -1) := by
    rw [hfu]
    rw [show (29 - (p + 1) + 1 - 2) + 2 = (29 - (p + 1) + 1 - 2) + 1 + 1 from rfl, num_s h (by omega) (by omega) (by omega) (by omega) hg2, show p + 1 + 1 = p + 2 from rfl, hdw]
    exact num_e
  unfold f_X5_readNumber
  rw [zsl_e]
  dsimp only
  rw [hd0, if_pos (by rw [i32_le_iff, jI_t ⟨by omega, by omega⟩]; omega), hat, hd1, hl, if_neg (fun q => by cases q)]
theorem num_3 {g : Nat → Int32} {X : zPd} {p : Nat} (h : PZ g X p) (hp : p + 3 < 29) {gr : Int32} {d0_ d1_ d2_ w : Int} (k0 : 0 ≤ d0_ ∧ d0_ ≤ 9) (g0 : g (p + 0) = jI (48 + d0_)) (k1 : 0 ≤ d1_ ∧ d1_ ≤ 9) (g1 : g (p + 1) = jI (48 + d1_)) (k2 : 0 ≤ d2_ ∧ d2_ ≤ 9) (g2 : g (p + 2) = jI (48 + d2_)) (k00 : 1 ≤ d0_) (hw : r32 w) (hw2 : w < 48 ∨ 57 < w) (gw : g (p + 3) = jI w) (hg : (10 * (10 * d0_ + d1_) + d2_) ≤ gr.toInt) (hg2 : gr.toInt ≤ 1000000) : f_X5_readNumber X gr = (jI (10 * (10 * d0_ + d1_) + d2_), sPd_at X (p + 3)) := by
  have hd0 : f_X5_digitAt X = jI d0_ := dig_y h (by omega) k0 g0
  have hat : gPd_at X = p := h.2.2
  have z0 : (0 : Int32).toInt = 0 := rfl
  have hd1 : f_X5_digitAt (sPd_at X (p + 1)) = jI d1_ := dig_y (PZ_at h _) (by omega) k1 g1
  have hd2 : f_X5_digitAt (sPd_at X (p + 2)) = jI d2_ := dig_y (PZ_at h _) (by omega) k2 g2
  have hdw : f_X5_digitAt (sPd_at X (p + 3)) = -1 := dig_n (PZ_at h _) hp hw hw2 gw
  have hfu : gPd_n X - (p + 1) + 1 = (29 - (p + 1) + 1 - 3) + 3 := by rw [h.1]; omega
  have hl : L_X5_num X gr (jI d0_) (p + 1) (jI d1_) (gPd_n X - (p + 1) + 1) (p + 1) (jI d0_) (jI d1_) = (false, 0, p + 3, jI (10 * (10 * d0_ + d1_) + d2_), -1) := by
    rw [hfu]
    rw [show (29 - (p + 1) + 1 - 3) + 3 = (29 - (p + 1) + 1 - 3) + 2 + 1 from rfl, num_s h (by omega) (by omega) (by omega) (by omega) hg2, show p + 1 + 1 = p + 2 from rfl, hd2]
    rw [show (29 - (p + 1) + 1 - 3) + 2 = (29 - (p + 1) + 1 - 3) + 1 + 1 from rfl, num_s h (by omega) (by omega) (by omega) (by omega) hg2, show p + 2 + 1 = p + 3 from rfl, hdw]
    exact num_e
  unfold f_X5_readNumber
  rw [zsl_e]
  dsimp only
  rw [hd0, if_pos (by rw [i32_le_iff, jI_t ⟨by omega, by omega⟩]; omega), hat, hd1, hl, if_neg (fun q => by cases q)]
theorem num_4 {g : Nat → Int32} {X : zPd} {p : Nat} (h : PZ g X p) (hp : p + 4 < 29) {gr : Int32} {d0_ d1_ d2_ d3_ w : Int} (k0 : 0 ≤ d0_ ∧ d0_ ≤ 9) (g0 : g (p + 0) = jI (48 + d0_)) (k1 : 0 ≤ d1_ ∧ d1_ ≤ 9) (g1 : g (p + 1) = jI (48 + d1_)) (k2 : 0 ≤ d2_ ∧ d2_ ≤ 9) (g2 : g (p + 2) = jI (48 + d2_)) (k3 : 0 ≤ d3_ ∧ d3_ ≤ 9) (g3 : g (p + 3) = jI (48 + d3_)) (k00 : 1 ≤ d0_) (hw : r32 w) (hw2 : w < 48 ∨ 57 < w) (gw : g (p + 4) = jI w) (hg : (10 * (10 * (10 * d0_ + d1_) + d2_) + d3_) ≤ gr.toInt) (hg2 : gr.toInt ≤ 1000000) : f_X5_readNumber X gr = (jI (10 * (10 * (10 * d0_ + d1_) + d2_) + d3_), sPd_at X (p + 4)) := by
  have hd0 : f_X5_digitAt X = jI d0_ := dig_y h (by omega) k0 g0
  have hat : gPd_at X = p := h.2.2
  have z0 : (0 : Int32).toInt = 0 := rfl
  have hd1 : f_X5_digitAt (sPd_at X (p + 1)) = jI d1_ := dig_y (PZ_at h _) (by omega) k1 g1
  have hd2 : f_X5_digitAt (sPd_at X (p + 2)) = jI d2_ := dig_y (PZ_at h _) (by omega) k2 g2
  have hd3 : f_X5_digitAt (sPd_at X (p + 3)) = jI d3_ := dig_y (PZ_at h _) (by omega) k3 g3
  have hdw : f_X5_digitAt (sPd_at X (p + 4)) = -1 := dig_n (PZ_at h _) hp hw hw2 gw
  have hfu : gPd_n X - (p + 1) + 1 = (29 - (p + 1) + 1 - 4) + 4 := by rw [h.1]; omega
  have hl : L_X5_num X gr (jI d0_) (p + 1) (jI d1_) (gPd_n X - (p + 1) + 1) (p + 1) (jI d0_) (jI d1_) = (false, 0, p + 4, jI (10 * (10 * (10 * d0_ + d1_) + d2_) + d3_), -1) := by
    rw [hfu]
    rw [show (29 - (p + 1) + 1 - 4) + 4 = (29 - (p + 1) + 1 - 4) + 3 + 1 from rfl, num_s h (by omega) (by omega) (by omega) (by omega) hg2, show p + 1 + 1 = p + 2 from rfl, hd2]
    rw [show (29 - (p + 1) + 1 - 4) + 3 = (29 - (p + 1) + 1 - 4) + 2 + 1 from rfl, num_s h (by omega) (by omega) (by omega) (by omega) hg2, show p + 2 + 1 = p + 3 from rfl, hd3]
    rw [show (29 - (p + 1) + 1 - 4) + 2 = (29 - (p + 1) + 1 - 4) + 1 + 1 from rfl, num_s h (by omega) (by omega) (by omega) (by omega) hg2, show p + 3 + 1 = p + 4 from rfl, hdw]
    exact num_e
  unfold f_X5_readNumber
  rw [zsl_e]
  dsimp only
  rw [hd0, if_pos (by rw [i32_le_iff, jI_t ⟨by omega, by omega⟩]; omega), hat, hd1, hl, if_neg (fun q => by cases q)]
/-- the text -/
def TX (g : Nat → Int32) (wh a3 a2 a1 a0 t1 t0_ ot u1 u0 q2 q1 q0 i1 i0 : Int) : Prop :=
  g 0 = jI 98 ∧ g 1 = jI (48 + wh) ∧ g 2 = jI 58 ∧ g 3 = jI (48 + a3) ∧ g 4 = jI (48 + a2) ∧ g 5 = jI (48 + a1) ∧ g 6 = jI (48 + a0) ∧ g 7 = jI 64 ∧ g 8 = jI (48 + t1) ∧ g 9 = jI (48 + t0_) ∧ g 10 = jI 59 ∧ g 11 = jI 108 ∧ g 12 = jI (48 + ot) ∧ g 13 = jI 58 ∧ g 14 = jI (48 + u1) ∧ g 15 = jI (48 + u0) ∧ g 16 = jI 59 ∧ g 17 = jI 100 ∧ g 18 = jI 59 ∧ g 19 = jI 113 ∧ g 20 = jI (48 + q2) ∧ g 21 = jI (48 + q1) ∧ g 22 = jI (48 + q0) ∧ g 23 = jI 59 ∧ g 24 = jI 105 ∧ g 25 = jI (48 + i1) ∧ g 26 = jI (48 + i0) ∧ g 27 = jI 59 ∧ g 28 = jI 112
section RT
variable {g : Nat → Int32} {X : zPd} {wh a3 a2 a1 a0 t1 t0_ ot u1 u0 q2 q1 q0 i1 i0 : Int}
theorem ord_u {p : Nat} (h : PZ g X p) (hp : p < 29) {c : Int32} (e : g p = c) : f_X5_signAt X (gPd_at X) = c := by rw [h.2.2, sg_in h hp, e]
theorem hold_j {d : Int} (hd : 0 ≤ d ∧ d ≤ 5) : f_X7_isHolder (jI d) = true := by
  obtain ⟨n, rfl⟩ := Int.eq_ofNat_of_zero_le hd.1
  exact isH (by omega)
theorem rd_b (h : PZ g X 0) (hT : TX g wh a3 a2 a1 a0 t1 t0_ ot u1 u0 q2 q1 q0 i1 i0) (r0 : 0 ≤ wh ∧ wh ≤ 5) (r1 : 1 ≤ a3 ∧ a3 ≤ 9) (r2 : 0 ≤ a2 ∧ a2 ≤ 9) (r3 : 0 ≤ a1 ∧ a1 ≤ 9) (r4 : 0 ≤ a0 ∧ a0 ≤ 9) (r5 : 1 ≤ t1 ∧ t1 ≤ 2) (r6 : 0 ≤ t0_ ∧ t0_ ≤ 9) (r7 : 10 * t1 + t0_ ≤ 23) : ∃ X1, f_X5_readOrder X = (true, X1) ∧ PZ g X1 10 ∧ gPd_kd X1 = nI 98 ∧ gPd_ho X1 = jI wh ∧ gPd_nu X1 = jI (10 * (10 * (10 * a3 + a2) + a1) + a0) ∧ gPd_hr X1 = jI (10 * t1 + t0_) := by
  obtain ⟨g0, g1, g2, g3, g4, g5, g6, g7, g8, g9, g10, -⟩ := hT
  have hs : f_X5_signAt X (gPd_at X) = nI 98 := ord_u h (by decide) (g0.trans rfl)
  have h1 : PZ g (sPd_kd (sPd_at X 1) (nI 98)) 1 := ⟨h.1, h.2.1, rfl⟩
  have hd : f_X5_digitAt (sPd_kd (sPd_at X 1) (nI 98)) = jI wh := dig_y h1 (by decide) ⟨r0.1, by omega⟩ g1
  have h2 : PZ g (sPd_ho (sPd_at (sPd_kd (sPd_at X 1) (nI 98)) 2) (jI wh)) 2 := ⟨h.1, h.2.1, rfl⟩
  have k2 := skip_y h2 (by decide) (c := nI 58) (g2.trans rfl)
  have h3 := PZ_at h2 3
  have k3 := num_4 (p := 3) h3 (by decide) (gr := nI 1000000) ⟨by omega, r1.2⟩ g3 r2 g4 r3 g5 r4 g6 r1.1 (w := 64) ⟨by decide, by decide⟩ (by decide) g7 (by rw [show (nI 1000000).toInt = 1000000 from rfl]; omega) (by decide)
  have h4 : PZ g (sPd_nu (sPd_at (sPd_at (sPd_ho (sPd_at (sPd_kd (sPd_at X 1) (nI 98)) 2) (jI wh)) 3) 7) (jI (10 * (10 * (10 * a3 + a2) + a1) + a0))) 7 := ⟨h.1, h.2.1, rfl⟩
  have k4 := skip_y h4 (by decide) (c := nI 64) (g7.trans rfl)
  have h5 := PZ_at h4 8
  have k5 := num_2 (p := 8) h5 (by decide) (gr := nI 23) ⟨by omega, by omega⟩ g8 r6 g9 r5.1 (w := 59) ⟨by decide, by decide⟩ (by decide) g10 (by rw [show (nI 23).toInt = 23 from rfl]; omega) (by decide)
  have z0 : (0 : Int32).toInt = 0 := rfl
  have hda : f_X5_readDeal (sPd_kd (sPd_at X 1) (nI 98)) = (true, sPd_hr (sPd_at (sPd_at (sPd_nu (sPd_at (sPd_at (sPd_ho (sPd_at (sPd_kd (sPd_at X 1) (nI 98)) 2) (jI wh)) 3) 7) (jI (10 * (10 * (10 * a3 + a2) + a1) + a0))) 8) 10) (jI (10 * t1 + t0_))) := by
    unfold f_X5_readDeal
    rw [zsl_e]
    dsimp only
    rw [hd, hold_j r0, if_neg (by decide), show (gPd_at (sPd_kd (sPd_at X 1) (nI 98)) + 1) = 2 from rfl, k2]
    dsimp only
    rw [if_neg (by decide), k3]
    dsimp only
    rw [if_pos (by rw [i32_le_iff, jI_t ⟨by omega, by omega⟩]; omega), k4]
    dsimp only
    rw [if_neg (show ¬ true = false by decide), if_neg (show ¬ true = false by decide), k5]
    dsimp only
    rw [if_neg (by rw [i32_lt_iff, jI_t ⟨by omega, by omega⟩]; omega)]
  have hro : f_X5_readOrder X = f_X5_readDeal (sPd_kd (sPd_at X 1) (nI 98)) := by
    unfold f_X5_readOrder
    rw [zsl_e]
    rw [hs, if_pos rfl, show gPd_at X + 1 = 1 by rw [h.2.2]]
  rw [hro, hda]
  exact ⟨_, rfl, ⟨h.1, h.2.1, rfl⟩, rfl, rfl, rfl, rfl⟩
theorem rd_l (h : PZ g X 11) (hT : TX g wh a3 a2 a1 a0 t1 t0_ ot u1 u0 q2 q1 q0 i1 i0) (r0 : 0 ≤ ot ∧ ot ≤ 5) (r1 : 1 ≤ u1 ∧ u1 ≤ 9) (r2 : 0 ≤ u0 ∧ u0 ≤ 9) : ∃ X1, f_X5_readOrder X = (true, X1) ∧ PZ g X1 16 ∧ gPd_kd X1 = nI 108 ∧ gPd_ho X1 = jI ot ∧ gPd_nu X1 = jI (10 * u1 + u0) ∧ gPd_hr X1 = jI 0 := by
  obtain ⟨-, -, -, -, -, -, -, -, -, -, -, g11, g12, g13, g14, g15, g16, -⟩ := hT
  have hs : f_X5_signAt X (gPd_at X) = nI 108 := ord_u h (by decide) (g11.trans rfl)
  have h1 : PZ g (sPd_kd (sPd_at X 12) (nI 108)) 12 := ⟨h.1, h.2.1, rfl⟩
  have hd : f_X5_digitAt (sPd_kd (sPd_at X 12) (nI 108)) = jI ot := dig_y h1 (by decide) ⟨r0.1, by omega⟩ g12
  have h2 : PZ g (sPd_ho (sPd_at (sPd_kd (sPd_at X 12) (nI 108)) 13) (jI ot)) 13 := ⟨h.1, h.2.1, rfl⟩
  have k2 := skip_y h2 (by decide) (c := nI 58) (g13.trans rfl)
  have h3 := PZ_at h2 14
  have k3 := num_2 (p := 14) h3 (by decide) (gr := nI 1000000) ⟨by omega, r1.2⟩ g14 r2 g15 r1.1 (w := 59) ⟨by decide, by decide⟩ (by decide) g16 (by rw [show (nI 1000000).toInt = 1000000 from rfl]; omega) (by decide)
  have h4 : PZ g (sPd_nu (sPd_at (sPd_at (sPd_ho (sPd_at (sPd_kd (sPd_at X 12) (nI 108)) 13) (jI ot)) 14) 16) (jI (10 * u1 + u0))) 16 := ⟨h.1, h.2.1, rfl⟩
  have k4 := skip_n h4 (by decide) (c := nI 64) (by rw [g16]; decide)
  have z0 : (0 : Int32).toInt = 0 := rfl
  have hda : f_X5_readDeal (sPd_kd (sPd_at X 12) (nI 108)) = (true, sPd_hr (sPd_nu (sPd_at (sPd_at (sPd_ho (sPd_at (sPd_kd (sPd_at X 12) (nI 108)) 13) (jI ot)) 14) 16) (jI (10 * u1 + u0))) (nI 0)) := by
    unfold f_X5_readDeal
    rw [zsl_e]
    dsimp only
    rw [hd, hold_j r0, if_neg (by decide), show (gPd_at (sPd_kd (sPd_at X 12) (nI 108)) + 1) = 13 from rfl, k2]
    dsimp only
    rw [if_neg (by decide), k3]
    dsimp only
    rw [if_pos (by rw [i32_le_iff, jI_t ⟨by omega, by omega⟩]; omega), k4]
    dsimp only
    rw [if_pos (show false = false from rfl), if_pos (show false = false from rfl), if_neg (show ¬ nI 0 < 0 by decide)]
  have hro : f_X5_readOrder X = f_X5_readDeal (sPd_kd (sPd_at X 12) (nI 108)) := by
    unfold f_X5_readOrder
    rw [zsl_e]
    rw [hs, if_neg (by decide), if_neg (by decide), if_neg (by decide), if_pos rfl, show gPd_at X + 1 = 12 by rw [h.2.2]]
  rw [hro, hda]
  exact ⟨_, rfl, ⟨h.1, h.2.1, rfl⟩, rfl, rfl, rfl, rfl⟩
theorem rd_d (h : PZ g X 17) (hT : TX g wh a3 a2 a1 a0 t1 t0_ ot u1 u0 q2 q1 q0 i1 i0) : ∃ X1, f_X5_readOrder X = (true, X1) ∧ PZ g X1 18 ∧ gPd_kd X1 = nI 100 := by
  obtain ⟨-, -, -, -, -, -, -, -, -, -, -, -, -, -, -, -, -, g17, -⟩ := hT
  have hs : f_X5_signAt X (gPd_at X) = nI 100 := ord_u h (by decide) (g17.trans rfl)
  refine ⟨sPd_kd (sPd_at X 18) (nI 100), ?_, ⟨h.1, h.2.1, rfl⟩, rfl⟩
  unfold f_X5_readOrder
  rw [zsl_e]
  rw [hs, if_neg (by decide), if_pos rfl, show gPd_at X + 1 = 18 by rw [h.2.2]]
theorem rd_p (h : PZ g X 28) (hT : TX g wh a3 a2 a1 a0 t1 t0_ ot u1 u0 q2 q1 q0 i1 i0) : ∃ X1, f_X5_readOrder X = (true, X1) ∧ PZ g X1 29 ∧ gPd_kd X1 = nI 112 := by
  obtain ⟨-, -, -, -, -, -, -, -, -, -, -, -, -, -, -, -, -, -, -, -, -, -, -, -, -, -, -, -, g28⟩ := hT
  have hs : f_X5_signAt X (gPd_at X) = nI 112 := ord_u h (by decide) (g28.trans rfl)
  refine ⟨sPd_kd (sPd_at X 29) (nI 112), ?_, ⟨h.1, h.2.1, rfl⟩, rfl⟩
  unfold f_X5_readOrder
  rw [zsl_e]
  rw [hs, if_neg (by decide), if_neg (by decide), if_neg (by decide), if_neg (by decide), if_pos rfl, show gPd_at X + 1 = 29 by rw [h.2.2]]
theorem rd_q (h : PZ g X 19) (hT : TX g wh a3 a2 a1 a0 t1 t0_ ot u1 u0 q2 q1 q0 i1 i0) (r1 : 1 ≤ q2 ∧ q2 ≤ 9) (r2 : 0 ≤ q1 ∧ q1 ≤ 9) (r3 : 0 ≤ q0 ∧ q0 ≤ 9) : ∃ X1, f_X5_readOrder X = (true, X1) ∧ PZ g X1 23 ∧ gPd_kd X1 = nI 113 ∧ gPd_nu X1 = jI (10 * (10 * q2 + q1) + q0) := by
  obtain ⟨-, -, -, -, -, -, -, -, -, -, -, -, -, -, -, -, -, -, -, g19, g20, g21, g22, g23, -⟩ := hT
  have hs : f_X5_signAt X (gPd_at X) = nI 113 := ord_u h (by decide) (g19.trans rfl)
  have h1 : PZ g (sPd_kd (sPd_at X 20) (nI 113)) 20 := ⟨h.1, h.2.1, rfl⟩
  have k3 := num_3 (p := 20) h1 (by decide) (gr := nI 1000000) ⟨by omega, r1.2⟩ g20 r2 g21 r3 g22 r1.1 (w := 59) ⟨by decide, by decide⟩ (by decide) g23 (by rw [show (nI 1000000).toInt = 1000000 from rfl]; omega) (by decide)
  have z0 : (0 : Int32).toInt = 0 := rfl
  refine ⟨sPd_nu (sPd_at (sPd_kd (sPd_at X 20) (nI 113)) 23) (jI (10 * (10 * q2 + q1) + q0)), ?_, ⟨h.1, h.2.1, rfl⟩, rfl, rfl⟩
  unfold f_X5_readOrder
  rw [zsl_e]
  rw [hs, if_neg (by decide), if_neg (by decide), if_neg (by decide), if_neg (by decide), if_neg (by decide), if_pos rfl, show gPd_at X + 1 = 20 by rw [h.2.2]]
  dsimp only
  rw [k3]
  dsimp only
  rw [if_neg (by rw [i32_lt_iff, jI_t ⟨by omega, by omega⟩]; omega)]
theorem rd_i (h : PZ g X 24) (hT : TX g wh a3 a2 a1 a0 t1 t0_ ot u1 u0 q2 q1 q0 i1 i0) (r1 : 1 ≤ i1 ∧ i1 ≤ 9) (r2 : 0 ≤ i0 ∧ i0 ≤ 9) : ∃ X1, f_X5_readOrder X = (true, X1) ∧ PZ g X1 27 ∧ gPd_kd X1 = nI 105 ∧ gPd_nu X1 = jI (10 * i1 + i0) := by
  obtain ⟨-, -, -, -, -, -, -, -, -, -, -, -, -, -, -, -, -, -, -, -, -, -, -, -, g24, g25, g26, g27, -⟩ := hT
  have hs : f_X5_signAt X (gPd_at X) = nI 105 := ord_u h (by decide) (g24.trans rfl)
  have h1 : PZ g (sPd_kd (sPd_at X 25) (nI 105)) 25 := ⟨h.1, h.2.1, rfl⟩
  have k3 := num_2 (p := 25) h1 (by decide) (gr := nI 1000000) ⟨by omega, r1.2⟩ g25 r2 g26 r1.1 (w := 59) ⟨by decide, by decide⟩ (by decide) g27 (by rw [show (nI 1000000).toInt = 1000000 from rfl]; omega) (by decide)
  have z0 : (0 : Int32).toInt = 0 := rfl
  refine ⟨sPd_nu (sPd_at (sPd_kd (sPd_at X 25) (nI 105)) 27) (jI (10 * i1 + i0)), ?_, ⟨h.1, h.2.1, rfl⟩, rfl, rfl⟩
  unfold f_X5_readOrder
  rw [zsl_e]
  rw [hs, if_neg (by decide), if_neg (by decide), if_pos rfl, show gPd_at X + 1 = 25 by rw [h.2.2]]
  dsimp only
  rw [k3]
  dsimp only
  rw [if_neg (by rw [i32_lt_iff, jI_t ⟨by omega, by omega⟩]; omega)]
end RT
