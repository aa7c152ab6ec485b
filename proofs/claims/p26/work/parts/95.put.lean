/-! writing on the pad -/
theorem bv_sh (x : BitVec 64) (n : Nat) (hn : n ≤ 56) : (x.sshiftRight n) &&& 255#64 = (x >>> n) &&& 255#64 := by
  apply BitVec.eq_of_getLsbD_eq
  intro i hi
  rw [BitVec.getLsbD_and, BitVec.getLsbD_and, BitVec.getLsbD_ushiftRight, BitVec.getLsbD_sshiftRight]
  by_cases c : i < 8
  · rw [if_pos (show n + i < 64 by omega), decide_eq_false (show ¬ 64 ≤ i by omega)]
    rfl
  · have h : (255#64).getLsbD i = false := by
      rw [BitVec.getLsbD_ofNat, Nat.testBit_lt_two_pow (Nat.lt_of_lt_of_le (show 255 < 2 ^ 8 by decide) (Nat.pow_le_pow_right (by omega) (by omega))), Bool.and_false]
    rw [h, Bool.and_false, Bool.and_false]
theorem sh_eq (ch : Int64) : ∀ j, j < 8 → ((ch.toUInt64 >>> ((nI (8 * j)).toInt64.toUInt64 &&& Int64.toUInt64 63)).toInt64 &&& 255) = ((ch >>> ((nI (8 * j)).toInt64 &&& 63)) &&& 255) := fun j hj => by
  have h := bv_sh ch.toBitVec (8 * j) (by omega)
  apply Int64.toBitVec_inj.mp
  match j, hj, h with
  | 0, _, h => exact h.symm
  | 1, _, h => exact h.symm
  | 2, _, h => exact h.symm
  | 3, _, h => exact h.symm
  | 4, _, h => exact h.symm
  | 5, _, h => exact h.symm
  | 6, _, h => exact h.symm
  | 7, _, h => exact h.symm
  | n + 8, hn, _ => exact absurd hn (by omega)
theorem and255 (v : Int64) : ∃ k : Nat, k ≤ 255 ∧ (v &&& 255).toInt = (k : Int) := by
  refine ⟨(v.toBitVec &&& 255#64).toNat, ?_, ?_⟩
  · rw [BitVec.toNat_and]
    exact Nat.and_le_right
  · have h : (v.toBitVec &&& 255#64).toNat ≤ 255 := by
      rw [BitVec.toNat_and]
      exact Nat.and_le_right
    show (v.toBitVec &&& 255#64).toInt = _
    rw [BitVec.toInt_eq_toNat_of_lt (by omega)]
theorem nar_small (k : Nat) (h : k ≤ 255) : ((nI k).toUInt32 % 65536).toInt32 = nI k := by
  have h1 : (nI k).toUInt32 = UInt32.ofNat k := rfl
  have h2 : UInt32.ofNat k % 65536 = UInt32.ofNat k := by
    apply UInt32.toNat_inj.mp
    rw [UInt32.toNat_mod, UInt32.toNat_ofNat']
    have : (65536 : UInt32).toNat = 65536 := rfl
    rw [this]
    omega
  rw [h1, h2]
  rfl
theorem shr8 (r : Int64) : ((r.toUInt64 >>> 8).toInt64).toUInt64.toNat = r.toUInt64.toNat / 256 := by
  show (r.toUInt64 >>> 8).toNat = _
  rw [UInt64.toNat_shiftRight]
  show r.toUInt64.toNat >>> 8 = _
  rw [Nat.shiftRight_eq_div_pow]
theorem zero_of (r : Int64) (h : r.toUInt64.toNat < 1) : r = 0 := by
  have h1 : r.toUInt64 = 0 := UInt64.toNat_inj.mp (by have : (0 : UInt64).toNat = 0 := rfl; omega)
  have h2 : r = r.toUInt64.toInt64 := rfl
  rw [h2, h1]; rfl
theorem cnt_eq : ∀ (m k : Nat) (r : Int64), k + m = 8 → r.toUInt64.toNat < 256 ^ m →
    ((L_X8_put1 (m + 1) k r).1 = true → (L_X8_put1 (m + 1) k r).2.1 = (-2)) ∧ (L_X8_put1 (m + 1) k r).2.2.1 ≤ 8 ∧
    (if (L_X5_cnt (m + 1) r k).1 = true then (L_X5_cnt (m + 1) r k).2.1 else (L_X5_cnt (m + 1) r k).2.2.2) = (if (L_X8_put1 (m + 1) k r).1 = true then 0 else if (L_X8_put1 (m + 1) k r).2.2.2 = 0 then (L_X8_put1 (m + 1) k r).2.2.1 else 0)
  | 0, k, r, hk, hr => by
    have h8 : k = 8 := by omega
    subst h8
    have e1 : L_X8_put1 (0 + 1) 8 r = (false, 0, 8, r) := by rw [L_X8_put1_s, if_pos (Nat.le_refl 8)]
    have e2 : L_X5_cnt (0 + 1) r 8 = (false, 0, r, 8) := by rw [L_X5_cnt_s, if_pos (Nat.le_refl 8)]
    rw [e1, e2]
    refine ⟨fun z => (by cases z), Nat.le_refl 8, ?_⟩
    show 8 = if r = 0 then 8 else 0
    rw [if_pos (zero_of r hr)]
  | m + 1, k, r, hk, hr => by
    have hin : f_X8_in (r &&& 255) 33 126 = false ↔ ¬ (33 ≤ (r &&& 255).toInt ∧ (r &&& 255).toInt ≤ 126) := in_false
    have z33 : (33 : Int64).toInt = 33 := rfl
    have z126 : (126 : Int64).toInt = 126 := rfl
    rw [L_X8_put1_s, L_X5_cnt_s]
    rw [if_neg (c := 8 ≤ k) (by omega), if_neg (c := 8 ≤ k) (by omega)]
    by_cases c0 : r = 0
    · have c1 : (r &&& 255) = 0 := by rw [c0]; rfl
      rw [if_pos c0, if_pos c1]
      refine ⟨fun z => (by cases z), by show k ≤ 8; omega, ?_⟩
      show k = if r = 0 then k else 0
      rw [if_pos c0]
    rw [if_neg c0]
    by_cases c1 : (r &&& 255) = 0
    · have c2 : (r &&& 255) < 33 := by rw [c1]; decide
      rw [if_pos c1, if_pos c2]
      refine ⟨fun z => (by cases z), by show k ≤ 8; omega, ?_⟩
      show 0 = if r = 0 then k else 0
      rw [if_neg c0]
    rw [if_neg c1]
    by_cases c2 : (r &&& 255) < 33
    · rw [if_pos c2]
      rw [i64_lt_iff, z33] at c2
      rw [if_pos (hin.mpr (by omega))]
      exact ⟨fun _ => rfl, by show k ≤ 8; omega, rfl⟩
    rw [if_neg c2]
    rw [i64_lt_iff, z33] at c2
    by_cases c3 : (r &&& 255) ≤ 126
    · rw [if_pos c3]
      rw [i64_le_iff, z126] at c3
      rw [if_neg (fun q => hin.mp q (by omega))]
      refine cnt_eq m (k + 1) _ (by omega) ?_
      rw [shr8]
      have e : 256 ^ (m + 1) = 256 ^ m * 256 := by rw [Nat.pow_succ]
      omega
    · rw [if_neg c3]
      rw [i64_le_iff, z126] at c3
      rw [if_pos (hin.mpr (by omega))]
      exact ⟨fun _ => rfl, by show k ≤ 8; omega, rfl⟩
/-- the sign at a place of what is put -/
noncomputable def sgM (ch : Int64) (j : Nat) : Int32 := (((ch >>> ((nI (8 * j)).toInt64 &&& 63)) &&& 255)).toInt32
theorem sgC (ch : Int64) {j : Nat} (hj : j < 8) : ((((((ch.toUInt64 >>> ((nI (8 * j)).toInt64.toUInt64 &&& Int64.toUInt64 63)).toInt64 &&& 255)).toInt32)).toUInt32 % 65536).toInt32 = sgM ch j := by
  rw [sh_eq ch j hj]
  unfold sgM
  obtain ⟨k, hk, e⟩ := and255 (ch >>> ((nI (8 * j)).toInt64 &&& 63))
  have e2 : ((ch >>> ((nI (8 * j)).toInt64 &&& 63)) &&& 255).toInt32 = nI k := by
    rw [i32_eq_iff, l_i32 (by omega) (by omega), nI_int (by omega), e]
  rw [e2, nar_small k hk]
theorem app_at (ch : Int64) : ∀ (j : Nat) (X : zPd), j ≤ 8 → gPd_n X + j ≤ 80 → gPd_n (L_X5_app ch (j + 1) X j).1 = gPd_n X + j ∧ (∀ i, gPd_sg (L_X5_app ch (j + 1) X j).1 i = if gPd_n X ≤ i ∧ i < gPd_n X + j then sgM ch (gPd_n X + j - 1 - i) else gPd_sg X i) ∧ ((∀ i, zch (gPd_sg X i)) → ∀ i, zch (gPd_sg (L_X5_app ch (j + 1) X j).1 i))
  | 0, X, hj, hn => by
    have e : L_X5_app ch (0 + 1) X 0 = (X, 0) := by rw [L_X5_app_s, if_pos rfl]
    rw [e]
    exact ⟨rfl, fun i => by rw [if_neg (by omega)], fun h => h⟩
  | j + 1, X, hj, hn => by
    have e : L_X5_app ch (j + 1 + 1) X (j + 1) = L_X5_app ch (j + 1) (sPd_sg (sPd_n X (gPd_n X + 1)) (upd (gPd_sg X) (gPd_n X) (sgM ch j))) j := by
      rw [L_X5_app_s, if_neg (by omega), if_neg (c := 80 ≤ gPd_n X) (by omega)]
      dsimp only
      rw [show j + 1 - 1 = j from rfl, sgC ch (by omega)]
    rw [e]
    obtain ⟨h1, h2, h3⟩ := app_at ch j (sPd_sg (sPd_n X (gPd_n X + 1)) (upd (gPd_sg X) (gPd_n X) (sgM ch j))) (by omega) (show gPd_n X + 1 + j ≤ 80 by omega)
    refine ⟨h1.trans (show gPd_n X + 1 + j = gPd_n X + (j + 1) by omega), fun i => ?_, fun hz => h3 (fun i => ?_)⟩
    · rw [h2 i]
      show (if gPd_n X + 1 ≤ i ∧ i < gPd_n X + 1 + j then sgM ch (gPd_n X + 1 + j - 1 - i) else upd (gPd_sg X) (gPd_n X) (sgM ch j) i) = _
      rw [upd_at]
      by_cases c1 : i = gPd_n X
      · subst c1
        rw [if_neg (by omega), if_pos rfl, if_pos (by omega)]
        exact congrArg (sgM ch) (by omega)
      · rw [if_neg c1]
        by_cases c2 : gPd_n X + 1 ≤ i ∧ i < gPd_n X + 1 + j
        · rw [if_pos c2, if_pos (by omega)]
          exact congrArg (sgM ch) (by omega)
        · rw [if_neg c2, if_neg (by omega)]
    · show zch (upd (gPd_sg X) (gPd_n X) (sgM ch j) i)
      rw [upd_at]
      by_cases c1 : i = gPd_n X
      · rw [if_pos c1, ← sgC ch (by omega)]; exact zch_c _
      · rw [if_neg c1]; exact hz i
theorem put2_at (S : zMs) (ch : Int64) (mn : Nat) : ∀ (m k : Nat) (pd : Nat → Int32), k + m = mn → ∀ i, (L_X8_put2 S ch mn (m + 1) pd k).1 i = if gMs_pdm S + k ≤ i ∧ i < gMs_pdm S + mn then sgM ch (gMs_pdm S + mn - 1 - i) else pd i
  | 0, k, pd, hk, i => by
    have e : L_X8_put2 S ch mn (0 + 1) pd k = (pd, k) := by rw [L_X8_put2_s, if_pos (by omega)]
    rw [e, if_neg (by omega)]
  | m + 1, k, pd, hk, i => by
    have e : L_X8_put2 S ch mn (m + 1 + 1) pd k = L_X8_put2 S ch mn (m + 1) (upd pd (gMs_pdm S + k) (sgM ch ((mn - 1) - k))) (k + 1) := by
      rw [L_X8_put2_s, if_neg (by omega)]
      rfl
    rw [e, put2_at S ch mn m (k + 1) _ (by omega) i, upd_at]
    by_cases c1 : i = gMs_pdm S + k
    · subst c1
      rw [if_neg (by omega), if_pos rfl, if_pos (by omega)]
      exact congrArg (sgM ch) (by omega)
    · rw [if_neg c1]
      by_cases c2 : gMs_pdm S + (k + 1) ≤ i ∧ i < gMs_pdm S + mn
      · rw [if_pos c2, if_pos (by omega)]
      · rw [if_neg c2, if_neg (by omega)]
section pads
variable {c : Nat} {T : zTr} {z z' : zPd} {y : zHs} {s : zSl} {S S' : zMs}
theorem FR_pad (h : FR c T z y s S) (hb : bP c (gPd_n z) ≤ bP (c + 1) (gPd_n z')) (e0 : gMs_at S' = gMs_at S) (e1 : gMs_pm S' = gMs_pm S) (e2 : gMs_pf S' = gMs_pf S) (e3 : gMs_past S' = gMs_past S) (e4 : gMs_sl S' = gMs_sl S) (e5 : gMs_sv S' = gMs_sv S) (hP : PR z' S') : FR (c + 1) T z' y s S' := by
  obtain ⟨h1, h2, h3, h4⟩ := h
  refine ⟨gT_mono (D := 100 * (c : Int)) hb (by omega) (by rw [e0]; exact h1), HR_mono hb (by omega) (HR_S e1 e2 e3 h2), SR_mono hb (by omega) (SR_S e5 e4 h3), hP⟩
theorem put_FR (h : FR c T z y s S) (ch : Int64) : (f_X7_put z ch).1 = (f_X8_put S ch).1 ∧ FR (c + 1) T (f_X7_put z ch).2 y s (f_X8_put S ch).2 := by
  obtain ⟨p1, p2, p3, p4⟩ := h.2.2.2
  have hlt : ch.toUInt64.toNat < 256 ^ 8 := ch.toUInt64.toNat_lt
  obtain ⟨q1, q2, q3⟩ := cnt_eq 8 0 ch rfl hlt
  unfold f_X7_put f_X8_put f_X5_countCharacters
  rw [zsl_e]
  dsimp only
  rw [show 8 - 0 + 1 = 8 + 1 from rfl, q3]
  generalize L_X8_put1 (8 + 1) 0 ch = d at q1 q2 ⊢
  by_cases c1 : d.1 = true
  · rw [if_pos c1, if_pos c1, if_pos rfl, q1 c1]
    exact ⟨rfl, FR_same h⟩
  rw [if_neg c1, if_neg c1]
  by_cases c2 : d.2.2.2 = 0
  · rw [if_pos c2, if_pos c2]
    by_cases c3 : d.2.2.1 = 0
    · rw [if_pos c3, if_pos c3]
      exact ⟨rfl, FR_same h⟩
    rw [if_neg c3, if_neg c3]
    by_cases c4 : gPd_n z + d.2.2.1 ≤ 80
    · rw [if_pos c4, if_pos (by rw [← p1]; exact c4)]
      obtain ⟨a1, a2, a3⟩ := app_at ch d.2.2.1 z q2 c4
      have hz' : (f_X5_append z ch d.2.2.1) = (L_X5_app ch (d.2.2.1 + 1) z d.2.2.1).1 := rfl
      rw [hz']
      generalize (L_X5_app ch (d.2.2.1 + 1) z d.2.2.1).1 = z1 at a1 a2 a3 ⊢
      refine ⟨by show nI (gPd_n z1) = nI (gMs_pdm S + d.2.2.1); rw [a1, p1], ?_⟩
      refine FR_pad h ?_ rfl rfl rfl rfl rfl rfl ⟨by rw [a1, p1], by rw [a1]; exact c4, fun i hi => ?_, a3 p4⟩
      · rw [a1]
        unfold bP
        by_cases cn : gPd_n z = 0
        · rw [if_pos cn, if_neg (by omega)]; omega
        · rw [if_neg cn, if_neg (by omega)]; omega
      · rw [a1] at hi
        show gPd_sg z1 i = (L_X8_put2 S ch d.2.2.1 (d.2.2.1 - 0 + 1) (gMs_pd S) 0).1 i
        rw [show d.2.2.1 - 0 + 1 = d.2.2.1 + 1 by omega, put2_at S ch d.2.2.1 d.2.2.1 0 _ (by omega) i, a2 i, ← p1]
        by_cases ci : gPd_n z ≤ i
        · rw [if_pos (by omega), if_pos (by omega)]
        · rw [if_neg (by omega), if_neg (by omega)]
          exact p3 i (by omega)
    · rw [if_neg c4, if_neg (by rw [← p1]; exact c4)]
      exact ⟨rfl, FR_same h⟩
  · rw [if_neg c2, if_neg c2, if_pos rfl]
    by_cases c3 : d.2.2.1 = 0
    · rw [if_pos c3]
      exact ⟨rfl, FR_same h⟩
    · rw [if_neg c3]
      exact ⟨rfl, FR_same h⟩
theorem wipe_FR (h : FR c T z y s S) : (f_X7_wipe z).1 = nI (f_X8_wipe S).1 ∧ FR (c + 1) T (f_X7_wipe z).2 y s (f_X8_wipe S).2 := by
  obtain ⟨p1, p2, p3, p4⟩ := h.2.2.2
  refine ⟨?_, FR_pad h ?_ rfl rfl rfl rfl rfl rfl ⟨rfl, Nat.zero_le _, fun i hi => absurd hi (Nat.not_lt_zero _), p4⟩⟩
  · show nI (gPd_n z) = nI (gMs_pdm S)
    rw [p1]
  · show bP c (gPd_n z) ≤ bP (c + 1) 0
    unfold bP
    rw [if_pos rfl]
    split <;> omega
end pads
