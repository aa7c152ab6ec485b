/-! sound: all is looked through. Written by wip/p26/law2.py -/
abbrev rm_sound : Room := { frames := 8, cells := 1, slots := 6, locals := 192 }
/-- cells that are not asked for any more -/
theorem zj_dropX {E : zE} {nL k n : Nat} {pc : Nat} {L : List (Nat × Value)} {st : List Value} (X Bs : List va_W) (kk : zJ E nL k n Bs.flatten pc L st) : zJ E nL k n (X ++ Bs).flatten pc L st := by
  rw [List.flatten_append]
  generalize X.flatten = w1
  generalize Bs.flatten = w2 at kk ⊢
  intro H locs ls hP hD hS hl
  have e : ∀ j : Nat, (w1 ++ w2)[w1.length + j]? = w2[j]? := fun j => by rw [List.getElem?_append_right (Nat.le_add_right _ _), Nat.add_sub_cancel_left]
  refine kk H locs ls (fun j q h => hP (w1.length + j) q ((e j).trans h)) ⟨fun i j p q hp hq hpq => ?_, fun j q h => hD.2 (w1.length + j) q ((e j).trans h)⟩ hS hl
  have := hD.1 (w1.length + i) (w1.length + j) p q ((e i).trans hp) ((e j).trans hq) hpq
  omega
/-- how many units of a holder wait in the first orders -/
def hSk (o : zOd) (h k : Nat) : Int := isum (fun i => if gOd_ho o i = nI h then (gOd_sz o i).toInt else 0) k
def wSk (o : zOd) (k : Nat) : Int := isum (fun i => (gOd_sz o (0 + i)).toInt) k
theorem hSk_s (o : zOd) (h k : Nat) : hSk o h (k + 1) = hSk o h k + (if gOd_ho o k = nI h then (gOd_sz o k).toInt else 0) := rfl
theorem wSk_s (o : zOd) (k : Nat) : wSk o (k + 1) = wSk o k + oS o k := by
  show isum _ k + (gOd_sz o (0 + k)).toInt = _
  rw [Nat.zero_add]
  rfl
theorem wSk_n (o : zOd) (n : Nat) : wSk o n = sS o 0 n := rfl
theorem oH_eq {o : zOd} {i h : Nat} (hh : h < 6) : gOd_ho o i = nI h ↔ oH o i = (h : Int) := by
  unfold oH
  rw [i32_eq_iff, nI_int (by omega)]
theorem hSk_t {D c : Int} {T : zTr} (hG : GI D c T) {k : Nat} (hk : k < gOd_n (gTr_le T)) (h : Nat) (hh : h < 6) : iup (fun h => hSk (gTr_le T) h k) (oH (gTr_le T) k).toNat (hSk (gTr_le T) (oH (gTr_le T) k).toNat k + oS (gTr_le T) k) h = hSk (gTr_le T) h (k + 1) := by
  have g := (GI_ol hG hk).1
  rw [hSk_s]
  unfold iup
  by_cases e : h = (oH (gTr_le T) k).toNat
  · rw [if_pos e, if_pos ((oH_eq hh).mpr (by omega)), e]
    rfl
  · rw [if_neg e, if_neg (fun q => e (by have := (oH_eq hh).mp q; omega))]
    show hSk (gTr_le T) h k = _
    omega
theorem wSk_r {D c : Int} {T : zTr} (hG : GI D c T) {k : Nat} (hk : k ≤ gOd_n (gTr_le T)) : 0 ≤ wSk (gTr_le T) k ∧ wSk (gTr_le T) k ≤ 1000000000 := by
  have g1 := (GI_r hG).2.2.2.2.2.2.2.2.2.2.2
  have g2 := (GI_r hG).2.2.2.2.1
  have hz : ∀ i, i < gOd_n (gTr_le T) → 0 ≤ (gOd_sz (gTr_le T) (0 + i)).toInt := fun i hi => by
    have := (GI_ol hG (i := 0 + i) (by omega)).2.1
    unfold oS at this
    omega
  have m := isum_mono (f := fun i => (gOd_sz (gTr_le T) (0 + i)).toInt) (n := k) _ hk hz
  have n := isum_nn (f := fun i => (gOd_sz (gTr_le T) (0 + i)).toInt) k (fun i hi => hz i (by omega))
  have e : sS (gTr_le T) 0 (gOd_n (gTr_le T)) = isum (fun i => (gOd_sz (gTr_le T) (0 + i)).toInt) (gOd_n (gTr_le T)) := rfl
  unfold wSk
  omega
section SOUND
variable {E : zE} {cy : Nat → ClassId} {l : Launch} {D : va_G} {x0 x1 x2 d0 d1 p0 p1 h0 h1 : Nat} {a b : Nat → Nat} {hs sl : Nat → Nat → Nat} {T U : zTr} {x : zDd} {z : zPd} {y : zHs} {s : zSl} {Dd c : Int}
set_option maxHeartbeats 4000000 in
set_option maxRecDepth 100000 in
theorem sound_k0 (C : zO E cL_sound 12 "SwingUnitsLaw" rm_sound cy l D) (hG : GI Dd c T) (hO : LO T z y s) {q : Nat} (f : Nat → Int) (kk : zJ E 12 1 6 (([LA cy q 6 f] : List va_W) ++ LB cy x0 x1 x2 d0 d1 p0 p1 h0 h1 a b hs sl T U x z y s).flatten 164 [(10, .int (jI (gOd_n (gTr_bu T) : Int))), (9, .int (jI 0)), (7, .long (jL 0)), (6, .ref q), (5, .int (jI (dI T))), (3, .long (jL 0)), (1, .long (jL 0)), (0, .ref x0)] []) : ∀ (m k : Nat), k + m = gOd_n (gTr_bu T) → zJ E 12 1 6 (([LA cy q 6 f] : List va_W) ++ LB cy x0 x1 x2 d0 d1 p0 p1 h0 h1 a b hs sl T U x z y s).flatten 33 [(10, .int (jI (k : Int))), (9, .int (jI 0)), (7, .long (jL 0)), (6, .ref q), (5, .int (jI (dI T))), (3, .long (jL 0)), (1, .long (jL 0)), (0, .ref x0)] [] := by
  have rdI := (GI_r hG).2.2.2.2.2.2.2.2.1
  have rnb := (GI_r hG).2.2.2.2.2.2.2.2.2.1
  have rnl := (GI_r hG).2.2.2.2.2.2.2.2.2.2.1
  intro m
  induction m with
  | zero =>
    intro k hk
    have ek : k = gOd_n (gTr_bu T) := by omega
    subst ek
    refine zj_iload C dL_sound_33 0 rfl ?_
    refine zj_aload_n C dL_sound_35 7 rfl ?_
    refine ij_bipush C dL_sound_36 (by decide) ?_
    refine zj_iload C dL_sound_38 1 rfl ?_
    refine ij_iadd C dL_sound_40 ?_
    refine ij_ei 9 rfl ?_
    refine lc_count C ⟨Nat.le_of_ble_eq_true rfl, Nat.le_of_ble_eq_true rfl⟩ ⟨Nat.le_of_ble_eq_true rfl, Nat.le_of_ble_eq_true rfl⟩ hO ([LA cy q 6 f] : List va_W) (jI 9) (Nat.le_of_ble_eq_true rfl) dL_sound_41 (vc_9 hG z y) ?_
    refine ij_icmp_ge C 164 dL_sound_44 (by decide) ⟨by omega, by omega⟩ ⟨by omega, by omega⟩ (fun _ => ?_) (fun h => False.elim (by omega))
    exact kk
  | succ m ih =>
    intro k hk
    have hkn : k < gOd_n (gTr_bu T) := by omega
    obtain ⟨⟨ra, rb⟩, ⟨rc, rd⟩, re, rf⟩ := GI_ob hG hkn
    have rn := GI_n hG hkn
    refine zj_iload C dL_sound_33 0 rfl ?_
    refine zj_aload_n C dL_sound_35 7 rfl ?_
    refine ij_bipush C dL_sound_36 (by decide) ?_
    refine zj_iload C dL_sound_38 1 rfl ?_
    refine ij_iadd C dL_sound_40 ?_
    refine ij_ei 9 rfl ?_
    refine lc_count C ⟨Nat.le_of_ble_eq_true rfl, Nat.le_of_ble_eq_true rfl⟩ ⟨Nat.le_of_ble_eq_true rfl, Nat.le_of_ble_eq_true rfl⟩ hO ([LA cy q 6 f] : List va_W) (jI 9) (Nat.le_of_ble_eq_true rfl) dL_sound_41 (vc_9 hG z y) ?_
    refine ij_icmp_ge C 164 dL_sound_44 (by decide) ⟨by omega, by omega⟩ ⟨by omega, by omega⟩ (fun h => False.elim (by omega)) (fun _ => ?_)
    refine zj_aload_n C dL_sound_47 7 rfl ?_
    refine zj_iload C dL_sound_48 1 rfl ?_
    refine zj_iload C dL_sound_50 0 rfl ?_
    refine ij_iconst C dL_sound_52 ?_
    refine lc_order C ⟨Nat.le_of_ble_eq_true rfl, Nat.le_of_ble_eq_true rfl⟩ ⟨Nat.le_of_ble_eq_true rfl, Nat.le_of_ble_eq_true rfl⟩ hO ([LA cy q 6 f] : List va_W) (jI 0) (jI (k : Int)) (jI 2) (Nat.le_of_ble_eq_true rfl) dL_sound_53 (vo_02 hG hkn) ?_
    refine zj_istore C (L' := [(11, .int (jI (oD (gTr_bu T) k))), (10, .int (jI (k : Int))), (9, .int (jI 0)), (7, .long (jL 0)), (6, .ref q), (5, .int (jI (dI T))), (3, .long (jL 0)), (1, .long (jL 0)), (0, .ref x0)]) dL_sound_56 (by decide) rfl ?_
    refine zj_iload C dL_sound_58 0 rfl ?_
    refine zj_iload C dL_sound_60 5 rfl ?_
    refine ij_iconst C dL_sound_62 ?_
    refine ij_iadd C dL_sound_63 ?_
    refine ij_icmp_gt C 113 dL_sound_64 (by decide) ⟨by omega, by omega⟩ ⟨by omega, by omega⟩ (fun h => False.elim (by omega)) (fun _ => ?_)
    refine zj_iload C dL_sound_67 2 rfl ?_
    refine ij_if_ne C 79 dL_sound_69 (by decide) ⟨by decide, by decide⟩ (fun h => False.elim (by omega)) (fun _ => ?_)
    refine zj_iload C dL_sound_72 0 rfl ?_
    refine zj_iload C dL_sound_74 5 rfl ?_
    refine ij_icmp_lt C 113 dL_sound_76 (by decide) ⟨by omega, by omega⟩ ⟨by omega, by omega⟩ (fun h => False.elim (by omega)) (fun _ => ?_)
    refine zj_aload_n C dL_sound_79 8 rfl ?_
    refine zj_iload C dL_sound_80 2 rfl ?_
    refine zj_iload C dL_sound_82 1 rfl ?_
    refine ij_iconst C dL_sound_84 ?_
    refine lc_order C ⟨Nat.le_of_ble_eq_true rfl, Nat.le_of_ble_eq_true rfl⟩ ⟨Nat.le_of_ble_eq_true rfl, Nat.le_of_ble_eq_true rfl⟩ hO ([LA cy q 6 f] : List va_W) (jI 0) (jI (k : Int)) (jI 1) (Nat.le_of_ble_eq_true rfl) dL_sound_85 (vo_01 hG hkn) ?_
    refine ij_iconst C dL_sound_88 ?_
    refine ij_icmp_lt C 113 dL_sound_89 (by decide) ⟨by omega, by omega⟩ ⟨by decide, by decide⟩ (fun h => False.elim (by omega)) (fun _ => ?_)
    refine zj_iload C dL_sound_92 1 rfl ?_
    have J : zJ E 12 1 6 (([LA cy q 6 f] : List va_W) ++ LB cy x0 x1 x2 d0 d1 p0 p1 h0 h1 a b hs sl T U x z y s).flatten 115 [(11, .int (jI (oD (gTr_bu T) k))), (10, .int (jI (k : Int))), (9, .int (jI 0)), (7, .long (jL 0)), (6, .ref q), (5, .int (jI (dI T))), (3, .long (jL 0)), (1, .long (jL 0)), (0, .ref x0)] [] := by
      refine zj_iload C dL_sound_115 2 rfl ?_
      refine ij_iconst C dL_sound_117 ?_
      refine ij_icmp_ne C 158 dL_sound_118 (by decide) ⟨by decide, by decide⟩ ⟨by decide, by decide⟩ (fun _ => ?_) (fun h => False.elim (by omega))
      refine ij_iinc C (j := 1) (L2 := [(10, .int (jI ((k + 1 : Nat) : Int))), (11, .int (jI (oD (gTr_bu T) k))), (9, .int (jI 0)), (7, .long (jL 0)), (6, .ref q), (5, .int (jI (dI T))), (3, .long (jL 0)), (1, .long (jL 0)), (0, .ref x0)]) ((k + 1 : Nat) : Int) (by omega) dL_sound_158 rfl (by decide) rfl ?_
      refine zj_goto C 33 dL_sound_161 (by decide) ?_
      refine zj_sub (L' := [(10, .int (jI ((k + 1 : Nat) : Int))), (9, .int (jI 0)), (7, .long (jL 0)), (6, .ref q), (5, .int (jI (dI T))), (3, .long (jL 0)), (1, .long (jL 0)), (0, .ref x0)]) [0, 2, 3, 4, 5, 6, 7, 8] rfl ?_
      exact ih (k + 1) (by omega)
    refine ij_if_le C 115 dL_sound_94 (by decide) ⟨by omega, by omega⟩ (fun hb => ?_) (fun hb => ?_)
    · skip
      exact J
    · skip
      have so := GI_ob2 hG (show k - 1 ≤ k by omega) hkn
      refine zj_aload_n C dL_sound_97 8 rfl ?_
      refine zj_iload C dL_sound_98 2 rfl ?_
      refine zj_iload C dL_sound_100 1 rfl ?_
      refine ij_iconst C dL_sound_102 ?_
      refine ij_isub C dL_sound_103 ?_
      refine ij_ei ((k - 1 : Nat) : Int) (by omega) ?_
      refine ij_iconst C dL_sound_104 ?_
      refine lc_order C ⟨Nat.le_of_ble_eq_true rfl, Nat.le_of_ble_eq_true rfl⟩ ⟨Nat.le_of_ble_eq_true rfl, Nat.le_of_ble_eq_true rfl⟩ hO ([LA cy q 6 f] : List va_W) (jI 0) (jI ((k - 1 : Nat) : Int)) (jI 2) (Nat.le_of_ble_eq_true rfl) dL_sound_105 (vo_02 hG (by omega)) ?_
      refine zj_iload C dL_sound_108 0 rfl ?_
      have re2 := i32_ge (a := gOd_dy (gTr_bu T) (k - 1))
      refine ij_icmp_le C 115 dL_sound_110 (by decide) ⟨by unfold oD; omega, by omega⟩ ⟨by omega, by omega⟩ (fun _ => ?_) (fun h => False.elim (by omega))
      exact J
set_option maxHeartbeats 4000000 in
set_option maxRecDepth 100000 in
theorem sound_k1 (C : zO E cL_sound 12 "SwingUnitsLaw" rm_sound cy l D) (hG : GI Dd c T) (hO : LO T z y s) {q : Nat} (kk : ∀ f : Nat → Int, (∀ h, h < 6 → f h = hSk (gTr_le T) h (gOd_n (gTr_le T))) → zJ E 12 1 6 (([LA cy q 6 f] : List va_W) ++ LB cy x0 x1 x2 d0 d1 p0 p1 h0 h1 a b hs sl T U x z y s).flatten 164 [(10, .int (jI (gOd_n (gTr_le T) : Int))), (9, .int (jI 1)), (7, .long (jL (wSk (gTr_le T) (gOd_n (gTr_le T))))), (6, .ref q), (5, .int (jI (dI T))), (3, .long (jL 0)), (1, .long (jL 0)), (0, .ref x0)] []) : ∀ (m k : Nat) (f : Nat → Int), k + m = gOd_n (gTr_le T) → (∀ h, h < 6 → f h = hSk (gTr_le T) h k) → zJ E 12 1 6 (([LA cy q 6 f] : List va_W) ++ LB cy x0 x1 x2 d0 d1 p0 p1 h0 h1 a b hs sl T U x z y s).flatten 33 [(10, .int (jI (k : Int))), (9, .int (jI 1)), (7, .long (jL (wSk (gTr_le T) k))), (6, .ref q), (5, .int (jI (dI T))), (3, .long (jL 0)), (1, .long (jL 0)), (0, .ref x0)] [] := by
  have rdI := (GI_r hG).2.2.2.2.2.2.2.2.1
  have rnb := (GI_r hG).2.2.2.2.2.2.2.2.2.1
  have rnl := (GI_r hG).2.2.2.2.2.2.2.2.2.2.1
  intro m
  induction m with
  | zero =>
    intro k f hk hf
    have ek : k = gOd_n (gTr_le T) := by omega
    subst ek
    refine zj_iload C dL_sound_33 0 rfl ?_
    refine zj_aload_n C dL_sound_35 7 rfl ?_
    refine ij_bipush C dL_sound_36 (by decide) ?_
    refine zj_iload C dL_sound_38 1 rfl ?_
    refine ij_iadd C dL_sound_40 ?_
    refine ij_ei 10 rfl ?_
    refine lc_count C ⟨Nat.le_of_ble_eq_true rfl, Nat.le_of_ble_eq_true rfl⟩ ⟨Nat.le_of_ble_eq_true rfl, Nat.le_of_ble_eq_true rfl⟩ hO ([LA cy q 6 f] : List va_W) (jI 10) (Nat.le_of_ble_eq_true rfl) dL_sound_41 (vc_10 hG z y) ?_
    refine ij_icmp_ge C 164 dL_sound_44 (by decide) ⟨by omega, by omega⟩ ⟨by omega, by omega⟩ (fun _ => ?_) (fun h => False.elim (by omega))
    exact kk f hf
  | succ m ih =>
    intro k f hk hf
    have hkn : k < gOd_n (gTr_le T) := by omega
    obtain ⟨⟨ra, rb⟩, ⟨rc, rd⟩, re, rf⟩ := GI_ol hG hkn
    refine zj_iload C dL_sound_33 0 rfl ?_
    refine zj_aload_n C dL_sound_35 7 rfl ?_
    refine ij_bipush C dL_sound_36 (by decide) ?_
    refine zj_iload C dL_sound_38 1 rfl ?_
    refine ij_iadd C dL_sound_40 ?_
    refine ij_ei 10 rfl ?_
    refine lc_count C ⟨Nat.le_of_ble_eq_true rfl, Nat.le_of_ble_eq_true rfl⟩ ⟨Nat.le_of_ble_eq_true rfl, Nat.le_of_ble_eq_true rfl⟩ hO ([LA cy q 6 f] : List va_W) (jI 10) (Nat.le_of_ble_eq_true rfl) dL_sound_41 (vc_10 hG z y) ?_
    refine ij_icmp_ge C 164 dL_sound_44 (by decide) ⟨by omega, by omega⟩ ⟨by omega, by omega⟩ (fun h => False.elim (by omega)) (fun _ => ?_)
    refine zj_aload_n C dL_sound_47 7 rfl ?_
    refine zj_iload C dL_sound_48 1 rfl ?_
    refine zj_iload C dL_sound_50 0 rfl ?_
    refine ij_iconst C dL_sound_52 ?_
    refine lc_order C ⟨Nat.le_of_ble_eq_true rfl, Nat.le_of_ble_eq_true rfl⟩ ⟨Nat.le_of_ble_eq_true rfl, Nat.le_of_ble_eq_true rfl⟩ hO ([LA cy q 6 f] : List va_W) (jI 1) (jI (k : Int)) (jI 2) (Nat.le_of_ble_eq_true rfl) dL_sound_53 (vo_12 hG hkn) ?_
    refine zj_istore C (L' := [(11, .int (jI (oD (gTr_le T) k))), (10, .int (jI (k : Int))), (9, .int (jI 1)), (7, .long (jL (wSk (gTr_le T) k))), (6, .ref q), (5, .int (jI (dI T))), (3, .long (jL 0)), (1, .long (jL 0)), (0, .ref x0)]) dL_sound_56 (by decide) rfl ?_
    refine zj_iload C dL_sound_58 0 rfl ?_
    refine zj_iload C dL_sound_60 5 rfl ?_
    refine ij_iconst C dL_sound_62 ?_
    refine ij_iadd C dL_sound_63 ?_
    refine ij_icmp_gt C 113 dL_sound_64 (by decide) ⟨by omega, by omega⟩ ⟨by omega, by omega⟩ (fun h => False.elim (by omega)) (fun _ => ?_)
    refine zj_iload C dL_sound_67 2 rfl ?_
    refine ij_if_ne C 79 dL_sound_69 (by decide) ⟨by decide, by decide⟩ (fun _ => ?_) (fun h => False.elim (by omega))
    refine zj_aload_n C dL_sound_79 8 rfl ?_
    refine zj_iload C dL_sound_80 2 rfl ?_
    refine zj_iload C dL_sound_82 1 rfl ?_
    refine ij_iconst C dL_sound_84 ?_
    refine lc_order C ⟨Nat.le_of_ble_eq_true rfl, Nat.le_of_ble_eq_true rfl⟩ ⟨Nat.le_of_ble_eq_true rfl, Nat.le_of_ble_eq_true rfl⟩ hO ([LA cy q 6 f] : List va_W) (jI 1) (jI (k : Int)) (jI 1) (Nat.le_of_ble_eq_true rfl) dL_sound_85 (vo_11 hG hkn) ?_
    refine ij_iconst C dL_sound_88 ?_
    refine ij_icmp_lt C 113 dL_sound_89 (by decide) ⟨by omega, by omega⟩ ⟨by decide, by decide⟩ (fun h => False.elim (by omega)) (fun _ => ?_)
    refine zj_iload C dL_sound_92 1 rfl ?_
    have J : zJ E 12 1 6 (([LA cy q 6 f] : List va_W) ++ LB cy x0 x1 x2 d0 d1 p0 p1 h0 h1 a b hs sl T U x z y s).flatten 115 [(11, .int (jI (oD (gTr_le T) k))), (10, .int (jI (k : Int))), (9, .int (jI 1)), (7, .long (jL (wSk (gTr_le T) k))), (6, .ref q), (5, .int (jI (dI T))), (3, .long (jL 0)), (1, .long (jL 0)), (0, .ref x0)] [] := by
      have rw1 := wSk_r hG (k := k) (by omega)
      have rw2 := wSk_r hG (k := k + 1) (by omega)
      refine zj_iload C dL_sound_115 2 rfl ?_
      refine ij_iconst C dL_sound_117 ?_
      refine ij_icmp_ne C 158 dL_sound_118 (by decide) ⟨by decide, by decide⟩ ⟨by decide, by decide⟩ (fun h => False.elim (by omega)) (fun _ => ?_)
      refine zj_aload C dL_sound_121 4 rfl ?_
      refine zj_aload_n C dL_sound_123 8 rfl ?_
      refine ij_iconst C dL_sound_124 ?_
      refine zj_iload C dL_sound_125 1 rfl ?_
      refine ij_iconst C dL_sound_127 ?_
      refine lc_order C ⟨Nat.le_of_ble_eq_true rfl, Nat.le_of_ble_eq_true rfl⟩ ⟨Nat.le_of_ble_eq_true rfl, Nat.le_of_ble_eq_true rfl⟩ hO ([LA cy q 6 f] : List va_W) (jI 1) (jI (k : Int)) (jI 0) (Nat.le_of_ble_eq_true rfl) dL_sound_128 (vo_10 hG hkn) ?_
      refine zj_dup2 C dL_sound_131 rfl rfl ?_
      refine ij_laload C 0 (f := f) ((oH (gTr_le T) k).toNat) (by omega) (by omega) (by decide) rfl dL_sound_132 ?_
      refine zj_aload_n C dL_sound_133 8 rfl ?_
      refine ij_iconst C dL_sound_134 ?_
      refine zj_iload C dL_sound_135 1 rfl ?_
      refine ij_iconst C dL_sound_137 ?_
      refine lc_order C ⟨Nat.le_of_ble_eq_true rfl, Nat.le_of_ble_eq_true rfl⟩ ⟨Nat.le_of_ble_eq_true rfl, Nat.le_of_ble_eq_true rfl⟩ hO ([LA cy q 6 f] : List va_W) (jI 1) (jI (k : Int)) (jI 1) (Nat.le_of_ble_eq_true rfl) dL_sound_138 (vo_11 hG hkn) ?_
      refine ij_i2l C ⟨by omega, by omega⟩ dL_sound_141 ?_
      refine ij_ladd C dL_sound_142 ?_
      refine ij_lastore C 0 (f := f) (ws' := (([LA cy q 6 (iup f ((oH (gTr_le T) k).toNat) ((f ((oH (gTr_le T) k).toNat)) + (oS (gTr_le T) k)))] : List va_W) ++ LB cy x0 x1 x2 d0 d1 p0 p1 h0 h1 a b hs sl T U x z y s).flatten) ((oH (gTr_le T) k).toNat) (by omega) (by omega) (by decide) rfl dL_sound_143 rfl ?_
      refine zj_lload C dL_sound_144 3 rfl ?_
      refine zj_aload_n C dL_sound_146 8 rfl ?_
      refine ij_iconst C dL_sound_147 ?_
      refine zj_iload C dL_sound_148 1 rfl ?_
      refine ij_iconst C dL_sound_150 ?_
      refine lc_order C ⟨Nat.le_of_ble_eq_true rfl, Nat.le_of_ble_eq_true rfl⟩ ⟨Nat.le_of_ble_eq_true rfl, Nat.le_of_ble_eq_true rfl⟩ hO ([LA cy q 6 (iup f ((oH (gTr_le T) k).toNat) ((f ((oH (gTr_le T) k).toNat)) + (oS (gTr_le T) k)))] : List va_W) (jI 1) (jI (k : Int)) (jI 1) (Nat.le_of_ble_eq_true rfl) dL_sound_151 (vo_11 hG hkn) ?_
      refine ij_i2l C ⟨by omega, by omega⟩ dL_sound_154 ?_
      refine ij_ladd C dL_sound_155 ?_
      refine ij_el (wSk (gTr_le T) (k + 1)) (wSk_s _ _).symm ?_
      refine zj_lstore C (L' := [(7, .long (jL (wSk (gTr_le T) (k + 1)))), (11, .int (jI (oD (gTr_le T) k))), (10, .int (jI (k : Int))), (9, .int (jI 1)), (6, .ref q), (5, .int (jI (dI T))), (3, .long (jL 0)), (1, .long (jL 0)), (0, .ref x0)]) dL_sound_156 (by decide) rfl ?_
      refine ij_iinc C (j := 2) (L2 := [(10, .int (jI ((k + 1 : Nat) : Int))), (7, .long (jL (wSk (gTr_le T) (k + 1)))), (11, .int (jI (oD (gTr_le T) k))), (9, .int (jI 1)), (6, .ref q), (5, .int (jI (dI T))), (3, .long (jL 0)), (1, .long (jL 0)), (0, .ref x0)]) ((k + 1 : Nat) : Int) (by omega) dL_sound_158 rfl (by decide) rfl ?_
      refine zj_goto C 33 dL_sound_161 (by decide) ?_
      refine zj_sub (L' := [(10, .int (jI ((k + 1 : Nat) : Int))), (9, .int (jI 1)), (7, .long (jL (wSk (gTr_le T) (k + 1)))), (6, .ref q), (5, .int (jI (dI T))), (3, .long (jL 0)), (1, .long (jL 0)), (0, .ref x0)]) [0, 3, 1, 4, 5, 6, 7, 8] rfl ?_
      refine ih (k + 1) _ (by omega) (fun h hh => ?_)
      rw [← hSk_t hG hkn h hh]
      unfold iup
      rw [hf h hh, hf _ (by omega)]
    refine ij_if_le C 115 dL_sound_94 (by decide) ⟨by omega, by omega⟩ (fun hb => ?_) (fun hb => ?_)
    · skip
      exact J
    · skip
      have so := GI_ol2 hG (show k - 1 ≤ k by omega) hkn
      refine zj_aload_n C dL_sound_97 8 rfl ?_
      refine zj_iload C dL_sound_98 2 rfl ?_
      refine zj_iload C dL_sound_100 1 rfl ?_
      refine ij_iconst C dL_sound_102 ?_
      refine ij_isub C dL_sound_103 ?_
      refine ij_ei ((k - 1 : Nat) : Int) (by omega) ?_
      refine ij_iconst C dL_sound_104 ?_
      refine lc_order C ⟨Nat.le_of_ble_eq_true rfl, Nat.le_of_ble_eq_true rfl⟩ ⟨Nat.le_of_ble_eq_true rfl, Nat.le_of_ble_eq_true rfl⟩ hO ([LA cy q 6 f] : List va_W) (jI 1) (jI ((k - 1 : Nat) : Int)) (jI 2) (Nat.le_of_ble_eq_true rfl) dL_sound_105 (vo_12 hG (by omega)) ?_
      refine zj_iload C dL_sound_108 0 rfl ?_
      have re2 := i32_ge (a := gOd_dy (gTr_le T) (k - 1))
      refine ij_icmp_le C 115 dL_sound_110 (by decide) ⟨by unfold oD; omega, by omega⟩ ⟨by omega, by omega⟩ (fun _ => ?_) (fun h => False.elim (by omega))
      exact J
set_option maxHeartbeats 4000000 in
set_option maxRecDepth 100000 in
theorem sound_h (C : zO E cL_sound 12 "SwingUnitsLaw" rm_sound cy l D) (hG : GI Dd c T) (hO : LO T z y s) {q : Nat} (f : Nat → Int) (hf : ∀ h, h < 6 → f h = hS (gTr_le T) h) (kk : zJ E 12 1 6 (([LA cy q 6 f] : List va_W) ++ LB cy x0 x1 x2 d0 d1 p0 p1 h0 h1 a b hs sl T U x z y s).flatten 308 [(9, .int (jI (6 : Int))), (7, .long (jL (sS (gTr_le T) 0 (gOd_n (gTr_le T))))), (6, .ref q), (5, .int (jI (dI T))), (3, .long (jL (uNew T))), (1, .long (jL (uAll T))), (0, .ref x0)] []) : ∀ m i : Nat, i + m = 6 → zJ E 12 1 6 (([LA cy q 6 f] : List va_W) ++ LB cy x0 x1 x2 d0 d1 p0 p1 h0 h1 a b hs sl T U x z y s).flatten 173 [(9, .int (jI (i : Int))), (7, .long (jL (sS (gTr_le T) 0 (gOd_n (gTr_le T))))), (6, .ref q), (5, .int (jI (dI T))), (3, .long (jL (isum (uN T) i))), (1, .long (jL (isum (uU T) i))), (0, .ref x0)] [] := by
  intro m
  induction m with
  | zero =>
    intro i hi
    have ei : i = 6 := by omega
    subst ei
    refine zj_iload C dL_sound_173 0 rfl ?_
    refine ij_bipush C dL_sound_175 (by decide) ?_
    refine ij_icmp_ge C 308 dL_sound_177 (by decide) ⟨by omega, by omega⟩ ⟨by decide, by decide⟩ (fun _ => ?_) (fun h => False.elim (by omega))
    exact kk
  | succ m ih =>
    intro i hi
    have h6 : i < 6 := by omega
    obtain ⟨⟨u1, u2, u3, u4, u5⟩, ⟨v1, v2⟩, -, -, ⟨n1, n2⟩, ⟨e1, e2⟩, -⟩ := GI_h hG h6
    have ru := (GI_r hG).2.2.2.2.1
    have ef := hf i h6
    refine zj_iload C dL_sound_173 0 rfl ?_
    refine ij_bipush C dL_sound_175 (by decide) ?_
    refine ij_icmp_ge C 308 dL_sound_177 (by decide) ⟨by omega, by omega⟩ ⟨by decide, by decide⟩ (fun h => False.elim (by omega)) (fun _ => ?_)
    refine zj_aload_n C dL_sound_180 6 rfl ?_
    refine zj_iload C dL_sound_181 0 rfl ?_
    refine ij_iconst C dL_sound_183 ?_
    refine lc_ofHolder C ⟨Nat.le_of_ble_eq_true rfl, Nat.le_of_ble_eq_true rfl⟩ ⟨Nat.le_of_ble_eq_true rfl, Nat.le_of_ble_eq_true rfl⟩ hO ([LA cy q 6 f] : List va_W) (jI (i : Int)) (jI 0) (Nat.le_of_ble_eq_true rfl) dL_sound_184 (vh_0 hG h6) ?_
    refine zj_aload_n C dL_sound_187 6 rfl ?_
    refine zj_iload C dL_sound_188 0 rfl ?_
    refine ij_iconst C dL_sound_190 ?_
    refine lc_ofHolder C ⟨Nat.le_of_ble_eq_true rfl, Nat.le_of_ble_eq_true rfl⟩ ⟨Nat.le_of_ble_eq_true rfl, Nat.le_of_ble_eq_true rfl⟩ hO ([LA cy q 6 f] : List va_W) (jI (i : Int)) (jI 1) (Nat.le_of_ble_eq_true rfl) dL_sound_191 (vh_1 hG h6) ?_
    refine zj_aload_n C dL_sound_194 6 rfl ?_
    refine zj_iload C dL_sound_195 0 rfl ?_
    refine ij_iconst C dL_sound_197 ?_
    refine lc_ofHolder C ⟨Nat.le_of_ble_eq_true rfl, Nat.le_of_ble_eq_true rfl⟩ ⟨Nat.le_of_ble_eq_true rfl, Nat.le_of_ble_eq_true rfl⟩ hO ([LA cy q 6 f] : List va_W) (jI (i : Int)) (jI 2) (Nat.le_of_ble_eq_true rfl) dL_sound_198 (vh_2 hG h6) ?_
    refine ij_iadd C dL_sound_201 ?_
    refine ij_icmp_ne C 278 dL_sound_202 (by decide) ⟨by omega, by omega⟩ ⟨by omega, by omega⟩ (fun h => False.elim (by omega)) (fun _ => ?_)
    refine zj_aload_n C dL_sound_205 6 rfl ?_
    refine zj_iload C dL_sound_206 0 rfl ?_
    refine ij_iconst C dL_sound_208 ?_
    refine lc_ofHolder C ⟨Nat.le_of_ble_eq_true rfl, Nat.le_of_ble_eq_true rfl⟩ ⟨Nat.le_of_ble_eq_true rfl, Nat.le_of_ble_eq_true rfl⟩ hO ([LA cy q 6 f] : List va_W) (jI (i : Int)) (jI 1) (Nat.le_of_ble_eq_true rfl) dL_sound_209 (vh_1 hG h6) ?_
    refine ij_if_lt C 278 dL_sound_212 (by decide) ⟨by omega, by omega⟩ (fun h => False.elim (by omega)) (fun _ => ?_)
    refine zj_aload_n C dL_sound_215 6 rfl ?_
    refine zj_iload C dL_sound_216 0 rfl ?_
    refine ij_iconst C dL_sound_218 ?_
    refine lc_ofHolder C ⟨Nat.le_of_ble_eq_true rfl, Nat.le_of_ble_eq_true rfl⟩ ⟨Nat.le_of_ble_eq_true rfl, Nat.le_of_ble_eq_true rfl⟩ hO ([LA cy q 6 f] : List va_W) (jI (i : Int)) (jI 2) (Nat.le_of_ble_eq_true rfl) dL_sound_219 (vh_2 hG h6) ?_
    refine ij_if_lt C 278 dL_sound_222 (by decide) ⟨by omega, by omega⟩ (fun h => False.elim (by omega)) (fun _ => ?_)
    refine zj_aload_n C dL_sound_225 6 rfl ?_
    refine zj_iload C dL_sound_226 0 rfl ?_
    refine ij_iconst C dL_sound_228 ?_
    refine lc_ofHolder C ⟨Nat.le_of_ble_eq_true rfl, Nat.le_of_ble_eq_true rfl⟩ ⟨Nat.le_of_ble_eq_true rfl, Nat.le_of_ble_eq_true rfl⟩ hO ([LA cy q 6 f] : List va_W) (jI (i : Int)) (jI 3) (Nat.le_of_ble_eq_true rfl) dL_sound_229 (vh_3 hG h6) ?_
    refine ij_i2l C ⟨by omega, by omega⟩ dL_sound_232 ?_
    refine zj_aload C dL_sound_233 2 rfl ?_
    refine zj_iload C dL_sound_235 0 rfl ?_
    refine ij_laload C 0 (f := f) i rfl (by omega) (by decide) rfl dL_sound_237 ?_
    refine ij_lcmp_ne C 278 dL_sound_238 dL_sound_239 (by decide) ⟨by omega, by omega⟩ ⟨by omega, by omega⟩ (fun h => False.elim (by omega)) (fun _ => ?_)
    refine zj_aload C dL_sound_242 2 rfl ?_
    refine zj_iload C dL_sound_244 0 rfl ?_
    refine ij_laload C 0 (f := f) i rfl (by omega) (by decide) rfl dL_sound_246 ?_
    refine zj_aload_n C dL_sound_247 6 rfl ?_
    refine zj_iload C dL_sound_248 0 rfl ?_
    refine ij_iconst C dL_sound_250 ?_
    refine lc_ofHolder C ⟨Nat.le_of_ble_eq_true rfl, Nat.le_of_ble_eq_true rfl⟩ ⟨Nat.le_of_ble_eq_true rfl, Nat.le_of_ble_eq_true rfl⟩ hO ([LA cy q 6 f] : List va_W) (jI (i : Int)) (jI 0) (Nat.le_of_ble_eq_true rfl) dL_sound_251 (vh_0 hG h6) ?_
    refine ij_i2l C ⟨by omega, by omega⟩ dL_sound_254 ?_
    refine ij_lcmp_gt C 278 dL_sound_255 dL_sound_256 (by decide) ⟨by omega, by omega⟩ ⟨by omega, by omega⟩ (fun h => False.elim (by omega)) (fun _ => ?_)
    refine zj_aload_n C dL_sound_259 6 rfl ?_
    refine zj_iload C dL_sound_260 0 rfl ?_
    refine ij_bipush C dL_sound_262 (by decide) ?_
    refine lc_ofHolder C ⟨Nat.le_of_ble_eq_true rfl, Nat.le_of_ble_eq_true rfl⟩ ⟨Nat.le_of_ble_eq_true rfl, Nat.le_of_ble_eq_true rfl⟩ hO ([LA cy q 6 f] : List va_W) (jI (i : Int)) (jI 7) (Nat.le_of_ble_eq_true rfl) dL_sound_264 (vh_7 hG h6) ?_
    refine zj_aload_n C dL_sound_267 6 rfl ?_
    refine zj_iload C dL_sound_268 0 rfl ?_
    refine ij_bipush C dL_sound_270 (by decide) ?_
    refine lc_ofHolder C ⟨Nat.le_of_ble_eq_true rfl, Nat.le_of_ble_eq_true rfl⟩ ⟨Nat.le_of_ble_eq_true rfl, Nat.le_of_ble_eq_true rfl⟩ hO ([LA cy q 6 f] : List va_W) (jI (i : Int)) (jI 6) (Nat.le_of_ble_eq_true rfl) dL_sound_272 (vh_6 hG h6) ?_
    refine ij_icmp_le C 280 dL_sound_275 (by decide) ⟨by omega, by omega⟩ ⟨by omega, by omega⟩ (fun _ => ?_) (fun h => False.elim (by omega))
    refine zj_lload_n C dL_sound_280 5 rfl ?_
    refine zj_aload_n C dL_sound_281 6 rfl ?_
    refine zj_iload C dL_sound_282 0 rfl ?_
    refine ij_iconst C dL_sound_284 ?_
    refine lc_ofHolder C ⟨Nat.le_of_ble_eq_true rfl, Nat.le_of_ble_eq_true rfl⟩ ⟨Nat.le_of_ble_eq_true rfl, Nat.le_of_ble_eq_true rfl⟩ hO ([LA cy q 6 f] : List va_W) (jI (i : Int)) (jI 0) (Nat.le_of_ble_eq_true rfl) dL_sound_285 (vh_0 hG h6) ?_
    refine ij_i2l C ⟨by omega, by omega⟩ dL_sound_288 ?_
    refine ij_ladd C dL_sound_289 ?_
    refine ij_el (isum (uU T) (i + 1)) rfl ?_
    refine zj_lstore_n C (L' := [(1, .long (jL (isum (uU T) (i + 1)))), (9, .int (jI (i : Int))), (7, .long (jL (sS (gTr_le T) 0 (gOd_n (gTr_le T))))), (6, .ref q), (5, .int (jI (dI T))), (3, .long (jL (isum (uN T) i))), (0, .ref x0)]) dL_sound_290 rfl (by decide) rfl ?_
    refine zj_lload_n C dL_sound_291 5 rfl ?_
    refine zj_aload_n C dL_sound_292 6 rfl ?_
    refine zj_iload C dL_sound_293 1 rfl ?_
    refine ij_iconst C dL_sound_295 ?_
    refine lc_ofHolder C ⟨Nat.le_of_ble_eq_true rfl, Nat.le_of_ble_eq_true rfl⟩ ⟨Nat.le_of_ble_eq_true rfl, Nat.le_of_ble_eq_true rfl⟩ hO ([LA cy q 6 f] : List va_W) (jI (i : Int)) (jI 2) (Nat.le_of_ble_eq_true rfl) dL_sound_296 (vh_2 hG h6) ?_
    refine ij_i2l C ⟨by omega, by omega⟩ dL_sound_299 ?_
    refine ij_ladd C dL_sound_300 ?_
    refine ij_el (isum (uN T) (i + 1)) rfl ?_
    refine zj_lstore_n C (L' := [(3, .long (jL (isum (uN T) (i + 1)))), (1, .long (jL (isum (uU T) (i + 1)))), (9, .int (jI (i : Int))), (7, .long (jL (sS (gTr_le T) 0 (gOd_n (gTr_le T))))), (6, .ref q), (5, .int (jI (dI T))), (0, .ref x0)]) dL_sound_301 rfl (by decide) rfl ?_
    refine ij_iinc C (j := 2) (L2 := [(9, .int (jI ((i + 1 : Nat) : Int))), (3, .long (jL (isum (uN T) (i + 1)))), (1, .long (jL (isum (uU T) (i + 1)))), (7, .long (jL (sS (gTr_le T) 0 (gOd_n (gTr_le T))))), (6, .ref q), (5, .int (jI (dI T))), (0, .ref x0)]) ((i + 1 : Nat) : Int) (by omega) dL_sound_302 rfl (by decide) rfl ?_
    refine zj_goto C 173 dL_sound_305 (by decide) ?_
    refine zj_sub (L' := [(9, .int (jI ((i + 1 : Nat) : Int))), (7, .long (jL (sS (gTr_le T) 0 (gOd_n (gTr_le T))))), (6, .ref q), (5, .int (jI (dI T))), (3, .long (jL (isum (uN T) (i + 1)))), (1, .long (jL (isum (uU T) (i + 1)))), (0, .ref x0)]) [0, 3, 4, 5, 1, 2, 6] rfl ?_
    exact ih (i + 1) (by omega)
end SOUND
set_option maxHeartbeats 4000000 in
set_option maxRecDepth 100000 in
theorem c_L_sound (l : Launch) (D : va_G) (cy : Nat → ClassId) (x0 x1 x2 d0 d1 p0 p1 h0 h1 : Nat) (a b : Nat → Nat) (hs sl : Nat → Nat → Nat) (T U : zTr) (x : zDd) (z : zPd) (y : zHs) (s : zSl) {Dd c : Int} (hG : GI Dd c T) (hO : LO T z y s) : zM l yL_sound (zW yL_sound cL_sound 12 (Option.some Jvm.ClassFile.FieldType.boolean)) rm_sound D cy [.ref x0] (LB cy x0 x1 x2 d0 d1 p0 p1 h0 h1 a b hs sl T U x z y s).flatten (fun r w => r = some (.int (jI 1)) ∧ ∃ x', w = (LB cy x0 x1 x2 d0 d1 p0 p1 h0 h1 a b hs sl T U x' z y s).flatten) 1 6 := by
  refine zM_of rfl (Nat.le_of_ble_eq_true rfl) (fun E C hret => ?_)
  have C : zO E cL_sound 12 "SwingUnitsLaw" rm_sound cy l D := C
  obtain ⟨⟨rc1, rc2⟩, ⟨rl1, rl2⟩, ⟨rq1, rq2⟩, ⟨rv1, rv2, v3, rv4⟩, ⟨ru1, ru2⟩, ⟨rn1, rn2⟩, ⟨rp1, rp2⟩, ⟨re1, re2⟩, -, rnb, rnl, ⟨rw1, rw2⟩⟩ := GI_r hG
  show zJ E 12 0 0 (([] : List va_W) ++ LB cy x0 x1 x2 d0 d1 p0 p1 h0 h1 a b hs sl T U x z y s).flatten 0 [(0, .ref x0)] []
  refine zj_lconst C (v := jL 0) dL_sound_0 (by decide) ?_
  refine zj_lstore_n C (L' := [(1, .long (jL 0)), (0, .ref x0)]) dL_sound_1 rfl (by decide) rfl ?_
  refine zj_lconst C (v := jL 0) dL_sound_2 (by decide) ?_
  refine zj_lstore_n C (L' := [(3, .long (jL 0)), (1, .long (jL 0)), (0, .ref x0)]) dL_sound_3 rfl (by decide) rfl ?_
  refine zj_aload_n C dL_sound_4 2 rfl ?_
  refine ij_bipush C dL_sound_5 (by decide) ?_
  refine lc_count C ⟨Nat.le_of_ble_eq_true rfl, Nat.le_of_ble_eq_true rfl⟩ ⟨Nat.le_of_ble_eq_true rfl, Nat.le_of_ble_eq_true rfl⟩ hO ([] : List va_W) (jI 8) (Nat.le_of_ble_eq_true rfl) dL_sound_7 (vc_8 hG z y) ?_
  refine zj_istore C (L' := [(5, .int (jI (dI T))), (3, .long (jL 0)), (1, .long (jL 0)), (0, .ref x0)]) dL_sound_10 (by decide) rfl ?_
  refine ij_bipush C dL_sound_12 (by decide) ?_
  refine ij_newl C 6 rfl (by decide) ⟨Nat.le_of_ble_eq_true rfl, Nat.le_of_ble_eq_true rfl⟩ dL_sound_14 (fun q => ?_)
  show zJ E 12 1 6 (([LA cy q 6 (fun _ => 0)] : List va_W) ++ LB cy x0 x1 x2 d0 d1 p0 p1 h0 h1 a b hs sl T U x z y s).flatten 16 [(5, .int (jI (dI T))), (3, .long (jL 0)), (1, .long (jL 0)), (0, .ref x0)] [.ref q]
  refine zj_astore C (L' := [(6, .ref q), (5, .int (jI (dI T))), (3, .long (jL 0)), (1, .long (jL 0)), (0, .ref x0)]) dL_sound_16 (by decide) rfl ?_
  refine zj_lconst C (v := jL 0) dL_sound_18 (by decide) ?_
  refine zj_lstore C (L' := [(7, .long (jL 0)), (6, .ref q), (5, .int (jI (dI T))), (3, .long (jL 0)), (1, .long (jL 0)), (0, .ref x0)]) dL_sound_19 (by decide) rfl ?_
  refine ij_iconst C dL_sound_21 ?_
  refine zj_istore C (L' := [(9, .int (jI 0)), (7, .long (jL 0)), (6, .ref q), (5, .int (jI (dI T))), (3, .long (jL 0)), (1, .long (jL 0)), (0, .ref x0)]) dL_sound_22 (by decide) rfl ?_
  refine zj_iload C dL_sound_24 0 rfl ?_
  refine ij_iconst C dL_sound_26 ?_
  refine ij_icmp_ge C 170 dL_sound_27 (by decide) ⟨by decide, by decide⟩ ⟨by decide, by decide⟩ (fun h => False.elim (by omega)) (fun _ => ?_)
  refine ij_iconst C dL_sound_30 ?_
  refine zj_istore C (L' := [(10, .int (jI 0)), (9, .int (jI 0)), (7, .long (jL 0)), (6, .ref q), (5, .int (jI (dI T))), (3, .long (jL 0)), (1, .long (jL 0)), (0, .ref x0)]) dL_sound_31 (by decide) rfl ?_
  refine zj_sub (L' := [(10, .int (jI 0)), (9, .int (jI 0)), (7, .long (jL 0)), (6, .ref q), (5, .int (jI (dI T))), (3, .long (jL 0)), (1, .long (jL 0)), (0, .ref x0)]) [0, 1, 2, 3, 4, 5, 6, 7] rfl ?_
  show zJ E 12 1 6 (([LA cy q 6 (fun _ => 0)] : List va_W) ++ LB cy x0 x1 x2 d0 d1 p0 p1 h0 h1 a b hs sl T U x z y s).flatten 33 [(10, .int (jI ((0 : Nat) : Int))), (9, .int (jI 0)), (7, .long (jL 0)), (6, .ref q), (5, .int (jI (dI T))), (3, .long (jL 0)), (1, .long (jL 0)), (0, .ref x0)] []
  refine sound_k0 C hG hO _ ?_ (gOd_n (gTr_bu T)) 0 (by omega)
  refine ij_iinc C (j := 1) (L2 := [(9, .int (jI 1)), (10, .int (jI (gOd_n (gTr_bu T) : Int))), (7, .long (jL 0)), (6, .ref q), (5, .int (jI (dI T))), (3, .long (jL 0)), (1, .long (jL 0)), (0, .ref x0)]) 1 rfl dL_sound_164 rfl (by decide) rfl ?_
  refine zj_goto C 24 dL_sound_167 (by decide) ?_
  refine zj_iload C dL_sound_24 0 rfl ?_
  refine ij_iconst C dL_sound_26 ?_
  refine ij_icmp_ge C 170 dL_sound_27 (by decide) ⟨by decide, by decide⟩ ⟨by decide, by decide⟩ (fun h => False.elim (by omega)) (fun _ => ?_)
  refine ij_iconst C dL_sound_30 ?_
  refine zj_istore C (L' := [(10, .int (jI 0)), (9, .int (jI 1)), (7, .long (jL 0)), (6, .ref q), (5, .int (jI (dI T))), (3, .long (jL 0)), (1, .long (jL 0)), (0, .ref x0)]) dL_sound_31 (by decide) rfl ?_
  refine zj_sub (L' := [(10, .int (jI 0)), (9, .int (jI 1)), (7, .long (jL 0)), (6, .ref q), (5, .int (jI (dI T))), (3, .long (jL 0)), (1, .long (jL 0)), (0, .ref x0)]) [0, 1, 2, 3, 4, 5, 6, 7] rfl ?_
  show zJ E 12 1 6 (([LA cy q 6 (fun _ => 0)] : List va_W) ++ LB cy x0 x1 x2 d0 d1 p0 p1 h0 h1 a b hs sl T U x z y s).flatten 33 [(10, .int (jI ((0 : Nat) : Int))), (9, .int (jI 1)), (7, .long (jL (wSk (gTr_le T) 0))), (6, .ref q), (5, .int (jI (dI T))), (3, .long (jL 0)), (1, .long (jL 0)), (0, .ref x0)] []
  refine sound_k1 C hG hO (fun f hf => ?_) (gOd_n (gTr_le T)) 0 (fun _ => 0) (by omega) (fun _ _ => rfl)
  refine ij_iinc C (j := 1) (L2 := [(9, .int (jI 2)), (10, .int (jI (gOd_n (gTr_le T) : Int))), (7, .long (jL (wSk (gTr_le T) (gOd_n (gTr_le T))))), (6, .ref q), (5, .int (jI (dI T))), (3, .long (jL 0)), (1, .long (jL 0)), (0, .ref x0)]) 2 rfl dL_sound_164 rfl (by decide) rfl ?_
  refine zj_goto C 24 dL_sound_167 (by decide) ?_
  refine zj_iload C dL_sound_24 0 rfl ?_
  refine ij_iconst C dL_sound_26 ?_
  refine ij_icmp_ge C 170 dL_sound_27 (by decide) ⟨by decide, by decide⟩ ⟨by decide, by decide⟩ (fun _ => ?_) (fun h => False.elim (by omega))
  refine ij_iconst C dL_sound_170 ?_
  refine zj_istore C (L' := [(9, .int (jI 0)), (10, .int (jI (gOd_n (gTr_le T) : Int))), (7, .long (jL (wSk (gTr_le T) (gOd_n (gTr_le T))))), (6, .ref q), (5, .int (jI (dI T))), (3, .long (jL 0)), (1, .long (jL 0)), (0, .ref x0)]) dL_sound_171 (by decide) rfl ?_
  refine zj_sub (L' := [(9, .int (jI 0)), (7, .long (jL (wSk (gTr_le T) (gOd_n (gTr_le T))))), (6, .ref q), (5, .int (jI (dI T))), (3, .long (jL 0)), (1, .long (jL 0)), (0, .ref x0)]) [0, 2, 3, 4, 5, 6, 7] rfl ?_
  show zJ E 12 1 6 (([LA cy q 6 f] : List va_W) ++ LB cy x0 x1 x2 d0 d1 p0 p1 h0 h1 a b hs sl T U x z y s).flatten 173 [(9, .int (jI ((0 : Nat) : Int))), (7, .long (jL (sS (gTr_le T) 0 (gOd_n (gTr_le T))))), (6, .ref q), (5, .int (jI (dI T))), (3, .long (jL (isum (uN T) 0))), (1, .long (jL (isum (uU T) 0))), (0, .ref x0)] []
  refine sound_h C hG hO f hf ?_ 6 0 (by omega)
  obtain ⟨bm1, bm2, bi1, bm3, bi2⟩ := mI_bd hG.1.1
  have bi3 : iI T ≤ 10010000000000 := by
    by_cases hu : 0 < uAll T
    · have := (bm3 hu).2; omega
    · have := bi2 (by omega); omega
  refine zj_aload_n C dL_sound_308 6 rfl ?_
  refine ij_iconst C dL_sound_309 ?_
  refine lc_count C ⟨Nat.le_of_ble_eq_true rfl, Nat.le_of_ble_eq_true rfl⟩ ⟨Nat.le_of_ble_eq_true rfl, Nat.le_of_ble_eq_true rfl⟩ hO ([LA cy q 6 f] : List va_W) (jI 0) (Nat.le_of_ble_eq_true rfl) dL_sound_310 (vc_0 hG z y) ?_
  refine ij_i2l C ⟨by omega, by omega⟩ dL_sound_313 ?_
  refine zj_aload_n C dL_sound_314 6 rfl ?_
  refine ij_iconst C dL_sound_315 ?_
  refine lc_count C ⟨Nat.le_of_ble_eq_true rfl, Nat.le_of_ble_eq_true rfl⟩ ⟨Nat.le_of_ble_eq_true rfl, Nat.le_of_ble_eq_true rfl⟩ hO ([LA cy q 6 f] : List va_W) (jI 1) (Nat.le_of_ble_eq_true rfl) dL_sound_316 (vc_1 hG z y) ?_
  refine ij_i2l C ⟨by omega, by omega⟩ dL_sound_319 ?_
  refine zj_aload_n C dL_sound_320 6 rfl ?_
  refine ij_iconst C dL_sound_321 ?_
  refine lc_count C ⟨Nat.le_of_ble_eq_true rfl, Nat.le_of_ble_eq_true rfl⟩ ⟨Nat.le_of_ble_eq_true rfl, Nat.le_of_ble_eq_true rfl⟩ hO ([LA cy q 6 f] : List va_W) (jI 2) (Nat.le_of_ble_eq_true rfl) dL_sound_322 (vc_2 hG z y) ?_
  refine ij_i2l C ⟨by omega, by omega⟩ dL_sound_325 ?_
  refine ij_lmul C dL_sound_326 ?_
  refine ij_ladd C dL_sound_327 ?_
  refine ij_el (vI T) v3.symm ?_
  refine zj_lstore C (L' := [(9, .long (jL (vI T))), (7, .long (jL (sS (gTr_le T) 0 (gOd_n (gTr_le T))))), (6, .ref q), (5, .int (jI (dI T))), (3, .long (jL (uNew T))), (1, .long (jL (uAll T))), (0, .ref x0)]) dL_sound_328 (by decide) rfl ?_
  refine zj_aload_n C dL_sound_330 6 rfl ?_
  refine ij_iconst C dL_sound_331 ?_
  refine lc_count C ⟨Nat.le_of_ble_eq_true rfl, Nat.le_of_ble_eq_true rfl⟩ ⟨Nat.le_of_ble_eq_true rfl, Nat.le_of_ble_eq_true rfl⟩ hO ([LA cy q 6 f] : List va_W) (jI 4) (Nat.le_of_ble_eq_true rfl) dL_sound_332 (vc_4 hG z y) ?_
  refine ij_i2l C ⟨by omega, by omega⟩ dL_sound_335 ?_
  refine zj_lload_n C dL_sound_336 5 rfl ?_
  refine ij_lcmp_ne C 514 dL_sound_337 dL_sound_338 (by decide) ⟨by omega, by omega⟩ ⟨by omega, by omega⟩ (fun h => False.elim (by omega)) (fun _ => ?_)
  refine zj_aload_n C dL_sound_341 6 rfl ?_
  refine ij_iconst C dL_sound_342 ?_
  refine lc_count C ⟨Nat.le_of_ble_eq_true rfl, Nat.le_of_ble_eq_true rfl⟩ ⟨Nat.le_of_ble_eq_true rfl, Nat.le_of_ble_eq_true rfl⟩ hO ([LA cy q 6 f] : List va_W) (jI 5) (Nat.le_of_ble_eq_true rfl) dL_sound_343 (vc_5 hG z y) ?_
  refine ij_i2l C ⟨by omega, by omega⟩ dL_sound_346 ?_
  refine zj_lload_n C dL_sound_347 4 rfl ?_
  refine ij_lcmp_ne C 514 dL_sound_348 dL_sound_349 (by decide) ⟨by omega, by omega⟩ ⟨by omega, by omega⟩ (fun h => False.elim (by omega)) (fun _ => ?_)
  refine zj_aload_n C dL_sound_352 6 rfl ?_
  refine ij_bipush C dL_sound_353 (by decide) ?_
  refine lc_count C ⟨Nat.le_of_ble_eq_true rfl, Nat.le_of_ble_eq_true rfl⟩ ⟨Nat.le_of_ble_eq_true rfl, Nat.le_of_ble_eq_true rfl⟩ hO ([LA cy q 6 f] : List va_W) (jI 11) (Nat.le_of_ble_eq_true rfl) dL_sound_355 (vc_11 hG z y) ?_
  refine ij_i2l C ⟨by omega, by omega⟩ dL_sound_358 ?_
  refine zj_lload C dL_sound_359 1 rfl ?_
  refine ij_lcmp_ne C 514 dL_sound_361 dL_sound_362 (by decide) ⟨by omega, by omega⟩ ⟨by omega, by omega⟩ (fun h => False.elim (by omega)) (fun _ => ?_)
  refine zj_aload_n C dL_sound_365 6 rfl ?_
  refine ij_iconst C dL_sound_366 ?_
  refine lc_count C ⟨Nat.le_of_ble_eq_true rfl, Nat.le_of_ble_eq_true rfl⟩ ⟨Nat.le_of_ble_eq_true rfl, Nat.le_of_ble_eq_true rfl⟩ hO ([LA cy q 6 f] : List va_W) (jI 3) (Nat.le_of_ble_eq_true rfl) dL_sound_367 (vc_3 hG z y) ?_
  refine ij_i2l C ⟨by omega, by omega⟩ dL_sound_370 ?_
  refine zj_lload C dL_sound_371 0 rfl ?_
  refine ij_lcmp_ne C 514 dL_sound_373 dL_sound_374 (by decide) ⟨by omega, by omega⟩ ⟨by omega, by omega⟩ (fun h => False.elim (by omega)) (fun _ => ?_)
  refine zj_aload_n C dL_sound_377 6 rfl ?_
  refine ij_iconst C dL_sound_378 ?_
  refine lc_count C ⟨Nat.le_of_ble_eq_true rfl, Nat.le_of_ble_eq_true rfl⟩ ⟨Nat.le_of_ble_eq_true rfl, Nat.le_of_ble_eq_true rfl⟩ hO ([LA cy q 6 f] : List va_W) (jI 0) (Nat.le_of_ble_eq_true rfl) dL_sound_379 (vc_0 hG z y) ?_
  refine ij_if_lt C 514 dL_sound_382 (by decide) ⟨by omega, by omega⟩ (fun h => False.elim (by omega)) (fun _ => ?_)
  refine zj_aload_n C dL_sound_385 6 rfl ?_
  refine ij_bipush C dL_sound_386 (by decide) ?_
  refine lc_count C ⟨Nat.le_of_ble_eq_true rfl, Nat.le_of_ble_eq_true rfl⟩ ⟨Nat.le_of_ble_eq_true rfl, Nat.le_of_ble_eq_true rfl⟩ hO ([LA cy q 6 f] : List va_W) (jI 6) (Nat.le_of_ble_eq_true rfl) dL_sound_388 (vc_6 hG z y) ?_
  refine ij_if_lt C 514 dL_sound_391 (by decide) ⟨by omega, by omega⟩ (fun h => False.elim (by omega)) (fun _ => ?_)
  refine zj_aload_n C dL_sound_394 6 rfl ?_
  refine ij_bipush C dL_sound_395 (by decide) ?_
  refine lc_count C ⟨Nat.le_of_ble_eq_true rfl, Nat.le_of_ble_eq_true rfl⟩ ⟨Nat.le_of_ble_eq_true rfl, Nat.le_of_ble_eq_true rfl⟩ hO ([LA cy q 6 f] : List va_W) (jI 6) (Nat.le_of_ble_eq_true rfl) dL_sound_397 (vc_6 hG z y) ?_
  refine zj_aload_n C dL_sound_400 6 rfl ?_
  refine ij_iconst C dL_sound_401 ?_
  refine lc_count C ⟨Nat.le_of_ble_eq_true rfl, Nat.le_of_ble_eq_true rfl⟩ ⟨Nat.le_of_ble_eq_true rfl, Nat.le_of_ble_eq_true rfl⟩ hO ([LA cy q 6 f] : List va_W) (jI 0) (Nat.le_of_ble_eq_true rfl) dL_sound_402 (vc_0 hG z y) ?_
  refine ij_icmp_gt C 514 dL_sound_405 (by decide) ⟨by omega, by omega⟩ ⟨by omega, by omega⟩ (fun h => False.elim (by omega)) (fun _ => ?_)
  refine zj_aload_n C dL_sound_408 6 rfl ?_
  refine ij_bipush C dL_sound_409 (by decide) ?_
  refine lc_count C ⟨Nat.le_of_ble_eq_true rfl, Nat.le_of_ble_eq_true rfl⟩ ⟨Nat.le_of_ble_eq_true rfl, Nat.le_of_ble_eq_true rfl⟩ hO ([LA cy q 6 f] : List va_W) (jI 7) (Nat.le_of_ble_eq_true rfl) dL_sound_411 (vc_7 hG z y) ?_
  refine ij_if_lt C 514 dL_sound_414 (by decide) ⟨by omega, by omega⟩ (fun h => False.elim (by omega)) (fun _ => ?_)
  refine zj_aload_n C dL_sound_417 6 rfl ?_
  refine ij_iconst C dL_sound_418 ?_
  refine lc_price C ⟨Nat.le_of_ble_eq_true rfl, Nat.le_of_ble_eq_true rfl⟩ ⟨Nat.le_of_ble_eq_true rfl, Nat.le_of_ble_eq_true rfl⟩ hO ([LA cy q 6 f] : List va_W) (jI 0) (Nat.le_of_ble_eq_true rfl) dL_sound_419 (fun r2_ x2_ e2_ => ?_)
  refine ij_l (mI T) (vp_0 hG e2_) ?_
  refine zj_lload_n C dL_sound_422 5 rfl ?_
  refine zj_lconst C (v := jL 0) dL_sound_423 (by decide) ?_
  have J1 : zJ E 12 1 6 (([LA cy q 6 f] : List va_W) ++ LB cy x0 x1 x2 d0 d1 p0 p1 h0 h1 a b hs sl T U x2_ z y s).flatten 446 [(9, .long (jL (vI T))), (7, .long (jL (sS (gTr_le T) 0 (gOd_n (gTr_le T))))), (6, .ref q), (5, .int (jI (dI T))), (3, .long (jL (uNew T))), (1, .long (jL (uAll T))), (0, .ref x0)] [] := by
    refine zj_aload_n C dL_sound_446 6 rfl ?_
    refine ij_iconst C dL_sound_447 ?_
    refine lc_price C ⟨Nat.le_of_ble_eq_true rfl, Nat.le_of_ble_eq_true rfl⟩ ⟨Nat.le_of_ble_eq_true rfl, Nat.le_of_ble_eq_true rfl⟩ hO ([LA cy q 6 f] : List va_W) (jI 3) (Nat.le_of_ble_eq_true rfl) dL_sound_448 (fun r3_ x3_ e3_ => ?_)
    refine ij_l (iI T) (vp_3 hG e3_) ?_
    refine zj_lload_n C dL_sound_451 5 rfl ?_
    refine zj_lconst C (v := jL 0) dL_sound_452 (by decide) ?_
    have J2 : zJ E 12 1 6 (([LA cy q 6 f] : List va_W) ++ LB cy x0 x1 x2 d0 d1 p0 p1 h0 h1 a b hs sl T U x3_ z y s).flatten 478 [(9, .long (jL (vI T))), (7, .long (jL (sS (gTr_le T) 0 (gOd_n (gTr_le T))))), (6, .ref q), (5, .int (jI (dI T))), (3, .long (jL (uNew T))), (1, .long (jL (uAll T))), (0, .ref x0)] [] := by
      refine zj_aload_n C dL_sound_478 6 rfl ?_
      refine ij_iconst C dL_sound_479 ?_
      refine zj_aload_n C dL_sound_480 6 rfl ?_
      refine ij_bipush C dL_sound_481 (by decide) ?_
      refine lc_count C ⟨Nat.le_of_ble_eq_true rfl, Nat.le_of_ble_eq_true rfl⟩ ⟨Nat.le_of_ble_eq_true rfl, Nat.le_of_ble_eq_true rfl⟩ hO ([LA cy q 6 f] : List va_W) (jI 9) (Nat.le_of_ble_eq_true rfl) dL_sound_483 (vc_9 hG z y) ?_
      refine ij_iconst C dL_sound_486 ?_
      refine lc_order C ⟨Nat.le_of_ble_eq_true rfl, Nat.le_of_ble_eq_true rfl⟩ ⟨Nat.le_of_ble_eq_true rfl, Nat.le_of_ble_eq_true rfl⟩ hO ([LA cy q 6 f] : List va_W) (jI 0) (jI (gOd_n (gTr_bu T) : Int)) (jI 0) (Nat.le_of_ble_eq_true rfl) dL_sound_487 (vo_0e hG) ?_
      refine ij_iconst C dL_sound_490 ?_
      refine ij_icmp_ne C 514 dL_sound_491 (by decide) ⟨by decide, by decide⟩ ⟨by decide, by decide⟩ (fun h => False.elim (by omega)) (fun _ => ?_)
      refine zj_aload_n C dL_sound_494 6 rfl ?_
      refine ij_iconst C dL_sound_495 ?_
      refine zj_aload_n C dL_sound_496 6 rfl ?_
      refine ij_bipush C dL_sound_497 (by decide) ?_
      refine lc_count C ⟨Nat.le_of_ble_eq_true rfl, Nat.le_of_ble_eq_true rfl⟩ ⟨Nat.le_of_ble_eq_true rfl, Nat.le_of_ble_eq_true rfl⟩ hO ([LA cy q 6 f] : List va_W) (jI 10) (Nat.le_of_ble_eq_true rfl) dL_sound_499 (vc_10 hG z y) ?_
      refine ij_iconst C dL_sound_502 ?_
      refine lc_order C ⟨Nat.le_of_ble_eq_true rfl, Nat.le_of_ble_eq_true rfl⟩ ⟨Nat.le_of_ble_eq_true rfl, Nat.le_of_ble_eq_true rfl⟩ hO ([LA cy q 6 f] : List va_W) (jI 1) (jI (gOd_n (gTr_le T) : Int)) (jI 0) (Nat.le_of_ble_eq_true rfl) dL_sound_503 (vo_1e hG) ?_
      refine ij_iconst C dL_sound_506 ?_
      refine ij_icmp_ne C 514 dL_sound_507 (by decide) ⟨by decide, by decide⟩ ⟨by decide, by decide⟩ (fun h => False.elim (by omega)) (fun _ => ?_)
      refine ij_iconst C dL_sound_510 ?_
      refine zj_goto C 515 dL_sound_511 (by decide) ?_
      refine zj_dropX [LA cy q 6 f] _ ?_
      exact hret _ _ _ _ ⟨rfl, _, rfl⟩ (zOk_z (Or.inr rfl)) dL_sound_515
    refine ij_lcmp_ne C 461 dL_sound_453 dL_sound_454 (by decide) ⟨by omega, by omega⟩ ⟨by decide, by decide⟩ (fun hb => ?_) (fun hb => ?_)
    · skip
      have em : iI T = 1000 * poI T / uAll T := if_neg (by omega)
      refine zj_ldc2 C dL_sound_461 tgv_471 ?_
      refine ij_l 1000 (by decide) ?_
      refine zj_aload_n C dL_sound_464 6 rfl ?_
      refine ij_bipush C dL_sound_465 (by decide) ?_
      refine lc_count C ⟨Nat.le_of_ble_eq_true rfl, Nat.le_of_ble_eq_true rfl⟩ ⟨Nat.le_of_ble_eq_true rfl, Nat.le_of_ble_eq_true rfl⟩ hO ([LA cy q 6 f] : List va_W) (jI 6) (Nat.le_of_ble_eq_true rfl) dL_sound_467 (vc_6 hG z y) ?_
      refine ij_i2l C ⟨by omega, by omega⟩ dL_sound_470 ?_
      refine ij_lmul C dL_sound_471 ?_
      refine zj_lload_n C dL_sound_472 5 rfl ?_
      refine ij_ldiv C ⟨by omega, by omega⟩ ⟨by omega, by omega⟩ dL_sound_473 ?_
      refine ij_el (iI T) em.symm ?_
      refine ij_lcmp_ne C 514 dL_sound_474 dL_sound_475 (by decide) ⟨by omega, by omega⟩ ⟨by omega, by omega⟩ (fun h => False.elim (by omega)) (fun _ => ?_)
      exact J2
    · skip
      have em : iI T = 0 := if_pos (by omega)
      refine zj_lconst C (v := jL 0) dL_sound_457 (by decide) ?_
      refine zj_goto C 474 dL_sound_458 (by decide) ?_
      refine ij_lcmp_ne C 514 dL_sound_474 dL_sound_475 (by decide) ⟨by omega, by omega⟩ ⟨by decide, by decide⟩ (fun h => False.elim (by omega)) (fun _ => ?_)
      exact J2
  refine ij_lcmp_ne C 434 dL_sound_424 dL_sound_425 (by decide) ⟨by omega, by omega⟩ ⟨by decide, by decide⟩ (fun hb => ?_) (fun hb => ?_)
  · skip
    have em : mI T = 1000 * vI T / uAll T := if_neg (by omega)
    refine zj_ldc2 C dL_sound_434 tgv_471 ?_
    refine ij_l 1000 (by decide) ?_
    refine zj_lload C dL_sound_437 0 rfl ?_
    refine ij_lmul C dL_sound_439 ?_
    refine zj_lload_n C dL_sound_440 5 rfl ?_
    refine ij_ldiv C ⟨by omega, by omega⟩ ⟨by omega, by omega⟩ dL_sound_441 ?_
    refine ij_el (mI T) em.symm ?_
    refine ij_lcmp_ne C 514 dL_sound_442 dL_sound_443 (by decide) ⟨by omega, by omega⟩ ⟨by omega, by omega⟩ (fun h => False.elim (by omega)) (fun _ => ?_)
    exact J1
  · skip
    have em : mI T = 100000 := if_pos (by omega)
    refine zj_ldc2 C dL_sound_428 tgv_488 ?_
    refine ij_l 100000 (by decide) ?_
    refine zj_goto C 442 dL_sound_431 (by decide) ?_
    refine ij_lcmp_ne C 514 dL_sound_442 dL_sound_443 (by decide) ⟨by omega, by omega⟩ ⟨by decide, by decide⟩ (fun h => False.elim (by omega)) (fun _ => ?_)
    exact J1
