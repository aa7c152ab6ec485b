/-! every trust has a row of the reference's numbers: what was shown of both serves the class alone -/
def aOf (T : zTr) (k : Nat) : Int64 :=
  if k < 5 then (gTr_st T k).toInt64
  else if k = 5 then gTr_cash T
  else if k = 6 then (gTr_lots T).toInt64
  else if k = 7 then (gTr_quote T).toInt64
  else if k = 8 then gTr_pool T
  else if k = 9 then gTr_even T
  else if k = 10 then (gTr_day T).toInt64
  else if k = 11 then (if gLd_ended (gTr_la T) = true then gLd_price (gTr_la T) else -6)
  else if k = 12 then gLd_made (gTr_la T)
  else if k = 13 then gLd_left (gTr_la T)
  else if k = 14 then (gLd_sold (gTr_la T)).toInt64
  else if k = 15 then (gLd_swung (gTr_la T) + nI 2).toInt64
  else if k = 16 then gLd_still (gTr_la T)
  else if k = 17 then gLd_back (gTr_la T)
  else if k = 18 then (if gLd_ended (gTr_la T) = true then 1 else 0)
  else if k < 61 then
    (let x := gTr_hd T ((k - 19) / 7)
     if (k - 19) % 7 = 0 then gHd_old x else if (k - 19) % 7 = 1 then gHd_new x else if (k - 19) % 7 = 2 then gHd_bought x else if (k - 19) % 7 = 3 then gHd_paid x else if (k - 19) % 7 = 4 then gHd_inc x else if (k - 19) % 7 = 5 then gHd_eve x else gHd_lots x)
  else if k = 61 then lN (gOd_n (gTr_bu T))
  else if k < 122 then
    (if (k - 62) % 3 = 0 then (gOd_ho (gTr_bu T) ((k - 62) / 3)).toInt64 else if (k - 62) % 3 = 1 then (gOd_sz (gTr_bu T) ((k - 62) / 3)).toInt64 else (gOd_dy (gTr_bu T) ((k - 62) / 3)).toInt64)
  else if k = 122 then lN (gOd_n (gTr_le T))
  else (if (k - 123) % 3 = 0 then (gOd_ho (gTr_le T) ((k - 123) / 3)).toInt64 else if (k - 123) % 3 = 1 then (gOd_sz (gTr_le T) ((k - 123) / 3)).toInt64 else (gOd_dy (gTr_le T) ((k - 123) / 3)).toInt64)
theorem aOf_hd (T : zTr) {h : Nat} (hh : h < 6) (w : Nat) (hw : w < 7) : aOf T (19 + 7 * h + w) = (let x := gTr_hd T h; if w = 0 then gHd_old x else if w = 1 then gHd_new x else if w = 2 then gHd_bought x else if w = 3 then gHd_paid x else if w = 4 then gHd_inc x else if w = 5 then gHd_eve x else gHd_lots x) := by
  have e1 : (19 + 7 * h + w - 19) / 7 = h := by omega
  have e2 : (19 + 7 * h + w - 19) % 7 = w := by omega
  unfold aOf
  rw [if_neg (by omega), if_neg (by omega), if_neg (by omega), if_neg (by omega), if_neg (by omega), if_neg (by omega), if_neg (by omega), if_neg (by omega), if_neg (by omega), if_neg (by omega), if_neg (by omega), if_neg (by omega), if_neg (by omega), if_neg (by omega), if_neg (by omega), if_pos (by omega), e1, e2]
theorem aOf_bu (T : zTr) {i : Nat} (hi : i < 20) (w : Nat) (hw : w < 3) : aOf T (61 + 1 + 3 * i + w) = (if w = 0 then (gOd_ho (gTr_bu T) i).toInt64 else if w = 1 then (gOd_sz (gTr_bu T) i).toInt64 else (gOd_dy (gTr_bu T) i).toInt64) := by
  have e1 : (61 + 1 + 3 * i + w - 62) / 3 = i := by omega
  have e2 : (61 + 1 + 3 * i + w - 62) % 3 = w := by omega
  unfold aOf
  rw [if_neg (by omega), if_neg (by omega), if_neg (by omega), if_neg (by omega), if_neg (by omega), if_neg (by omega), if_neg (by omega), if_neg (by omega), if_neg (by omega), if_neg (by omega), if_neg (by omega), if_neg (by omega), if_neg (by omega), if_neg (by omega), if_neg (by omega), if_neg (by omega), if_neg (by omega), if_pos (by omega), e1, e2]
theorem aOf_le (T : zTr) {i : Nat} (w : Nat) (hw : w < 3) : aOf T (122 + 1 + 3 * i + w) = (if w = 0 then (gOd_ho (gTr_le T) i).toInt64 else if w = 1 then (gOd_sz (gTr_le T) i).toInt64 else (gOd_dy (gTr_le T) i).toInt64) := by
  have e1 : (122 + 1 + 3 * i + w - 123) / 3 = i := by omega
  have e2 : (122 + 1 + 3 * i + w - 123) % 3 = w := by omega
  unfold aOf
  rw [if_neg (by omega), if_neg (by omega), if_neg (by omega), if_neg (by omega), if_neg (by omega), if_neg (by omega), if_neg (by omega), if_neg (by omega), if_neg (by omega), if_neg (by omega), if_neg (by omega), if_neg (by omega), if_neg (by omega), if_neg (by omega), if_neg (by omega), if_neg (by omega), if_neg (by omega), if_neg (by omega), if_neg (by omega), e1, e2]
theorem RTr_aOf {T : zTr} (hb : gOd_n (gTr_bu T) ≤ 20) : RTr T (aOf T) := by
  refine ⟨⟨fun k hk => if_pos hk, rfl, rfl, rfl, rfl, rfl, rfl, fun h hh => ⟨aOf_hd T hh 0 (by decide), aOf_hd T hh 1 (by decide), aOf_hd T hh 2 (by decide), aOf_hd T hh 3 (by decide), aOf_hd T hh 4 (by decide), aOf_hd T hh 5 (by decide), aOf_hd T hh 6 (by decide)⟩⟩, ⟨rfl, fun i hi => ⟨aOf_bu T (by omega) 0 (by decide), aOf_bu T (by omega) 1 (by decide), aOf_bu T (by omega) 2 (by decide)⟩⟩, ⟨rfl, fun i hi => ⟨aOf_le T 0 (by decide), aOf_le T 1 (by decide), aOf_le T 2 (by decide)⟩⟩, rfl, rfl, fun _ => ⟨rfl, rfl, rfl, rfl, rfl, rfl⟩⟩
/-- a state of the reference with these numbers -/
def sA (A : Nat → Int64) : zMs := (A, fun _ => 0, 0, 0, fun _ => 0, fun _ => 0, fun _ => 0, fun _ => 0, fun _ => 0, 0, 0, false, 0, fun _ => 0, fun _ => 0)
theorem sA_at (A : Nat → Int64) : gMs_at (sA A) = A := rfl
theorem TE_symm {t u : zTr} (h : TE t u) : TE u t := by
  obtain ⟨h1, h2, h3, h4, h5, h6, h7, h8, ⟨h9, h10⟩, ⟨h11, h12⟩, h13⟩ := h
  exact ⟨h1.symm, h2.symm, h3.symm, h4.symm, h5.symm, h6.symm, fun k hk => (h7 k hk).symm, fun k hk => (h8 k hk).symm, ⟨h9.symm, h10.symm⟩, ⟨h11.symm, h12.symm⟩, h13.symm⟩
theorem TE_trans {t u v : zTr} (h : TE t u) (g : TE u v) : TE t v := by
  obtain ⟨h1, h2, h3, h4, h5, h6, h7, h8, ⟨h9, h10⟩, ⟨h11, h12⟩, h13⟩ := h
  obtain ⟨g1, g2, g3, g4, g5, g6, g7, g8, ⟨g9, g10⟩, ⟨g11, g12⟩, g13⟩ := g
  exact ⟨h1.trans g1, h2.trans g2, h3.trans g3, h4.trans g4, h5.trans g5, h6.trans g6, fun k hk => (h7 k hk).trans (g7 k hk), fun k hk => (h8 k hk).trans (g8 k hk), ⟨h9.trans g9, h10.trans g10⟩, ⟨h11.trans g11, h12.trans g12⟩, h13.trans g13⟩
theorem TE_rf (t : zTr) : TE t t := ⟨rfl, rfl, rfl, rfl, rfl, rfl, fun _ _ => rfl, fun _ _ => rfl, ⟨rfl, rfl⟩, ⟨rfl, rfl⟩, rfl⟩
theorem RO_oL {kd : Nat} {o q : zOd} {A : Nat → Int64} (ho : gOd_n o ≤ 20) (hq : gOd_n q ≤ 20) (h1 : RO kd o A) (h2 : RO kd q A) : gOd_n o = gOd_n q ∧ oL o = oL q := by
  have e : gOd_n o = gOd_n q := (lN_eq (by omega) (by omega)).mp (h1.1.symm.trans h2.1)
  refine ⟨e, ?_⟩
  unfold oL
  rw [← e]
  refine map_range_congr _ (fun i hi => ?_)
  obtain ⟨a1, a2, a3⟩ := h1.2 i hi
  obtain ⟨b1, b2, b3⟩ := h2.2 i (by omega)
  unfold trO
  rw [i32_l_inj (a1.symm.trans b1), i32_l_inj (a2.symm.trans b2), i32_l_inj (a3.symm.trans b3)]
/-- two trusts with the same numbers are the same in all that counts -/
theorem RTr_TE {T U : zTr} {A : Nat → Int64} (hT : oN T) (hU : oN U) (h : RTr T A) (g : RTr U A) (hl : gTr_la T = gTr_la U ∨ (gLd_ended (gTr_la T) = true ∧ gLd_ended (gTr_la U) = true)) : TE T U := by
  obtain ⟨⟨r1, r5, r6, r7, r8, r9, r10, rh⟩, hb, hle, d1, d2, d3⟩ := h
  obtain ⟨⟨s1, s5, s6, s7, s8, s9, s10, sh⟩, gb, gle, e1, e2, e3⟩ := g
  refine ⟨r5.symm.trans s5, r8.symm.trans s8, r9.symm.trans s9, i32_l_inj (r6.symm.trans s6), i32_l_inj (r7.symm.trans s7), i32_l_inj (r10.symm.trans s10), fun k hk => i32_l_inj ((r1 k hk).symm.trans (s1 k hk)), fun k hk => ?_, RO_oL hT.1 hU.1 hb gb, RO_oL hT.2 hU.2 hle gle, ?_⟩
  · obtain ⟨a0, a1, a2, a3, a4, a5, a6⟩ := rh k hk
    obtain ⟨b0, b1, b2, b3, b4, b5, b6⟩ := sh k hk
    exact Prod.ext (a0.symm.trans b0) (Prod.ext (a1.symm.trans b1) (Prod.ext (a2.symm.trans b2) (Prod.ext (a3.symm.trans b3) (Prod.ext (a4.symm.trans b4) (Prod.ext (a5.symm.trans b5) (a6.symm.trans b6))))))
  · rcases hl with hl | ⟨t1, t2⟩
    · exact hl
    · obtain ⟨a0, a1, a2, a3, a4, a5⟩ := d3 t1
      obtain ⟨b0, b1, b2, b3, b4, b5⟩ := e3 t2
      rw [if_pos t1] at d2
      rw [if_pos t2] at e2
      have sw : gLd_swung (gTr_la T) = gLd_swung (gTr_la U) := by
        have q := i32_l_inj (a3.symm.trans b3)
        have q2 := congrArg (fun v => v - nI 2) q
        simpa using q2
      exact Prod.ext (t1.trans t2.symm) (Prod.ext (d2.symm.trans e2) (Prod.ext (a0.symm.trans b0) (Prod.ext (a1.symm.trans b1) (Prod.ext (a4.symm.trans b4) (Prod.ext (a5.symm.trans b5) (Prod.ext (i32_l_inj (a2.symm.trans b2)) sw))))))
/-! what a change gives -/
theorem opR_get {D : Int} {T : zTr} {S : zMs} {b : Bool} {c : Int32 × zTr} {m : Int32 × zMs} {ad at5 : Int} (h : opR D T S b c m ad at5) (h0 : 0 ≤ c.1.toInt) : Inv D c.2 ∧ pPhi c.2 ≤ pPhi T + ad := by
  rcases h.2 with ⟨g, -, -⟩ | ⟨-, A, sh, -, hR, hI, hp, -⟩
  · omega
  · exact ⟨hI, hp⟩
/-- two trusts alike change alike -/
theorem opR_TE {D : Int} {T U : zTr} {S : zMs} {b : Bool} {c1 c2 : Int32 × zTr} {m : Int32 × zMs} {ad1 ad2 at1 at2 : Int} (hTU : TE T U) (h : opR D T S b c1 m ad1 at1) (g : opR D U S b c2 m ad2 at2) (hl : 0 ≤ c1.1.toInt → gTr_la c1.2 = gTr_la c2.2 ∨ (gLd_ended (gTr_la c1.2) = true ∧ gLd_ended (gTr_la c2.2) = true)) : c1.1 = c2.1 ∧ TE c1.2 c2.2 := by
  have e : c1.1 = c2.1 := h.1.trans g.1.symm
  refine ⟨e, ?_⟩
  rcases h.2 with ⟨n1, t1, -⟩ | ⟨y1, A, sh, m1, r1, i1, -, -⟩
  · rcases g.2 with ⟨n2, t2, -⟩ | ⟨y2, -⟩
    · rw [t1, t2]; exact hTU
    · rw [e] at n1; omega
  · rcases g.2 with ⟨n2, -, -⟩ | ⟨y2, B, sh2, m2, r2, i2, -, -⟩
    · rw [e] at y1; omega
    · have eA : A = B := by
        have q := congrArg gMs_at (m1.symm.trans m2)
        exact q
      rw [← eA] at r2
      exact RTr_TE ⟨i1.2.1.1, i1.2.2.1.1⟩ ⟨i2.2.1.1, i2.2.2.1.1⟩ r1 r2 (hl y1)
