/-! the start of the law: the first states, the classes, the static row. Written by wip/p26/law27.py, out of the claim whole's own start -/
theorem iO_0 (mx : Int) : iO mx od0 := ⟨Nat.zero_le _, fun i hi => absurd hi (Nat.not_lt_zero _), fun i j _ hj => absurd hj (Nat.not_lt_zero _)⟩
theorem uU_0 (h : Nat) : uO t0 h = 0 ∧ uN t0 h = 0 ∧ uU t0 h = 0 := ⟨rfl, rfl, rfl⟩
theorem Inv_0 : Inv 0 t0 := by
  refine ⟨⟨fun k hk => ?_, ⟨by decide, by decide⟩, ⟨by decide, by decide⟩, ⟨by decide, by decide, by decide⟩, fun h hh => ⟨by rw [(uU_0 h).1]; omega, by rw [(uU_0 h).2.1]; omega⟩, ?_⟩, iO_0 _, iO_0 _, fun h hh => ?_, ⟨by decide, by decide⟩, fun i hi => absurd hi (Nat.not_lt_zero _), fun i hi => absurd hi (Nat.not_lt_zero _)⟩
  · rcases (show k = 0 ∨ k = 1 ∨ k = 2 ∨ k = 3 ∨ k = 4 by omega) with rfl | rfl | rfl | rfl | rfl <;> decide
  · show isum (uU t0) 6 ≤ _
    have e : isum (uU t0) 6 = isum (fun _ => 0) 6 := isum_congr 6 (fun i hi => (uU_0 i).2.2)
    rw [e]
    decide
  · rw [(uU_0 h).2.2]
    exact Int.le_refl 0
theorem GI_0 : GI 0 0 t0 := by
  have z0 : (0 : Int64).toInt = 0 := rfl
  refine ⟨Inv_0, ⟨fun h hh => ?_, ⟨by decide, ?_⟩, ?_, ?_, fun i hi => absurd hi (Nat.not_lt_zero _), fun i hi => absurd hi (Nat.not_lt_zero _)⟩, by decide, by decide, by decide⟩
  · have e : boI t0 h = 0 ∧ paI t0 h = 0 ∧ inI t0 h = 0 ∧ eeI t0 h = 0 ∧ loI t0 h = 0 := ⟨rfl, rfl, rfl, rfl, rfl⟩
    obtain ⟨e1, e2, e3, e4, e5⟩ := e
    rw [e1, e2, e3, e4, e5]
    decide
  · have e1 : isum (boI t0) 6 = isum (fun _ => 0) 6 := isum_congr 6 (fun i _ => rfl)
    rw [e1]
    decide
  · have e1 : isum (boI t0) 6 = isum (fun _ => 0) 6 := isum_congr 6 (fun i _ => rfl)
    have e2 : pS (gTr_bu t0) 0 = 0 := rfl
    rw [e1, e2]
    decide
  · have e1 : gP (20000 + 4 * (gTr_quote t0).toInt) t0 = 0 := by
      unfold gP
      have z1 : (gTr_cash t0).toInt = 0 := rfl
      have z2 : pS (gTr_bu t0) 0 = 0 := rfl
      have z3 : (gTr_lots t0).toInt = 0 := rfl
      rw [z1, z2, z3]
      rfl
    have e2 : isum (paI t0) 6 = isum (fun _ => 0) 6 := isum_congr 6 (fun i _ => rfl)
    have e3 : isum (inI t0) 6 = isum (fun _ => 0) 6 := isum_congr 6 (fun i _ => rfl)
    unfold pPhi
    rw [e1, e2, e3]
    decide
theorem uAll_0 : uAll t0 = 0 := by
  have e : isum (uU t0) 6 = isum (fun _ => 0) 6 := isum_congr 6 (fun i hi => (uU_0 i).2.2)
  show isum (uU t0) 6 = 0
  rw [e]
  decide
theorem LO_0 : LO t0 pd0 ((0, 0, fun _ => t0) : zHs) ((fun _ => t0, fun _ => 0) : zSl) := ⟨Inv_ok Inv_0, ⟨by decide, by decide, fun _ _ => GI_oN GI_0⟩, fun _ _ => GI_oN GI_0, Nat.zero_le _, fun _ => zch_0⟩
theorem arrP_ex {args : Array Value} {s : State} {ty : FieldType} (h : (Cond.arrayClass ty).before args s = true) (hra : ∀ cA : ClassId, s.vm.findClass ("[" ++ ty.toString) = some cA → va_RA s cA ty) : ∃ cA : ClassId, ArrOfT s cA ty ∧ va_RA s cA ty := by
  obtain ⟨cA, kA, comp, h1, h2, h3⟩ := Cond.arrayClass_spec h
  exact ⟨cA, fun n z => ⟨fun k h => (by cases h), kA, h2, comp, h3⟩, hra cA h1⟩
theorem arrQ_ex {s : State} {C : String} (h : va_AO C s) : ∃ cA : ClassId, ArrOfT s cA (.object C) ∧ va_RA s cA (.object C) := by
  obtain ⟨comp, c, k, h1, h2, h3, h4, h5⟩ := Cond.arrayOver_spec h
  exact ⟨c, fun n z => ⟨fun k h => (by cases h), k, h3, comp, h4⟩, k, comp, h3, h4, h1, h5⟩
theorem lwAO {args : Array Value} {s : State} (hts : ∀ w ∈ lw_tbl, w.before args s = true) : zAO s := ⟨va_AO.of (hts _ tw_26), va_AO.of (hts _ tw_264)⟩
theorem cy_ex {args : Array Value} {s : State} (hts : ∀ w ∈ lw_tbl, w.before args s = true) : ∃ cy : Nat → ClassId, ∀ (k : Nat) (q : ClassId × FieldType), (zT cy)[k]? = some q → ArrOfT s q.1 q.2 ∧ va_RA s q.1 q.2 := by
  have hAO := lwAO hts
  obtain ⟨c0, h0⟩ := arrP_ex (hts _ tw_256) (fun _ h => h)
  obtain ⟨c1, h1⟩ := arrP_ex (hts _ tw_68) (fun _ h => h)
  obtain ⟨c2, h2⟩ := arrP_ex (hts _ tw_222) (fun _ h => h)
  obtain ⟨c3, h3⟩ := arrP_ex (hts _ tw_299) (fun _ h => h)
  obtain ⟨c4, h4⟩ := arrQ_ex hAO.1
  obtain ⟨c5, h5⟩ := arrQ_ex hAO.2
  refine ⟨fun k => match k with | 0 => c0 | 1 => c1 | 2 => c2 | 3 => c3 | 4 => c4 | _ => c5, fun k q hq => ?_⟩
  match k, hq with
  | 0, hq => cases hq; exact h0
  | 1, hq => cases hq; exact h1
  | 2, hq => cases hq; exact h2
  | 3, hq => cases hq; exact h3
  | 4, hq => cases hq; exact h4
  | 5, hq => cases hq; exact h5
  | k + 6, hq => cases hq
theorem cl_ex {args : Array Value} {s : State} (hts : ∀ w ∈ lw_tbl, w.before args s = true) : ∃ D : va_G, ∀ (c : Nat) (q : vw_C), vwCl[c]? = some q → u_Kn s q.1 q.2.1 q.2.2 (D.1 c) (D.2 c) := by
  have hz : ∀ w ∈ zG, w.before args s = true := fun w hw => hts w (List.mem_filter.mp hw).1
  obtain ⟨c0, i0, h0⟩ := u_known (C := RX0) (T := TX0) (N := 7) (n := 7) hz inZ0 (hts _ tw_192)
  obtain ⟨c1, i1, h1⟩ := u_known (C := RX1) (T := TX1) (N := 3) (n := 3) hz inZ1 (hts _ tw_258)
  obtain ⟨c2, i2, h2⟩ := u_known (C := RX2) (T := TX2) (N := 7) (n := 7) hz inZ2 (hts _ tw_27)
  obtain ⟨c3, i3, h3⟩ := u_known (C := RX3) (T := TX3) (N := 8) (n := 8) hz inZ3 (hts _ tw_96)
  obtain ⟨c4, i4, h4⟩ := u_known (C := RX4) (T := TX4) (N := 4) (n := 4) hz inZ4 (hts _ tw_70)
  obtain ⟨c5, i5, h5⟩ := u_known (C := RX5) (T := TX5) (N := 7) (n := 7) hz inZ5 (hts _ tw_224)
  obtain ⟨c6, i6, h6⟩ := u_known (C := RX6) (T := TX6) (N := 11) (n := 11) hz inZ6 (hts _ tw_20)
  obtain ⟨c7, i7, h7⟩ := u_known (C := RX7) (T := TX7) (N := 7) (n := 7) hz inZ7 (hts _ tw_12)
  refine ⟨(fun k => match k with | 0 => c0 | 1 => c1 | 2 => c2 | 3 => c3 | 4 => c4 | 5 => c5 | 6 => c6 | _ => c7, fun k => match k with | 0 => i0 | 1 => i1 | 2 => i2 | 3 => i3 | 4 => i4 | 5 => i5 | 6 => i6 | _ => i7), fun k q hq => ?_⟩
  match k, hq with
  | 0, hq => cases hq; exact h0
  | 1, hq => cases hq; exact h1
  | 2, hq => cases hq; exact h2
  | 3, hq => cases hq; exact h3
  | 4, hq => cases hq; exact h4
  | 5, hq => cases hq; exact h5
  | 6, hq => cases hq; exact h6
  | 7, hq => cases hq; exact h7
  | k + 8, hq => cases hq
theorem zX_ex {args : Array Value} {s : State} (hts : ∀ w ∈ lw_tbl, w.before args s = true) (hgv : (Jvm.Cond.and given_1 narrow_1).before args s = true) : zX (fun q => s.heap.size ≤ q) s s.heap := by
  have hs := flat_of_before _ hgv
  have hA : ∀ a : Nat, a < s.heap.size → ¬ (fun q => s.heap.size ≤ q) a := fun a h => Nat.not_le.mpr h
  have harr : (Cond.arrayOf (.static "SwingUnits" "GREATEST" "[I") .int).before args s = true := hs _ (by decide +kernel)
  have hlen := va_eqt (hs (Cond.eq (.length (.static "SwingUnits" "GREATEST" "[I")) (.int 5)) (by decide +kernel))
  have e0 := va_eqt (hs (Cond.eq (.elem (.static "SwingUnits" "GREATEST" "[I") (.int 0)) (.int 23)) (by decide +kernel))
  have e1 := va_eqt (hs (Cond.eq (.elem (.static "SwingUnits" "GREATEST" "[I") (.int 1)) (.int 1000)) (by decide +kernel))
  have e2 := va_eqt (hs (Cond.eq (.elem (.static "SwingUnits" "GREATEST" "[I") (.int 2)) (.int 100)) (by decide +kernel))
  have e3 := va_eqt (hs (Cond.eq (.elem (.static "SwingUnits" "GREATEST" "[I") (.int 3)) (.int 1000)) (by decide +kernel))
  have e4 := va_eqt (hs (Cond.eq (.elem (.static "SwingUnits" "GREATEST" "[I") (.int 4)) (.int 50)) (by decide +kernel))
  obtain ⟨t, ht, hT⟩ := va_Tof (tm := .static "SwingUnits" "GREATEST" "[I") (ty := .int) (N := 5) (f := zGf) (A := fun q => s.heap.size ≤ q) (by decide) harr hlen (fun j hj => by
    match j, hj with
    | 0, _ => exact e0
    | 1, _ => exact e1
    | 2, _ => exact e2
    | 3, _ => exact e3
    | 4, _ => exact e4
    | n + 5, hn => exact absurd hn (by omega)) hA
  exact ⟨va_Nw.of rfl (hts _ tw_332), va_Nw.of rfl (hts _ tw_346), va_Nw.of rfl (hts _ tw_623), t, va_Zref (hts _ tw_333) (hts _ tw_1) ht hA, hT⟩
