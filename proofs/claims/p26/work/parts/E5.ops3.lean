/-! units that go and come, exits in kind, payments: over integers -/
def sameH (T T' : zTr) (j : Nat) : Prop := boI T' j = boI T j ∧ paI T' j = paI T j ∧ inI T' j = inI T j ∧ eeI T' j = eeI T j ∧ loI T' j = loI T j
theorem zup_h {T T' : zTr} {h : Nat} {x : zHd} (e : gTr_hd T' = zup (gTr_hd T) h x) : (∀ j, j ≠ h → sameH T T' j ∧ uO T' j = uO T j ∧ uN T' j = uN T j) ∧ gTr_hd T' h = x := by
  refine ⟨fun j hj => ?_, by rw [e, zup_s]⟩
  unfold sameH boI paI inI eeI loI uO uN
  rw [e, zup_n _ _ hj]
  exact ⟨⟨rfl, rfl, rfl, rfl, rfl⟩, rfl, rfl⟩
theorem take_sp {T : zTr} (hH : iH T) {h : Nat} (hh : h < 6) {un am ofu : Int64} (hu : 0 ≤ un.toInt ∧ un.toInt ≤ uU T h) (ha : 0 ≤ am.toInt ∧ am.toInt ≤ 1000000000000) (hp : 0 ≤ paI T h ∧ paI T h ≤ 1000000000000) (he : 0 ≤ evI T ∧ evI T ≤ 4000000000) : (∀ j, j ≠ h → sameH T (f_X6_takeUnits T h un am ofu) j) ∧ boI (f_X6_takeUnits T h un am ofu) h = boI T h ∧ paI (f_X6_takeUnits T h un am ofu) h = paI T h + am.toInt ∧ inI (f_X6_takeUnits T h un am ofu) h = inI T h ∧ eeI (f_X6_takeUnits T h un am ofu) h = eeI T h ∧ loI (f_X6_takeUnits T h un am ofu) h = loI T h ∧ (0 ≤ evI (f_X6_takeUnits T h un am ofu) ∧ evI (f_X6_takeUnits T h un am ofu) ≤ evI T) ∧ uO (f_X6_takeUnits T h un am ofu) h = (if un.toInt < uO T h then uO T h - un.toInt else 0) := by
  have h1 := hH.1 h hh
  have h4 : uU T h = uO T h + uN T h := rfl
  have h5 := uU_le hH hh
  have h6 := hH.2
  have hg := gOld_int (o := gHd_old (gTr_hd T h)) (m := un)
  have ho : (gHd_old (gTr_hd T h)).toInt = uO T h := rfl
  rw [ho] at hg
  have hgb : 0 ≤ (gOld (gHd_old (gTr_hd T h)) un).toInt ∧ (gOld (gHd_old (gTr_hd T h)) un).toInt ≤ un.toInt ∧ un.toInt - (gOld (gHd_old (gTr_hd T h)) un).toInt ≤ uN T h ∧ (gOld (gHd_old (gTr_hd T h)) un).toInt ≤ uO T h := by
    rw [hg]; split <;> omega
  have hf : (un - gOld (gHd_old (gTr_hd T h)) un).toInt = un.toInt - (gOld (gHd_old (gTr_hd T h)) un).toInt := i64_sub rfl rfl (by omega) (by omega)
  have ed : gTr_hd (f_X6_takeUnits T h un am ofu) = zup (gTr_hd T) h (sHd_paid (sHd_new (sHd_old (gTr_hd T h) (gHd_old (gTr_hd T h) - gOld (gHd_old (gTr_hd T h)) un)) (gHd_new (gTr_hd T h) - (un - gOld (gHd_old (gTr_hd T h)) un))) (gHd_paid (gTr_hd T h) + am)) := rfl
  obtain ⟨z1, z2⟩ := zup_h ed
  refine ⟨fun j hj => (z1 j hj).1, ?_, ?_, ?_, ?_, ?_, ?_, ?_⟩
  · unfold boI; rw [z2]
  · unfold paI; rw [z2]
    exact i64_add (x := paI T h) rfl rfl (by omega) (by omega)
  · unfold inI; rw [z2]
  · unfold eeI; rw [z2]
  · unfold loI; rw [z2]
  · have ev : gTr_even (f_X6_takeUnits T h un am ofu) = (if f_X6_newUnits T ≤ 0 then gTr_even T else gTr_even T - (un - gOld (gHd_old (gTr_hd T h)) un) * gTr_even T / f_X6_newUnits T) := rfl
    unfold evI at he ⊢
    rw [ev]
    have hn := new_int hH
    have hw := uNew_ge hH hh
    by_cases g : f_X6_newUnits T ≤ 0
    · rw [if_pos g]; omega
    · rw [if_neg g]
      rw [i64_le_iff, hn] at g
      have z0 : (0 : Int64).toInt = 0 := rfl
      have hwl := uNew_le hH
      generalize un - gOld (gHd_old (gTr_hd T h)) un = f at hf
      generalize hfi : un.toInt - (gOld (gHd_old (gTr_hd T h)) un).toInt = fi at hf
      have m1 : 0 ≤ fi * (gTr_even T).toInt := Int.mul_nonneg (by omega) he.1
      have m2 : fi * (gTr_even T).toInt ≤ uNew T * (gTr_even T).toInt := Int.mul_le_mul_of_nonneg_right (by omega) he.1
      have m3 : uNew T * (gTr_even T).toInt ≤ 1000000000 * 4000000000 := Int.mul_le_mul (by omega) he.2 he.1 (by decide)
      have e1 : (f * gTr_even T / f_X6_newUnits T).toInt = fi * (gTr_even T).toInt / uNew T := i64_div (i64_mul hf rfl (by omega) (by omega)) hn m1 (by omega)
      have d1 : 0 ≤ fi * (gTr_even T).toInt / uNew T := Int.ediv_nonneg m1 (by omega)
      have d2 : fi * (gTr_even T).toInt / uNew T ≤ (gTr_even T).toInt := by
        refine Int.ediv_le_of_le_mul (by omega) ?_
        rw [Int.mul_comm (gTr_even T).toInt]; exact m2
      have e2 : (gTr_even T - f * gTr_even T / f_X6_newUnits T).toInt = (gTr_even T).toInt - fi * (gTr_even T).toInt / uNew T := i64_sub rfl e1 (by omega) (by omega)
      rw [e2]
      omega
  · show (gHd_old (gTr_hd (f_X6_takeUnits T h un am ofu) h)).toInt = _
    rw [z2]
    show (gHd_old (gTr_hd T h) - gOld (gHd_old (gTr_hd T h)) un).toInt = _
    rw [i64_sub ho rfl (by omega) (by omega), hg]
    split <;> split <;> omega
theorem make_sp {T : zTr} (h : Nat) {un am ofu : Int64} (ha : 0 ≤ am.toInt ∧ am.toInt ≤ 1000000000) (hb : 0 ≤ boI T h ∧ boI T h ≤ 1000000000000) (he : 0 ≤ evI T ∧ evI T ≤ 1000000000000) (hby : 0 ≤ (un * ofu).toInt) : (∀ j, j ≠ h → sameH T (f_X6_makeUnits T h un am ofu) j) ∧ boI (f_X6_makeUnits T h un am ofu) h = boI T h + am.toInt ∧ paI (f_X6_makeUnits T h un am ofu) h = paI T h ∧ inI (f_X6_makeUnits T h un am ofu) h = inI T h ∧ eeI (f_X6_makeUnits T h un am ofu) h = eeI T h ∧ loI (f_X6_makeUnits T h un am ofu) h = loI T h ∧ evI (f_X6_makeUnits T h un am ofu) = evI T + (un * ofu).toInt / 1000 := by
  have ed : gTr_hd (f_X6_makeUnits T h un am ofu) = zup (gTr_hd T) h (sHd_bought (sHd_new (gTr_hd T h) (gHd_new (gTr_hd T h) + un)) (gHd_bought (gTr_hd T h) + am)) := rfl
  obtain ⟨z1, z2⟩ := zup_h ed
  refine ⟨fun j hj => (z1 j hj).1, ?_, ?_, ?_, ?_, ?_, ?_⟩
  · unfold boI; rw [z2]
    exact i64_add (x := boI T h) rfl rfl (by omega) (by omega)
  · unfold paI; rw [z2]
  · unfold inI; rw [z2]
  · unfold eeI; rw [z2]
  · unfold loI; rw [z2]
  · have hbi : (un * ofu / 1000).toInt = (un * ofu).toInt / 1000 := i64_div rfl rfl hby (by decide)
    have hbl := i64_lt (a := un * ofu)
    exact i64_add (a := gTr_even T) (x := evI T) rfl hbi (by omega) (by omega)
section OP3
variable {D c : Int} {T : zTr}
/-- an exit in kind -/
theorem kind_sp (h : GI D c T) (hc : c + 1 ≤ 400) {i : Nat} (hi : i < 6) {a : Int} (ha : 1 ≤ a ∧ a < 2147483648) : (uU T i - hS (gTr_le T) i < a → f_X6_exitInKind T (jI (i : Int)) (jI a) = (-5, T)) ∧ (a ≤ uU T i - hS (gTr_le T) i → 0 < uAll T ∧ ∃ T', f_X6_exitInKind T (jI (i : Int)) (jI a) = (jI (a * lI T / uAll T), T') ∧ GI D (c + 1) T' ∧ paI T' i = paI T i + a * cI T / uAll T ∧ loI T' i = loI T i + a * lI T / uAll T ∧ cI T' = cI T - a * cI T / uAll T ∧ lI T' = lI T - a * lI T / uAll T ∧ uU T' i = uU T i - a ∧ uO T' i = (if a < uO T i then uO T i - a else 0) ∧ (0 ≤ a * lI T ∧ a * lI T ≤ 1000000000000 ∧ 0 ≤ a * cI T ∧ a * cI T ≤ 2000000000000000000 ∧ 0 ≤ a * lI T / uAll T ∧ a * lI T / uAll T ≤ lI T ∧ 0 ≤ a * cI T / uAll T ∧ a * cI T / uAll T ≤ cI T)) := by
  have ra : r32 a := ⟨by omega, by omega⟩
  have ea : (jI a).toInt = a := jI_t ra
  have eal : (jI a).toInt64.toInt = a := (i32_l _).trans ea
  have n1 : nI 1 ≤ jI a := by rw [jI_n, jI_le ⟨by decide, by decide⟩ ra]; omega
  have hf := free_t h hi
  have hc' : (jI (i : Int)).toNatClampNeg = i := ncI (by omega)
  have n2 : f_X6_freeUnits T i < (jI a).toInt64 ↔ uU T i - hS (gTr_le T) i < a := by rw [i64_lt_iff, hf, eal]
  have form : f_X6_exitInKind T (jI (i : Int)) (jI a) = (if f_X6_freeUnits T i < (jI a).toInt64 then (-5, T) else if 0 < f_X6_units T then (((jI a).toInt64 * (gTr_lots T).toInt64 / f_X6_units T).toInt32, f_X6_takeUnits (sTr_hd (sTr_lots T (gTr_lots T - ((jI a).toInt64 * (gTr_lots T).toInt64 / f_X6_units T).toInt32)) (zup (gTr_hd T) i (sHd_lots (gTr_hd T i) (gHd_lots (gTr_hd T i) + (((jI a).toInt64 * (gTr_lots T).toInt64 / f_X6_units T).toInt32).toInt64)))) i (jI a).toInt64 ((jI a).toInt64 * gTr_cash T / f_X6_units T) (f_X6_unitIncome (sTr_hd (sTr_lots T (gTr_lots T - ((jI a).toInt64 * (gTr_lots T).toInt64 / f_X6_units T).toInt32)) (zup (gTr_hd T) i (sHd_lots (gTr_hd T i) (gHd_lots (gTr_hd T i) + (((jI a).toInt64 * (gTr_lots T).toInt64 / f_X6_units T).toInt32).toInt64)))))) else (-5, T)) := by
    unfold f_X6_exitInKind
    dsimp only
    rw [if_neg (isH_n hi), if_pos n1, hc']
  refine ⟨fun g => by rw [form, if_pos (n2.mpr g)], fun g => ?_⟩
  obtain ⟨⟨c1, c2⟩, ⟨l1, l2⟩, ⟨q1, q2⟩, -, ⟨u1, u2⟩, -, ⟨p1, p2⟩, ⟨e1, e2⟩, -⟩ := GI_r h
  obtain ⟨⟨a1, a2, a3, a4, a5⟩, ⟨b1, b2⟩, ⟨bo1, bo2⟩, ⟨pa1, pa2⟩, -, -, ⟨lo1, lo2⟩⟩ := GI_h h hi
  have hu0 : 0 < uAll T := by omega
  have hun := units_int h.1.1.2.2.2.2
  have m1 : 0 ≤ a * lI T := Int.mul_nonneg (by omega) l1
  have m2 : a * lI T ≤ uAll T * lI T := Int.mul_le_mul_of_nonneg_right (by omega) l1
  have m3 : uAll T * lI T ≤ 1000000000 * 1000 := Int.mul_le_mul u2 l2 l1 (by decide)
  have m4 : 0 ≤ a * cI T := Int.mul_nonneg (by omega) c1
  have m5 : a * cI T ≤ uAll T * cI T := Int.mul_le_mul_of_nonneg_right (by omega) c1
  have m6 : uAll T * cI T ≤ 1000000000 * 1700000000 := Int.mul_le_mul u2 c2 c1 (by decide)
  have hlg : ((jI a).toInt64 * (gTr_lots T).toInt64 / f_X6_units T).toInt = a * lI T / uAll T := i64_div (i64_mul eal (i32_l _) (by omega) (by omega)) hun m1 hu0
  have hcg : ((jI a).toInt64 * gTr_cash T / f_X6_units T).toInt = a * cI T / uAll T := i64_div (i64_mul eal rfl (by omega) (by omega)) hun m4 hu0
  have k1 : 0 ≤ a * lI T / uAll T := Int.ediv_nonneg m1 (by omega)
  have k2 : a * lI T / uAll T ≤ lI T := by
    refine Int.ediv_le_of_le_mul hu0 ?_
    rw [Int.mul_comm (lI T)]; exact m2
  have k3 : 0 ≤ a * cI T / uAll T := Int.ediv_nonneg m4 (by omega)
  have k4 : a * cI T / uAll T ≤ cI T := by
    refine Int.ediv_le_of_le_mul hu0 ?_
    rw [Int.mul_comm (cI T)]; exact m5
  have ho := kind_op (S := sA (aOf T)) (jI (i : Int)) (jI a) h.1 (GI_RTr h) (GI_hg h)
  rw [form, if_neg (fun q => by have := n2.mp q; omega), if_pos (show 0 < f_X6_units T by rw [i64_lt_iff, hun]; exact hu0)] at ho ⊢
  generalize hG1 : (jI a).toInt64 * (gTr_lots T).toInt64 / f_X6_units T = lg at hlg ho ⊢
  generalize (jI a).toInt64 * gTr_cash T / f_X6_units T = cg at hcg ho ⊢
  generalize hL : a * lI T / uAll T = lgi at *
  generalize hC : a * cI T / uAll T = cgi at *
  have hl32 : lg.toInt32.toInt = lgi := (l_i32 (by omega) (by omega)).trans hlg
  have hl64 : (lg.toInt32).toInt64.toInt = lgi := (i32_l _).trans hl32
  generalize hT1 : sTr_hd (sTr_lots T (gTr_lots T - lg.toInt32)) (zup (gTr_hd T) i (sHd_lots (gTr_hd T i) (gHd_lots (gTr_hd T i) + lg.toInt32.toInt64))) = T1 at ho ⊢
  have e1h : gTr_hd T1 = zup (gTr_hd T) i (sHd_lots (gTr_hd T i) (gHd_lots (gTr_hd T i) + lg.toInt32.toInt64)) := by rw [← hT1]
  obtain ⟨z1, z2⟩ := zup_h e1h
  have lots1 : (gHd_lots (gTr_hd T i) + lg.toInt32.toInt64).toInt = loI T i + lgi := i64_add (x := loI T i) rfl hl64 (by omega) (by omega)
  have s1 : boI T1 i = boI T i ∧ paI T1 i = paI T i ∧ inI T1 i = inI T i ∧ eeI T1 i = eeI T i ∧ loI T1 i = loI T i + lgi ∧ uO T1 i = uO T i ∧ uN T1 i = uN T i := by
    unfold boI paI inI eeI loI uO uN
    rw [z2]
    exact ⟨rfl, rfl, rfl, rfl, lots1, rfl, rfl⟩
  have hU1 : ∀ j, uO T1 j = uO T j ∧ uN T1 j = uN T j := fun j => by
    by_cases e : j = i
    · subst e; exact ⟨s1.2.2.2.2.2.1, s1.2.2.2.2.2.2⟩
    · exact (z1 j e).2
  have hu1 : uAll T1 = uAll T := isum_congr 6 (fun j _ => by show uO T1 j + uN T1 j = uO T j + uN T j; rw [(hU1 j).1, (hU1 j).2])
  have hH1 : iH T1 := ⟨fun j hj => by rw [(hU1 j).1, (hU1 j).2]; exact h.1.1.2.2.2.2.1 j hj, by rw [hu1]; exact u2⟩
  have hU1i : uU T1 i = uU T i := by show uO T1 i + uN T1 i = uO T i + uN T i; rw [(hU1 i).1, (hU1 i).2]
  have hcash1 : gTr_cash T1 = gTr_cash T := by rw [← hT1]
  have hev1 : evI T1 = evI T := by unfold evI; rw [← hT1]
  generalize f_X6_unitIncome T1 = ofu at ho ⊢
  obtain ⟨t1, t2, t3, t4, -⟩ := take_inv hH1 hi (un := (jI a).toInt64) (am := cg) (ofu := ofu) ⟨by omega, by omega⟩ ⟨by omega, by rw [hcash1]; show _ ≤ cI T; omega⟩
  obtain ⟨v1, v2, v3, v4, v5, v6, ⟨v7, v8⟩, v9⟩ := take_sp hH1 hi (un := (jI a).toInt64) (am := cg) (ofu := ofu) ⟨by omega, by omega⟩ ⟨by omega, by omega⟩ (by rw [s1.2.1]; exact ⟨by omega, by omega⟩) (by rw [hev1]; exact ⟨by omega, by omega⟩)
  have el : gTr_lots (f_X6_takeUnits T1 i (jI a).toInt64 cg ofu) = gTr_lots T - lg.toInt32 := by
    show gTr_lots T1 = _
    rw [← hT1]
  have eq' : gTr_quote (f_X6_takeUnits T1 i (jI a).toInt64 cg ofu) = gTr_quote T := by
    show gTr_quote T1 = _
    rw [← hT1]
  have ebu : gTr_bu (f_X6_takeUnits T1 i (jI a).toInt64 cg ofu) = gTr_bu T := by
    show gTr_bu T1 = _
    rw [← hT1]
  have ele : gTr_le (f_X6_takeUnits T1 i (jI a).toInt64 cg ofu) = gTr_le T := by
    show gTr_le T1 = _
    rw [← hT1]
  have edy : gTr_day (f_X6_takeUnits T1 i (jI a).toInt64 cg ofu) = gTr_day T := by
    show gTr_day T1 = _
    rw [← hT1]
  have hl' : lI (f_X6_takeUnits T1 i (jI a).toInt64 cg ofu) = lI T - lgi := by
    unfold lI
    rw [el]
    exact i32_sub (x := lI T) rfl hl32 (by omega) (by omega)
  have hc'' : cI (f_X6_takeUnits T1 i (jI a).toInt64 cg ofu) = cI T - cgi := by
    unfold cI
    rw [t4, hcash1, hcg]
  have hI := (opR_get ho (by show 0 ≤ lg.toInt32.toInt; omega)).1
  generalize hT2 : f_X6_takeUnits T1 i (jI a).toInt64 cg ofu = T2 at *
  have hI : Inv D T2 := hI
  have w : ∀ j, j < 6 → boI T2 j = boI T j ∧ inI T2 j = inI T j ∧ eeI T2 j = eeI T j := fun j hj => by
    by_cases e : j = i
    · subst e; exact ⟨v2.trans s1.1, v4.trans s1.2.2.1, v5.trans s1.2.2.2.1⟩
    · obtain ⟨x1, x2, x3, x4, x5⟩ := v1 j e
      obtain ⟨y1, y2, y3, y4, y5⟩ := (z1 j e).1
      exact ⟨x1.trans y1, x3.trans y3, x4.trans y4⟩
  have w2 : ∀ j, j ≠ i → paI T2 j = paI T j ∧ loI T2 j = loI T j := fun j e => by
    obtain ⟨x1, x2, x3, x4, x5⟩ := v1 j e
    obtain ⟨y1, y2, y3, y4, y5⟩ := (z1 j e).1
    exact ⟨x2.trans y2, x5.trans y5⟩
  have hpa : paI T2 i = paI T i + cgi := by rw [v3, s1.2.1, hcg]
  have hlo : loI T2 i = loI T i + lgi := by rw [v6, s1.2.2.2.2.1]
  obtain ⟨-, ⟨x1, x2, x3, x4, x5⟩, hD, hc0, -⟩ := h
  have sb : isum (boI T2) 6 = isum (boI T) 6 := isum_congr 6 (fun j hj => (w j hj).1)
  have si : isum (inI T2) 6 = isum (inI T) 6 := isum_congr 6 (fun j hj => (w j hj).2.1)
  have sp : isum (paI T2) 6 = isum (paI T) 6 + cgi := by
    rw [isum_upd (f := paI T) (g := paI T2) 6 i hi (fun j _ hj => (w2 j hj).1), hpa]; omega
  have hph : pPhi T2 + 5 * cgi ≤ pPhi T := by
    unfold pPhi gP
    rw [eq', ebu]
    have q3 : (20000 + 4 * (gTr_quote T).toInt) * (gTr_lots T2).toInt ≤ (20000 + 4 * (gTr_quote T).toInt) * (gTr_lots T).toInt := Int.mul_le_mul_of_nonneg_left (by show lI T2 ≤ lI T; omega) (by show 0 ≤ 20000 + 4 * qI T; omega)
    have q4 : (gTr_cash T2).toInt = (gTr_cash T).toInt - cgi := hc''
    omega
  refine ⟨hu0, T2, by rw [jI_is hl32], ⟨hI, ⟨fun j hj => ?_, ⟨v7, by rw [sb]; omega⟩, by rw [sb, ebu]; omega, by rw [sp, si]; omega, fun j hj => ?_, fun j hj => ?_⟩, hD, by omega, hc⟩, hpa, hlo, hc'', hl', by rw [t2, hU1i, eal], by rw [v9, (hU1 i).1, eal], m1, by omega, m4, by omega, k1, k2, k3, k4⟩
  · obtain ⟨g1, g2, g3, g4, g5, g6, g7⟩ := x1 j hj
    obtain ⟨w3, w4, w5⟩ := w j hj
    by_cases e : j = i
    · subst e
      rw [w3, w4, w5, hpa, hlo]
      exact ⟨g1, by omega, g3, g4, g5, by omega, by omega⟩
    · rw [w3, w4, w5, (w2 j e).1, (w2 j e).2]
      exact ⟨g1, g2, g3, g4, g5, g6, by omega⟩
  · unfold dI at x5 ⊢
    rw [edy, ebu]
    rw [ebu] at hj
    exact x5.1 j hj
  · rw [ele] at hj ⊢
    exact x5.2 j hj
end OP3
