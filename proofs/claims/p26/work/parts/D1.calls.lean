/-! the class's calls, as the law makes them: the caller's own arrays stand ahead of the class's blocks. Written by wip/p26/calls.py -/
/-- all cells of an object of the class, as blocks -/
abbrev LB (cy : Nat → ClassId) (x0 x1 x2 d0 d1 p0 p1 h0 h1 : Nat) (a b : Nat → Nat) (hs sl : Nat → Nat → Nat) (T U : zTr) (x : zDd) (z : zPd) (y : zHs) (s : zSl) : List va_W := [WX0 x0 x1 x2 a b d0 p0 h0, WT cy a T, WT cy b U, WD cy d0 d1 x, WP cy p0 p1 z, WHo cy h0 h1 hs (gHs_first y) (gHs_count y)] ++ (WHL cy hs (gHs_st y) ++ ([WX1 cy x1 sl] ++ (WSL cy sl (gSl_st s) ++ [WX2 cy x2 (gSl_sv s)])))
/-- what each call asks of the state -/
def LO (T : zTr) (z : zPd) (y : zHs) (s : zSl) : Prop := okT T ∧ (gHs_first y < 7 ∧ gHs_count y ≤ 6 ∧ ∀ i, i < 7 → oN (gHs_st y i)) ∧ (∀ i, i < 2 → oN (gSl_st s i)) ∧ (gPd_n z ≤ 80 ∧ ∀ i, zch (gPd_sg z i))
section LC
variable {E : zE} {cc : ByteArray} {nL : Nat} {R : Room} {cy : Nat → ClassId} {l : Launch} {D : va_G} {k n : Nat} {pc : Nat} {L : List (Nat × Value)} {st : List Value} {x0 x1 x2 d0 d1 p0 p1 h0 h1 : Nat} {a b : Nat → Nat} {hs sl : Nat → Nat → Nat} {T U : zTr} {x : zDd} {z : zPd} {y : zHs} {s : zSl}
set_option maxHeartbeats 4000000 in
set_option maxRecDepth 100000 in
theorem lc_set (C : zO E cc nL "SwingUnitsLaw" R cy l D) (hkn : k ≤ R.cells ∧ n ≤ R.slots) (hR : 8 ≤ R.frames ∧ 192 ≤ R.locals) (hO : LO T z y s) (X : List va_W) (se : Int32) (v : Int32)  (hroom : (st.map fun v => v.category).sum ≤ 8) (d : decode cc pc = .ok (.invokevirtual 26, 3)) (kk : ∀ (r : Int32) (T' : zTr) (y' : zHs), f_X7_set T y se v = (r, T', y') → zJ E nL k n (X ++ LB cy x0 x1 x2 d0 d1 p0 p1 h0 h1 a b hs sl T' U x z y' s).flatten (pc + 3) L (.int r :: st)) : zJ E nL k n (X ++ LB cy x0 x1 x2 d0 d1 p0 p1 h0 h1 a b hs sl T U x z y s).flatten pc L (.int v :: .int se :: .ref x0 :: st) := by
  obtain ⟨⟨tb, tl, tvb, tvl⟩, ⟨yf, yc, yN⟩, sN, zn, zs⟩ := hO
  have M := c_X7_set l D cy x0 x1 x2 d0 d1 p0 p1 h0 h1 a b hs sl se v T y yf yc tb tl
  generalize hK : f_X7_set T y se v = K at M
  obtain ⟨r, T', y'⟩ := K
  refine zj_callVFk C hkn (nn := 147) (Bs := LB cy x0 x1 x2 d0 d1 p0 p1 h0 h1 a b hs sl T U x z y s) (Bs' := LB cy x0 x1 x2 d0 d1 p0 p1 h0 h1 a b hs sl T' U x z y' s) (st := st) (st1 := .int r :: st) X (([WX0 x0 x1 x2 a b d0 p0 h0, WT cy a T, WHo cy h0 h1 hs (gHs_first y) (gHs_count y)] : List va_W) ++ WHL cy hs (gHs_st y)) (([WX0 x0 x1 x2 a b d0 p0 h0, WT cy a T', WHo cy h0 h1 hs (gHs_first y') (gHs_count y')] : List va_W) ++ WHL cy hs (gHs_st y')) [0, 1, 5, 6, 7, 8, 9, 10, 11, 12] 0 7 M rfl rfl (zg_V tg_303 tgv_299 tg_301 tg_302 tg_1) ⟨rfl, hdZ_X7_set⟩ ⟨rfl, rfl⟩ ⟨Nat.le_trans (Nat.le_of_ble_eq_true rfl) hR.1, Nat.le_trans (Nat.le_of_ble_eq_true rfl) hR.2⟩ rfl rfl rfl (by decide) ⟨rfl, rfl⟩ rfl rfl rfl hroom d rfl rfl ?_
  exact kk r T' y' hK
set_option maxHeartbeats 4000000 in
set_option maxRecDepth 100000 in
theorem lc_buy (C : zO E cc nL "SwingUnitsLaw" R cy l D) (hkn : k ≤ R.cells ∧ n ≤ R.slots) (hR : 8 ≤ R.frames ∧ 192 ≤ R.locals) (hO : LO T z y s) (X : List va_W) (h : Int32) (am : Int32) (hour : Int32)  (hroom : (st.map fun v => v.category).sum ≤ 8) (d : decode cc pc = .ok (.invokevirtual 70, 3)) (kk : ∀ (r : Int32) (T' : zTr) (y' : zHs), f_X7_buy T y h am hour = (r, T', y') → zJ E nL k n (X ++ LB cy x0 x1 x2 d0 d1 p0 p1 h0 h1 a b hs sl T' U x z y' s).flatten (pc + 3) L (.int r :: st)) : zJ E nL k n (X ++ LB cy x0 x1 x2 d0 d1 p0 p1 h0 h1 a b hs sl T U x z y s).flatten pc L (.int hour :: .int am :: .int h :: .ref x0 :: st) := by
  obtain ⟨⟨tb, tl, tvb, tvl⟩, ⟨yf, yc, yN⟩, sN, zn, zs⟩ := hO
  have M := c_X7_buy l D cy x0 x1 x2 d0 d1 p0 p1 h0 h1 a b hs sl h am hour T y yf yc tb tl
  generalize hK : f_X7_buy T y h am hour = K at M
  obtain ⟨r, T', y'⟩ := K
  refine zj_callVFk C hkn (nn := 147) (Bs := LB cy x0 x1 x2 d0 d1 p0 p1 h0 h1 a b hs sl T U x z y s) (Bs' := LB cy x0 x1 x2 d0 d1 p0 p1 h0 h1 a b hs sl T' U x z y' s) (st := st) (st1 := .int r :: st) X (([WX0 x0 x1 x2 a b d0 p0 h0, WT cy a T, WHo cy h0 h1 hs (gHs_first y) (gHs_count y)] : List va_W) ++ WHL cy hs (gHs_st y)) (([WX0 x0 x1 x2 a b d0 p0 h0, WT cy a T', WHo cy h0 h1 hs (gHs_first y') (gHs_count y')] : List va_W) ++ WHL cy hs (gHs_st y')) [0, 1, 5, 6, 7, 8, 9, 10, 11, 12] 0 7 M rfl rfl (zg_V tg_341 tgv_373 tg_339 tg_340 tg_1) ⟨rfl, hdZ_X7_buy⟩ ⟨rfl, rfl⟩ ⟨Nat.le_trans (Nat.le_of_ble_eq_true rfl) hR.1, Nat.le_trans (Nat.le_of_ble_eq_true rfl) hR.2⟩ rfl rfl rfl (by decide) ⟨rfl, rfl⟩ rfl rfl rfl hroom d rfl rfl ?_
  exact kk r T' y' hK
set_option maxHeartbeats 4000000 in
set_option maxRecDepth 100000 in
theorem lc_leave (C : zO E cc nL "SwingUnitsLaw" R cy l D) (hkn : k ≤ R.cells ∧ n ≤ R.slots) (hR : 8 ≤ R.frames ∧ 192 ≤ R.locals) (hO : LO T z y s) (X : List va_W) (h : Int32) (un : Int32) (hour : Int32)  (hroom : (st.map fun v => v.category).sum ≤ 8) (d : decode cc pc = .ok (.invokevirtual 81, 3)) (kk : ∀ (r : Int32) (T' : zTr) (y' : zHs), f_X7_leave T y h un hour = (r, T', y') → zJ E nL k n (X ++ LB cy x0 x1 x2 d0 d1 p0 p1 h0 h1 a b hs sl T' U x z y' s).flatten (pc + 3) L (.int r :: st)) : zJ E nL k n (X ++ LB cy x0 x1 x2 d0 d1 p0 p1 h0 h1 a b hs sl T U x z y s).flatten pc L (.int hour :: .int un :: .int h :: .ref x0 :: st) := by
  obtain ⟨⟨tb, tl, tvb, tvl⟩, ⟨yf, yc, yN⟩, sN, zn, zs⟩ := hO
  have M := c_X7_leave l D cy x0 x1 x2 d0 d1 p0 p1 h0 h1 a b hs sl h un hour T y yf yc tb tl
  generalize hK : f_X7_leave T y h un hour = K at M
  obtain ⟨r, T', y'⟩ := K
  refine zj_callVFk C hkn (nn := 147) (Bs := LB cy x0 x1 x2 d0 d1 p0 p1 h0 h1 a b hs sl T U x z y s) (Bs' := LB cy x0 x1 x2 d0 d1 p0 p1 h0 h1 a b hs sl T' U x z y' s) (st := st) (st1 := .int r :: st) X (([WX0 x0 x1 x2 a b d0 p0 h0, WT cy a T, WHo cy h0 h1 hs (gHs_first y) (gHs_count y)] : List va_W) ++ WHL cy hs (gHs_st y)) (([WX0 x0 x1 x2 a b d0 p0 h0, WT cy a T', WHo cy h0 h1 hs (gHs_first y') (gHs_count y')] : List va_W) ++ WHL cy hs (gHs_st y')) [0, 1, 5, 6, 7, 8, 9, 10, 11, 12] 0 7 M rfl rfl (zg_V tg_369 tgv_421 tg_367 tg_368 tg_1) ⟨rfl, hdZ_X7_leave⟩ ⟨rfl, rfl⟩ ⟨Nat.le_trans (Nat.le_of_ble_eq_true rfl) hR.1, Nat.le_trans (Nat.le_of_ble_eq_true rfl) hR.2⟩ rfl rfl rfl (by decide) ⟨rfl, rfl⟩ rfl rfl rfl hroom d rfl rfl ?_
  exact kk r T' y' hK
set_option maxHeartbeats 4000000 in
set_option maxRecDepth 100000 in
theorem lc_inKind (C : zO E cc nL "SwingUnitsLaw" R cy l D) (hkn : k ≤ R.cells ∧ n ≤ R.slots) (hR : 8 ≤ R.frames ∧ 192 ≤ R.locals) (hO : LO T z y s) (X : List va_W) (h : Int32) (un : Int32)  (hroom : (st.map fun v => v.category).sum ≤ 8) (d : decode cc pc = .ok (.invokevirtual 84, 3)) (kk : ∀ (r : Int32) (T' : zTr) (y' : zHs), f_X7_inKind T y h un = (r, T', y') → zJ E nL k n (X ++ LB cy x0 x1 x2 d0 d1 p0 p1 h0 h1 a b hs sl T' U x z y' s).flatten (pc + 3) L (.int r :: st)) : zJ E nL k n (X ++ LB cy x0 x1 x2 d0 d1 p0 p1 h0 h1 a b hs sl T U x z y s).flatten pc L (.int un :: .int h :: .ref x0 :: st) := by
  obtain ⟨⟨tb, tl, tvb, tvl⟩, ⟨yf, yc, yN⟩, sN, zn, zs⟩ := hO
  have M := c_X7_inKind l D cy x0 x1 x2 d0 d1 p0 p1 h0 h1 a b hs sl h un T y yf yc tb tl
  generalize hK : f_X7_inKind T y h un = K at M
  obtain ⟨r, T', y'⟩ := K
  refine zj_callVFk C hkn (nn := 147) (Bs := LB cy x0 x1 x2 d0 d1 p0 p1 h0 h1 a b hs sl T U x z y s) (Bs' := LB cy x0 x1 x2 d0 d1 p0 p1 h0 h1 a b hs sl T' U x z y' s) (st := st) (st1 := .int r :: st) X (([WX0 x0 x1 x2 a b d0 p0 h0, WT cy a T, WHo cy h0 h1 hs (gHs_first y) (gHs_count y)] : List va_W) ++ WHL cy hs (gHs_st y)) (([WX0 x0 x1 x2 a b d0 p0 h0, WT cy a T', WHo cy h0 h1 hs (gHs_first y') (gHs_count y')] : List va_W) ++ WHL cy hs (gHs_st y')) [0, 1, 5, 6, 7, 8, 9, 10, 11, 12] 0 7 M rfl rfl (zg_V tg_389 tgv_434 tg_387 tg_388 tg_1) ⟨rfl, hdZ_X7_inKind⟩ ⟨rfl, rfl⟩ ⟨Nat.le_trans (Nat.le_of_ble_eq_true rfl) hR.1, Nat.le_trans (Nat.le_of_ble_eq_true rfl) hR.2⟩ rfl rfl rfl (by decide) ⟨rfl, rfl⟩ rfl rfl rfl hroom d rfl rfl ?_
  exact kk r T' y' hK
set_option maxHeartbeats 4000000 in
set_option maxRecDepth 100000 in
theorem lc_endDay (C : zO E cc nL "SwingUnitsLaw" R cy l D) (hkn : k ≤ R.cells ∧ n ≤ R.slots) (hR : 8 ≤ R.frames ∧ 192 ≤ R.locals) (hO : LO T z y s) (X : List va_W)   (hroom : (st.map fun v => v.category).sum ≤ 8) (d : decode cc pc = .ok (.invokevirtual 117, 3)) (kk : ∀ (r : Int32) (T' : zTr) (x' : zDd) (y' : zHs), f_X7_endDay T x y = (r, T', x', y') → zJ E nL k n (X ++ LB cy x0 x1 x2 d0 d1 p0 p1 h0 h1 a b hs sl T' U x' z y' s).flatten (pc + 3) L (.int r :: st)) : zJ E nL k n (X ++ LB cy x0 x1 x2 d0 d1 p0 p1 h0 h1 a b hs sl T U x z y s).flatten pc L (.ref x0 :: st) := by
  obtain ⟨⟨tb, tl, tvb, tvl⟩, ⟨yf, yc, yN⟩, sN, zn, zs⟩ := hO
  have M := c_X7_endDay l D cy x0 x1 x2 d0 d1 p0 p1 h0 h1 a b hs sl T x y yf yc tb tl tvb tvl
  generalize hK : f_X7_endDay T x y = K at M
  obtain ⟨r, T', x', y'⟩ := K
  refine zj_callVFk C hkn (nn := 149) (Bs := LB cy x0 x1 x2 d0 d1 p0 p1 h0 h1 a b hs sl T U x z y s) (Bs' := LB cy x0 x1 x2 d0 d1 p0 p1 h0 h1 a b hs sl T' U x' z y' s) (st := st) (st1 := .int r :: st) X (([WX0 x0 x1 x2 a b d0 p0 h0, WT cy a T, WD cy d0 d1 x, WHo cy h0 h1 hs (gHs_first y) (gHs_count y)] : List va_W) ++ WHL cy hs (gHs_st y)) (([WX0 x0 x1 x2 a b d0 p0 h0, WT cy a T', WD cy d0 d1 x', WHo cy h0 h1 hs (gHs_first y') (gHs_count y')] : List va_W) ++ WHL cy hs (gHs_st y')) [0, 1, 3, 5, 6, 7, 8, 9, 10, 11, 12] 0 7 M rfl rfl (zg_V tg_420 tgv_525 tg_418 tg_419 tg_1) ⟨rfl, hdZ_X7_endDay⟩ ⟨rfl, rfl⟩ ⟨Nat.le_trans (Nat.le_of_ble_eq_true rfl) hR.1, Nat.le_trans (Nat.le_of_ble_eq_true rfl) hR.2⟩ rfl rfl rfl (by decide) ⟨rfl, rfl⟩ rfl rfl rfl hroom d rfl rfl ?_
  exact kk r T' x' y' hK
set_option maxHeartbeats 4000000 in
set_option maxRecDepth 100000 in
theorem lc_quote (C : zO E cc nL "SwingUnitsLaw" R cy l D) (hkn : k ≤ R.cells ∧ n ≤ R.slots) (hR : 8 ≤ R.frames ∧ 192 ≤ R.locals) (hO : LO T z y s) (X : List va_W) (q : Int32)  (hroom : (st.map fun v => v.category).sum ≤ 8) (d : decode cc pc = .ok (.invokevirtual 87, 3)) (kk : ∀ (r : Int32) (T' : zTr) (y' : zHs), f_X7_quote T y q = (r, T', y') → zJ E nL k n (X ++ LB cy x0 x1 x2 d0 d1 p0 p1 h0 h1 a b hs sl T' U x z y' s).flatten (pc + 3) L (.int r :: st)) : zJ E nL k n (X ++ LB cy x0 x1 x2 d0 d1 p0 p1 h0 h1 a b hs sl T U x z y s).flatten pc L (.int q :: .ref x0 :: st) := by
  obtain ⟨⟨tb, tl, tvb, tvl⟩, ⟨yf, yc, yN⟩, sN, zn, zs⟩ := hO
  have M := c_X7_quote l D cy x0 x1 x2 d0 d1 p0 p1 h0 h1 a b hs sl q T y yf yc tb tl
  generalize hK : f_X7_quote T y q = K at M
  obtain ⟨r, T', y'⟩ := K
  refine zj_callVFk C hkn (nn := 147) (Bs := LB cy x0 x1 x2 d0 d1 p0 p1 h0 h1 a b hs sl T U x z y s) (Bs' := LB cy x0 x1 x2 d0 d1 p0 p1 h0 h1 a b hs sl T' U x z y' s) (st := st) (st1 := .int r :: st) X (([WX0 x0 x1 x2 a b d0 p0 h0, WT cy a T, WHo cy h0 h1 hs (gHs_first y) (gHs_count y)] : List va_W) ++ WHL cy hs (gHs_st y)) (([WX0 x0 x1 x2 a b d0 p0 h0, WT cy a T', WHo cy h0 h1 hs (gHs_first y') (gHs_count y')] : List va_W) ++ WHL cy hs (gHs_st y')) [0, 1, 5, 6, 7, 8, 9, 10, 11, 12] 0 7 M rfl rfl (zg_V tg_500 tgv_459 tg_498 tg_499 tg_1) ⟨rfl, hdZ_X7_quote⟩ ⟨rfl, rfl⟩ ⟨Nat.le_trans (Nat.le_of_ble_eq_true rfl) hR.1, Nat.le_trans (Nat.le_of_ble_eq_true rfl) hR.2⟩ rfl rfl rfl (by decide) ⟨rfl, rfl⟩ rfl rfl rfl hroom d rfl rfl ?_
  exact kk r T' y' hK
set_option maxHeartbeats 4000000 in
set_option maxRecDepth 100000 in
theorem lc_trade (C : zO E cc nL "SwingUnitsLaw" R cy l D) (hkn : k ≤ R.cells ∧ n ≤ R.slots) (hR : 8 ≤ R.frames ∧ 192 ≤ R.locals) (hO : LO T z y s) (X : List va_W) (q : Int32)  (hroom : (st.map fun v => v.category).sum ≤ 8) (d : decode cc pc = .ok (.invokevirtual 94, 3)) (kk : ∀ (r : Int32) (T' : zTr) (y' : zHs), f_X7_trade T y q = (r, T', y') → zJ E nL k n (X ++ LB cy x0 x1 x2 d0 d1 p0 p1 h0 h1 a b hs sl T' U x z y' s).flatten (pc + 3) L (.int r :: st)) : zJ E nL k n (X ++ LB cy x0 x1 x2 d0 d1 p0 p1 h0 h1 a b hs sl T U x z y s).flatten pc L (.int q :: .ref x0 :: st) := by
  obtain ⟨⟨tb, tl, tvb, tvl⟩, ⟨yf, yc, yN⟩, sN, zn, zs⟩ := hO
  have M := c_X7_trade l D cy x0 x1 x2 d0 d1 p0 p1 h0 h1 a b hs sl q T y yf yc tb tl
  generalize hK : f_X7_trade T y q = K at M
  obtain ⟨r, T', y'⟩ := K
  refine zj_callVFk C hkn (nn := 147) (Bs := LB cy x0 x1 x2 d0 d1 p0 p1 h0 h1 a b hs sl T U x z y s) (Bs' := LB cy x0 x1 x2 d0 d1 p0 p1 h0 h1 a b hs sl T' U x z y' s) (st := st) (st1 := .int r :: st) X (([WX0 x0 x1 x2 a b d0 p0 h0, WT cy a T, WHo cy h0 h1 hs (gHs_first y) (gHs_count y)] : List va_W) ++ WHL cy hs (gHs_st y)) (([WX0 x0 x1 x2 a b d0 p0 h0, WT cy a T', WHo cy h0 h1 hs (gHs_first y') (gHs_count y')] : List va_W) ++ WHL cy hs (gHs_st y')) [0, 1, 5, 6, 7, 8, 9, 10, 11, 12] 0 7 M rfl rfl (zg_V tg_508 tgv_472 tg_506 tg_507 tg_1) ⟨rfl, hdZ_X7_trade⟩ ⟨rfl, rfl⟩ ⟨Nat.le_trans (Nat.le_of_ble_eq_true rfl) hR.1, Nat.le_trans (Nat.le_of_ble_eq_true rfl) hR.2⟩ rfl rfl rfl (by decide) ⟨rfl, rfl⟩ rfl rfl rfl hroom d rfl rfl ?_
  exact kk r T' y' hK
set_option maxHeartbeats 4000000 in
set_option maxRecDepth 100000 in
theorem lc_income (C : zO E cc nL "SwingUnitsLaw" R cy l D) (hkn : k ≤ R.cells ∧ n ≤ R.slots) (hR : 8 ≤ R.frames ∧ 192 ≤ R.locals) (hO : LO T z y s) (X : List va_W) (q : Int32)  (hroom : (st.map fun v => v.category).sum ≤ 8) (d : decode cc pc = .ok (.invokevirtual 100, 3)) (kk : ∀ (r : Int32) (T' : zTr) (y' : zHs), f_X7_income T y q = (r, T', y') → zJ E nL k n (X ++ LB cy x0 x1 x2 d0 d1 p0 p1 h0 h1 a b hs sl T' U x z y' s).flatten (pc + 3) L (.int r :: st)) : zJ E nL k n (X ++ LB cy x0 x1 x2 d0 d1 p0 p1 h0 h1 a b hs sl T U x z y s).flatten pc L (.int q :: .ref x0 :: st) := by
  obtain ⟨⟨tb, tl, tvb, tvl⟩, ⟨yf, yc, yN⟩, sN, zn, zs⟩ := hO
  have M := c_X7_income l D cy x0 x1 x2 d0 d1 p0 p1 h0 h1 a b hs sl q T y yf yc tb tl
  generalize hK : f_X7_income T y q = K at M
  obtain ⟨r, T', y'⟩ := K
  refine zj_callVFk C hkn (nn := 147) (Bs := LB cy x0 x1 x2 d0 d1 p0 p1 h0 h1 a b hs sl T U x z y s) (Bs' := LB cy x0 x1 x2 d0 d1 p0 p1 h0 h1 a b hs sl T' U x z y' s) (st := st) (st1 := .int r :: st) X (([WX0 x0 x1 x2 a b d0 p0 h0, WT cy a T, WHo cy h0 h1 hs (gHs_first y) (gHs_count y)] : List va_W) ++ WHL cy hs (gHs_st y)) (([WX0 x0 x1 x2 a b d0 p0 h0, WT cy a T', WHo cy h0 h1 hs (gHs_first y') (gHs_count y')] : List va_W) ++ WHL cy hs (gHs_st y')) [0, 1, 5, 6, 7, 8, 9, 10, 11, 12] 0 7 M rfl rfl (zg_V tg_516 tgv_575 tg_514 tg_515 tg_1) ⟨rfl, hdZ_X7_income⟩ ⟨rfl, rfl⟩ ⟨Nat.le_trans (Nat.le_of_ble_eq_true rfl) hR.1, Nat.le_trans (Nat.le_of_ble_eq_true rfl) hR.2⟩ rfl rfl rfl (by decide) ⟨rfl, rfl⟩ rfl rfl rfl hroom d rfl rfl ?_
  exact kk r T' y' hK
set_option maxHeartbeats 4000000 in
set_option maxRecDepth 100000 in
theorem lc_pay (C : zO E cc nL "SwingUnitsLaw" R cy l D) (hkn : k ≤ R.cells ∧ n ≤ R.slots) (hR : 8 ≤ R.frames ∧ 192 ≤ R.locals) (hO : LO T z y s) (X : List va_W)   (hroom : (st.map fun v => v.category).sum ≤ 8) (d : decode cc pc = .ok (.invokevirtual 110, 3)) (kk : ∀ (r : Int32) (T' : zTr) (y' : zHs), f_X7_pay T y = (r, T', y') → zJ E nL k n (X ++ LB cy x0 x1 x2 d0 d1 p0 p1 h0 h1 a b hs sl T' U x z y' s).flatten (pc + 3) L (.int r :: st)) : zJ E nL k n (X ++ LB cy x0 x1 x2 d0 d1 p0 p1 h0 h1 a b hs sl T U x z y s).flatten pc L (.ref x0 :: st) := by
  obtain ⟨⟨tb, tl, tvb, tvl⟩, ⟨yf, yc, yN⟩, sN, zn, zs⟩ := hO
  have M := c_X7_pay l D cy x0 x1 x2 d0 d1 p0 p1 h0 h1 a b hs sl T y yf yc tb tl
  generalize hK : f_X7_pay T y = K at M
  obtain ⟨r, T', y'⟩ := K
  refine zj_callVFk C hkn (nn := 147) (Bs := LB cy x0 x1 x2 d0 d1 p0 p1 h0 h1 a b hs sl T U x z y s) (Bs' := LB cy x0 x1 x2 d0 d1 p0 p1 h0 h1 a b hs sl T' U x z y' s) (st := st) (st1 := .int r :: st) X (([WX0 x0 x1 x2 a b d0 p0 h0, WT cy a T, WHo cy h0 h1 hs (gHs_first y) (gHs_count y)] : List va_W) ++ WHL cy hs (gHs_st y)) (([WX0 x0 x1 x2 a b d0 p0 h0, WT cy a T', WHo cy h0 h1 hs (gHs_first y') (gHs_count y')] : List va_W) ++ WHL cy hs (gHs_st y')) [0, 1, 5, 6, 7, 8, 9, 10, 11, 12] 0 7 M rfl rfl (zg_V tg_524 tgv_586 tg_522 tg_523 tg_1) ⟨rfl, hdZ_X7_pay⟩ ⟨rfl, rfl⟩ ⟨Nat.le_trans (Nat.le_of_ble_eq_true rfl) hR.1, Nat.le_trans (Nat.le_of_ble_eq_true rfl) hR.2⟩ rfl rfl rfl (by decide) ⟨rfl, rfl⟩ rfl rfl rfl hroom d rfl rfl ?_
  exact kk r T' y' hK
set_option maxHeartbeats 4000000 in
set_option maxRecDepth 100000 in
theorem lc_ofHolder (C : zO E cc nL "SwingUnitsLaw" R cy l D) (hkn : k ≤ R.cells ∧ n ≤ R.slots) (hR : 8 ≤ R.frames ∧ 192 ≤ R.locals) (hO : LO T z y s) (X : List va_W) (h : Int32) (wh : Int32)  {v : Int32} (hroom : (st.map fun v => v.category).sum ≤ 8) (d : decode cc pc = .ok (.invokevirtual 47, 3)) (hv : f_X7_ofHolder T h wh = v) (kk : zJ E nL k n (X ++ LB cy x0 x1 x2 d0 d1 p0 p1 h0 h1 a b hs sl T U x z y s).flatten (pc + 3) L (.int v :: st)) : zJ E nL k n (X ++ LB cy x0 x1 x2 d0 d1 p0 p1 h0 h1 a b hs sl T U x z y s).flatten pc L (.int wh :: .int h :: .ref x0 :: st) := by
  obtain ⟨⟨tb, tl, tvb, tvl⟩, ⟨yf, yc, yN⟩, sN, zn, zs⟩ := hO
  have M := c_X7_ofHolder l D cy x0 x1 x2 d0 d1 p0 p1 h0 h1 a b hs sl h wh T tl
  rw [hv] at M
  refine zj_callVFk C hkn (nn := 19) (Bs := LB cy x0 x1 x2 d0 d1 p0 p1 h0 h1 a b hs sl T U x z y s) (Bs' := LB cy x0 x1 x2 d0 d1 p0 p1 h0 h1 a b hs sl T U x z y s) (st := st) (st1 := .int v :: st) X ([WX0 x0 x1 x2 a b d0 p0 h0, WT cy a T] : List va_W) ([WX0 x0 x1 x2 a b d0 p0 h0, WT cy a T] : List va_W) [0, 1] 0 7 M rfl rfl (zg_V tg_532 tgv_411 tg_530 tg_531 tg_1) ⟨rfl, hdZ_X7_ofHolder⟩ ⟨rfl, rfl⟩ ⟨Nat.le_trans (Nat.le_of_ble_eq_true rfl) hR.1, Nat.le_trans (Nat.le_of_ble_eq_true rfl) hR.2⟩ rfl rfl rfl (by decide) ⟨rfl, rfl⟩ rfl rfl rfl hroom d rfl rfl ?_
  exact kk
set_option maxHeartbeats 4000000 in
set_option maxRecDepth 100000 in
theorem lc_count (C : zO E cc nL "SwingUnitsLaw" R cy l D) (hkn : k ≤ R.cells ∧ n ≤ R.slots) (hR : 8 ≤ R.frames ∧ 192 ≤ R.locals) (hO : LO T z y s) (X : List va_W) (wh : Int32)  {v : Int32} (hroom : (st.map fun v => v.category).sum ≤ 8) (d : decode cc pc = .ok (.invokevirtual 50, 3)) (hv : f_X7_count T z y wh = v) (kk : zJ E nL k n (X ++ LB cy x0 x1 x2 d0 d1 p0 p1 h0 h1 a b hs sl T U x z y s).flatten (pc + 3) L (.int v :: st)) : zJ E nL k n (X ++ LB cy x0 x1 x2 d0 d1 p0 p1 h0 h1 a b hs sl T U x z y s).flatten pc L (.int wh :: .ref x0 :: st) := by
  obtain ⟨⟨tb, tl, tvb, tvl⟩, ⟨yf, yc, yN⟩, sN, zn, zs⟩ := hO
  have M := c_X7_count l D cy x0 x1 x2 d0 d1 p0 p1 h0 h1 a b hs sl wh T z y tl
  rw [hv] at M
  refine zj_callVFk C hkn (nn := 23) (Bs := LB cy x0 x1 x2 d0 d1 p0 p1 h0 h1 a b hs sl T U x z y s) (Bs' := LB cy x0 x1 x2 d0 d1 p0 p1 h0 h1 a b hs sl T U x z y s) (st := st) (st1 := .int v :: st) X ([WX0 x0 x1 x2 a b d0 p0 h0, WT cy a T, WP cy p0 p1 z, WHo cy h0 h1 hs (gHs_first y) (gHs_count y)] : List va_W) ([WX0 x0 x1 x2 a b d0 p0 h0, WT cy a T, WP cy p0 p1 z, WHo cy h0 h1 hs (gHs_first y) (gHs_count y)] : List va_W) [0, 1, 4, 5] 0 7 M rfl rfl (zg_V tg_539 tgv_348 tg_537 tg_538 tg_1) ⟨rfl, hdZ_X7_count⟩ ⟨rfl, rfl⟩ ⟨Nat.le_trans (Nat.le_of_ble_eq_true rfl) hR.1, Nat.le_trans (Nat.le_of_ble_eq_true rfl) hR.2⟩ rfl rfl rfl (by decide) ⟨rfl, rfl⟩ rfl rfl rfl hroom d rfl rfl ?_
  exact kk
set_option maxHeartbeats 4000000 in
set_option maxRecDepth 100000 in
theorem lc_order (C : zO E cc nL "SwingUnitsLaw" R cy l D) (hkn : k ≤ R.cells ∧ n ≤ R.slots) (hR : 8 ≤ R.frames ∧ 192 ≤ R.locals) (hO : LO T z y s) (X : List va_W) (kd : Int32) (o : Int32) (wh : Int32)  {v : Int32} (hroom : (st.map fun v => v.category).sum ≤ 8) (d : decode cc pc = .ok (.invokevirtual 54, 3)) (hv : f_X7_order T kd o wh = v) (kk : zJ E nL k n (X ++ LB cy x0 x1 x2 d0 d1 p0 p1 h0 h1 a b hs sl T U x z y s).flatten (pc + 3) L (.int v :: st)) : zJ E nL k n (X ++ LB cy x0 x1 x2 d0 d1 p0 p1 h0 h1 a b hs sl T U x z y s).flatten pc L (.int wh :: .int o :: .int kd :: .ref x0 :: st) := by
  obtain ⟨⟨tb, tl, tvb, tvl⟩, ⟨yf, yc, yN⟩, sN, zn, zs⟩ := hO
  have M := c_X7_order l D cy x0 x1 x2 d0 d1 p0 p1 h0 h1 a b hs sl kd o wh T tb tl
  rw [hv] at M
  refine zj_callVFk C hkn (nn := 19) (Bs := LB cy x0 x1 x2 d0 d1 p0 p1 h0 h1 a b hs sl T U x z y s) (Bs' := LB cy x0 x1 x2 d0 d1 p0 p1 h0 h1 a b hs sl T U x z y s) (st := st) (st1 := .int v :: st) X ([WX0 x0 x1 x2 a b d0 p0 h0, WT cy a T] : List va_W) ([WX0 x0 x1 x2 a b d0 p0 h0, WT cy a T] : List va_W) [0, 1] 0 7 M rfl rfl (zg_V tg_547 tgv_404 tg_545 tg_546 tg_1) ⟨rfl, hdZ_X7_order⟩ ⟨rfl, rfl⟩ ⟨Nat.le_trans (Nat.le_of_ble_eq_true rfl) hR.1, Nat.le_trans (Nat.le_of_ble_eq_true rfl) hR.2⟩ rfl rfl rfl (by decide) ⟨rfl, rfl⟩ rfl rfl rfl hroom d rfl rfl ?_
  exact kk
set_option maxHeartbeats 4000000 in
set_option maxRecDepth 100000 in
theorem lc_lastDay (C : zO E cc nL "SwingUnitsLaw" R cy l D) (hkn : k ≤ R.cells ∧ n ≤ R.slots) (hR : 8 ≤ R.frames ∧ 192 ≤ R.locals) (hO : LO T z y s) (X : List va_W) (wh : Int32)  {v : Int32} (hroom : (st.map fun v => v.category).sum ≤ 8) (d : decode cc pc = .ok (.invokevirtual 58, 3)) (hv : f_X7_lastDay T wh = v) (kk : zJ E nL k n (X ++ LB cy x0 x1 x2 d0 d1 p0 p1 h0 h1 a b hs sl T U x z y s).flatten (pc + 3) L (.int v :: st)) : zJ E nL k n (X ++ LB cy x0 x1 x2 d0 d1 p0 p1 h0 h1 a b hs sl T U x z y s).flatten pc L (.int wh :: .ref x0 :: st) := by
  obtain ⟨⟨tb, tl, tvb, tvl⟩, ⟨yf, yc, yN⟩, sN, zn, zs⟩ := hO
  have M := c_X7_lastDay l D cy x0 x1 x2 d0 d1 p0 p1 h0 h1 a b hs sl wh T
  rw [hv] at M
  refine zj_callVFk C hkn (nn := 19) (Bs := LB cy x0 x1 x2 d0 d1 p0 p1 h0 h1 a b hs sl T U x z y s) (Bs' := LB cy x0 x1 x2 d0 d1 p0 p1 h0 h1 a b hs sl T U x z y s) (st := st) (st1 := .int v :: st) X ([WX0 x0 x1 x2 a b d0 p0 h0, WT cy a T] : List va_W) ([WX0 x0 x1 x2 a b d0 p0 h0, WT cy a T] : List va_W) [0, 1] 0 7 M rfl rfl (zg_V tg_551 tgv_571 tg_549 tg_550 tg_1) ⟨rfl, hdZ_X7_lastDay⟩ ⟨rfl, rfl⟩ ⟨Nat.le_trans (Nat.le_of_ble_eq_true rfl) hR.1, Nat.le_trans (Nat.le_of_ble_eq_true rfl) hR.2⟩ rfl rfl rfl (by decide) ⟨rfl, rfl⟩ rfl rfl rfl hroom d rfl rfl ?_
  exact kk
set_option maxHeartbeats 4000000 in
set_option maxRecDepth 100000 in
theorem lc_price (C : zO E cc nL "SwingUnitsLaw" R cy l D) (hkn : k ≤ R.cells ∧ n ≤ R.slots) (hR : 8 ≤ R.frames ∧ 192 ≤ R.locals) (hO : LO T z y s) (X : List va_W) (wh : Int32)  (hroom : (st.map fun v => v.category).sum ≤ 8) (d : decode cc pc = .ok (.invokevirtual 61, 3)) (kk : ∀ (r : Int64) (x' : zDd), f_X7_price T x wh = (r, x') → zJ E nL k n (X ++ LB cy x0 x1 x2 d0 d1 p0 p1 h0 h1 a b hs sl T U x' z y s).flatten (pc + 3) L (.long r :: st)) : zJ E nL k n (X ++ LB cy x0 x1 x2 d0 d1 p0 p1 h0 h1 a b hs sl T U x z y s).flatten pc L (.int wh :: .ref x0 :: st) := by
  obtain ⟨⟨tb, tl, tvb, tvl⟩, ⟨yf, yc, yN⟩, sN, zn, zs⟩ := hO
  have M := c_X7_price l D cy x0 x1 x2 d0 d1 p0 p1 h0 h1 a b hs sl wh T x tb tl
  generalize hK : f_X7_price T x wh = K at M
  obtain ⟨r, x'⟩ := K
  refine zj_callVFk C hkn (nn := 21) (Bs := LB cy x0 x1 x2 d0 d1 p0 p1 h0 h1 a b hs sl T U x z y s) (Bs' := LB cy x0 x1 x2 d0 d1 p0 p1 h0 h1 a b hs sl T U x' z y s) (st := st) (st1 := .long r :: st) X ([WX0 x0 x1 x2 a b d0 p0 h0, WT cy a T, WD cy d0 d1 x] : List va_W) ([WX0 x0 x1 x2 a b d0 p0 h0, WT cy a T, WD cy d0 d1 x'] : List va_W) [0, 1, 3] 0 7 M rfl rfl (zg_V tg_555 tgv_489 tg_553 tg_554 tg_1) ⟨rfl, hdZ_X7_price⟩ ⟨rfl, rfl⟩ ⟨Nat.le_trans (Nat.le_of_ble_eq_true rfl) hR.1, Nat.le_trans (Nat.le_of_ble_eq_true rfl) hR.2⟩ rfl rfl rfl (by decide) ⟨rfl, rfl⟩ rfl rfl rfl hroom d rfl rfl ?_
  exact kk r x' hK
set_option maxHeartbeats 4000000 in
set_option maxRecDepth 100000 in
theorem lc_exitIn (C : zO E cc nL "SwingUnitsLaw" R cy l D) (hkn : k ≤ R.cells ∧ n ≤ R.slots) (hR : 8 ≤ R.frames ∧ 192 ≤ R.locals) (hO : LO T z y s) (X : List va_W) (h : Int32) (hP : ∃ P : zDd → zTr → Nat → Prop, P x (f_X6_become U T) 0 ∧ ∀ X U k, k ≤ 60 → P X U k → okT U ∧ P (f_X0_run X U).2.1 (f_X0_run X U).2.2 (k + 1)) (hroom : (st.map fun v => v.category).sum ≤ 8) (d : decode cc pc = .ok (.invokevirtual 143, 3)) (kk : ∀ (r : Int32) (U' : zTr) (x' : zDd), f_X7_exitIn T U x h = (r, U', x') → zJ E nL k n (X ++ LB cy x0 x1 x2 d0 d1 p0 p1 h0 h1 a b hs sl T U' x' z y s).flatten (pc + 3) L (.int r :: st)) : zJ E nL k n (X ++ LB cy x0 x1 x2 d0 d1 p0 p1 h0 h1 a b hs sl T U x z y s).flatten pc L (.int h :: .ref x0 :: st) := by
  obtain ⟨⟨tb, tl, tvb, tvl⟩, ⟨yf, yc, yN⟩, sN, zn, zs⟩ := hO
  obtain ⟨P, e0, e1⟩ := hP
  have M := c_X7_exitIn l D cy x0 x1 x2 d0 d1 p0 p1 h0 h1 a b hs sl h T U x tb tl P e0 e1
  generalize hK : f_X7_exitIn T U x h = K at M
  obtain ⟨r, U', x'⟩ := K
  refine zj_callVFk C hkn (nn := 39) (Bs := LB cy x0 x1 x2 d0 d1 p0 p1 h0 h1 a b hs sl T U x z y s) (Bs' := LB cy x0 x1 x2 d0 d1 p0 p1 h0 h1 a b hs sl T U' x' z y s) (st := st) (st1 := .int r :: st) X ([WX0 x0 x1 x2 a b d0 p0 h0, WT cy a T, WT cy b U, WD cy d0 d1 x] : List va_W) ([WX0 x0 x1 x2 a b d0 p0 h0, WT cy a T, WT cy b U', WD cy d0 d1 x'] : List va_W) [0, 1, 2, 3] 0 7 M rfl rfl (zg_V tg_567 tgv_694 tg_565 tg_566 tg_1) ⟨rfl, hdZ_X7_exitIn⟩ ⟨rfl, rfl⟩ ⟨Nat.le_trans (Nat.le_of_ble_eq_true rfl) hR.1, Nat.le_trans (Nat.le_of_ble_eq_true rfl) hR.2⟩ rfl rfl rfl (by decide) ⟨rfl, rfl⟩ rfl rfl rfl hroom d rfl rfl ?_
  exact kk r U' x' hK
set_option maxHeartbeats 4000000 in
set_option maxRecDepth 100000 in
theorem lc_fairSwing (C : zO E cc nL "SwingUnitsLaw" R cy l D) (hkn : k ≤ R.cells ∧ n ≤ R.slots) (hR : 8 ≤ R.frames ∧ 192 ≤ R.locals) (hO : LO T z y s) (X : List va_W)  (hP : ∀ (V : zTr) (k : Nat), k ≤ 100 → okT (sTr_st (f_X6_become V T) (upd (gTr_st (f_X6_become V T)) 2 (nI k)))) (hroom : (st.map fun v => v.category).sum ≤ 8) (d : decode cc pc = .ok (.invokevirtual 152, 3)) (kk : ∀ (r : Int32) (U' : zTr) (x' : zDd), f_X7_fairSwing T U x = (r, U', x') → zJ E nL k n (X ++ LB cy x0 x1 x2 d0 d1 p0 p1 h0 h1 a b hs sl T U' x' z y s).flatten (pc + 3) L (.int r :: st)) : zJ E nL k n (X ++ LB cy x0 x1 x2 d0 d1 p0 p1 h0 h1 a b hs sl T U x z y s).flatten pc L (.ref x0 :: st) := by
  obtain ⟨⟨tb, tl, tvb, tvl⟩, ⟨yf, yc, yN⟩, sN, zn, zs⟩ := hO
  have M := c_X7_fairSwing l D cy x0 x1 x2 d0 d1 p0 p1 h0 h1 a b hs sl T U x tb tl (fun _ _ => True) trivial (fun X U k hk _ => ⟨hP U k hk, trivial⟩)
  generalize hK : f_X7_fairSwing T U x = K at M
  obtain ⟨r, U', x'⟩ := K
  refine zj_callVFk C hkn (nn := 39) (Bs := LB cy x0 x1 x2 d0 d1 p0 p1 h0 h1 a b hs sl T U x z y s) (Bs' := LB cy x0 x1 x2 d0 d1 p0 p1 h0 h1 a b hs sl T U' x' z y s) (st := st) (st1 := .int r :: st) X ([WX0 x0 x1 x2 a b d0 p0 h0, WT cy a T, WT cy b U, WD cy d0 d1 x] : List va_W) ([WX0 x0 x1 x2 a b d0 p0 h0, WT cy a T, WT cy b U', WD cy d0 d1 x'] : List va_W) [0, 1, 2, 3] 0 7 M rfl rfl (zg_V tg_572 tgv_707 tg_570 tg_571 tg_1) ⟨rfl, hdZ_X7_fairSwing⟩ ⟨rfl, rfl⟩ ⟨Nat.le_trans (Nat.le_of_ble_eq_true rfl) hR.1, Nat.le_trans (Nat.le_of_ble_eq_true rfl) hR.2⟩ rfl rfl rfl (by decide) ⟨rfl, rfl⟩ rfl rfl rfl hroom d rfl rfl ?_
  exact kk r U' x' hK
set_option maxHeartbeats 4000000 in
set_option maxRecDepth 100000 in
theorem lc_put (C : zO E cc nL "SwingUnitsLaw" R cy l D) (hkn : k ≤ R.cells ∧ n ≤ R.slots) (hR : 8 ≤ R.frames ∧ 192 ≤ R.locals) (hO : LO T z y s) (X : List va_W) (ch : Int64)  (hroom : (st.map fun v => v.category).sum ≤ 8) (d : decode cc pc = .ok (.invokevirtual 120, 3)) (kk : ∀ (r : Int32) (z' : zPd), f_X7_put z ch = (r, z') → zJ E nL k n (X ++ LB cy x0 x1 x2 d0 d1 p0 p1 h0 h1 a b hs sl T U x z' y s).flatten (pc + 3) L (.int r :: st)) : zJ E nL k n (X ++ LB cy x0 x1 x2 d0 d1 p0 p1 h0 h1 a b hs sl T U x z y s).flatten pc L (.long ch :: .ref x0 :: st) := by
  obtain ⟨⟨tb, tl, tvb, tvl⟩, ⟨yf, yc, yN⟩, sN, zn, zs⟩ := hO
  have M := c_X7_put l D cy x0 x1 x2 d0 d1 p0 p1 h0 h1 a b hs sl ch z zn
  generalize hK : f_X7_put z ch = K at M
  obtain ⟨r, z'⟩ := K
  refine zj_callVFk C hkn (nn := 3) (Bs := LB cy x0 x1 x2 d0 d1 p0 p1 h0 h1 a b hs sl T U x z y s) (Bs' := LB cy x0 x1 x2 d0 d1 p0 p1 h0 h1 a b hs sl T U x z' y s) (st := st) (st1 := .int r :: st) X ([WX0 x0 x1 x2 a b d0 p0 h0, WP cy p0 p1 z] : List va_W) ([WX0 x0 x1 x2 a b d0 p0 h0, WP cy p0 p1 z'] : List va_W) [0, 4] 0 7 M rfl rfl (zg_V tg_576 tgv_608 tg_574 tg_575 tg_1) ⟨rfl, hdZ_X7_put⟩ ⟨rfl, rfl⟩ ⟨Nat.le_trans (Nat.le_of_ble_eq_true rfl) hR.1, Nat.le_trans (Nat.le_of_ble_eq_true rfl) hR.2⟩ rfl rfl rfl (by decide) ⟨rfl, rfl⟩ rfl rfl rfl hroom d rfl rfl ?_
  exact kk r z' hK
set_option maxHeartbeats 4000000 in
set_option maxRecDepth 100000 in
theorem lc_wipe (C : zO E cc nL "SwingUnitsLaw" R cy l D) (hkn : k ≤ R.cells ∧ n ≤ R.slots) (hR : 8 ≤ R.frames ∧ 192 ≤ R.locals) (hO : LO T z y s) (X : List va_W)   (hroom : (st.map fun v => v.category).sum ≤ 8) (d : decode cc pc = .ok (.invokevirtual 124, 3)) (kk : ∀ (r : Int32) (z' : zPd), f_X7_wipe z = (r, z') → zJ E nL k n (X ++ LB cy x0 x1 x2 d0 d1 p0 p1 h0 h1 a b hs sl T U x z' y s).flatten (pc + 3) L (.int r :: st)) : zJ E nL k n (X ++ LB cy x0 x1 x2 d0 d1 p0 p1 h0 h1 a b hs sl T U x z y s).flatten pc L (.ref x0 :: st) := by
  obtain ⟨⟨tb, tl, tvb, tvl⟩, ⟨yf, yc, yN⟩, sN, zn, zs⟩ := hO
  have M := c_X7_wipe l D cy x0 x1 x2 d0 d1 p0 p1 h0 h1 a b hs sl z
  generalize hK : f_X7_wipe z = K at M
  obtain ⟨r, z'⟩ := K
  refine zj_callVFk C hkn (nn := 3) (Bs := LB cy x0 x1 x2 d0 d1 p0 p1 h0 h1 a b hs sl T U x z y s) (Bs' := LB cy x0 x1 x2 d0 d1 p0 p1 h0 h1 a b hs sl T U x z' y s) (st := st) (st1 := .int r :: st) X ([WX0 x0 x1 x2 a b d0 p0 h0, WP cy p0 p1 z] : List va_W) ([WX0 x0 x1 x2 a b d0 p0 h0, WP cy p0 p1 z'] : List va_W) [0, 4] 0 7 M rfl rfl (zg_V tg_590 tgv_597 tg_588 tg_589 tg_1) ⟨rfl, hdZ_X7_wipe⟩ ⟨rfl, rfl⟩ ⟨Nat.le_trans (Nat.le_of_ble_eq_true rfl) hR.1, Nat.le_trans (Nat.le_of_ble_eq_true rfl) hR.2⟩ rfl rfl rfl (by decide) ⟨rfl, rfl⟩ rfl rfl rfl hroom d rfl rfl ?_
  exact kk r z' hK
set_option maxHeartbeats 4000000 in
set_option maxRecDepth 100000 in
theorem lc_fault (C : zO E cc nL "SwingUnitsLaw" R cy l D) (hkn : k ≤ R.cells ∧ n ≤ R.slots) (hR : 8 ≤ R.frames ∧ 192 ≤ R.locals) (hO : LO T z y s) (X : List va_W)   (hroom : (st.map fun v => v.category).sum ≤ 8) (d : decode cc pc = .ok (.invokevirtual 131, 3)) (kk : ∀ (r : Int32) (z' : zPd), f_X7_fault z = (r, z') → zJ E nL k n (X ++ LB cy x0 x1 x2 d0 d1 p0 p1 h0 h1 a b hs sl T U x z' y s).flatten (pc + 3) L (.int r :: st)) : zJ E nL k n (X ++ LB cy x0 x1 x2 d0 d1 p0 p1 h0 h1 a b hs sl T U x z y s).flatten pc L (.ref x0 :: st) := by
  obtain ⟨⟨tb, tl, tvb, tvl⟩, ⟨yf, yc, yN⟩, sN, zn, zs⟩ := hO
  have M := c_X7_fault l D cy x0 x1 x2 d0 d1 p0 p1 h0 h1 a b hs sl z zn zs
  generalize hK : f_X7_fault z = K at M
  obtain ⟨r, z'⟩ := K
  refine zj_callVFk C hkn (nn := 3) (Bs := LB cy x0 x1 x2 d0 d1 p0 p1 h0 h1 a b hs sl T U x z y s) (Bs' := LB cy x0 x1 x2 d0 d1 p0 p1 h0 h1 a b hs sl T U x z' y s) (st := st) (st1 := .int r :: st) X ([WX0 x0 x1 x2 a b d0 p0 h0, WP cy p0 p1 z] : List va_W) ([WX0 x0 x1 x2 a b d0 p0 h0, WP cy p0 p1 z'] : List va_W) [0, 4] 0 7 M rfl rfl (zg_V tg_598 tgv_622 tg_596 tg_597 tg_1) ⟨rfl, hdZ_X7_fault⟩ ⟨rfl, rfl⟩ ⟨Nat.le_trans (Nat.le_of_ble_eq_true rfl) hR.1, Nat.le_trans (Nat.le_of_ble_eq_true rfl) hR.2⟩ rfl rfl rfl (by decide) ⟨rfl, rfl⟩ rfl rfl rfl hroom d rfl rfl ?_
  exact kk r z' hK
set_option maxHeartbeats 4000000 in
set_option maxRecDepth 100000 in
theorem lc_carryOut (C : zO E cc nL "SwingUnitsLaw" R cy l D) (hkn : k ≤ R.cells ∧ n ≤ R.slots) (hR : 8 ≤ R.frames ∧ 192 ≤ R.locals) (hO : LO T z y s) (X : List va_W)  (hP : ∃ P : zDd → zTr → zPd → Prop, P x T (f_X5_start (f_X5_findFault z).2) ∧ ∀ X T Z, P X T Z → okT T ∧ ((f_X5_readOrder Z).1 = true → P (f_X7_carryOutOrder T X (f_X5_readOrder Z).2).2.2 (f_X7_carryOutOrder T X (f_X5_readOrder Z).2).2.1 (f_X5_skip (f_X5_readOrder Z).2 (nI 59)).2)) (hroom : (st.map fun v => v.category).sum ≤ 8) (d : decode cc pc = .ok (.invokevirtual 137, 3)) (kk : ∀ (r : Int32) (T' : zTr) (x' : zDd) (z' : zPd) (y' : zHs), f_X7_carryOut T x z y = (r, T', x', z', y') → zJ E nL k n (X ++ LB cy x0 x1 x2 d0 d1 p0 p1 h0 h1 a b hs sl T' U x' z' y' s).flatten (pc + 3) L (.int r :: st)) : zJ E nL k n (X ++ LB cy x0 x1 x2 d0 d1 p0 p1 h0 h1 a b hs sl T U x z y s).flatten pc L (.ref x0 :: st) := by
  obtain ⟨⟨tb, tl, tvb, tvl⟩, ⟨yf, yc, yN⟩, sN, zn, zs⟩ := hO
  obtain ⟨P, e0, e1⟩ := hP
  have M := c_X7_carryOut l D cy x0 x1 x2 d0 d1 p0 p1 h0 h1 a b hs sl T x z y zn zs yf yc tb tl P e0 e1
  generalize hK : f_X7_carryOut T x z y = K at M
  obtain ⟨r, T', x', z', y'⟩ := K
  refine zj_callVFk C hkn (nn := 151) (Bs := LB cy x0 x1 x2 d0 d1 p0 p1 h0 h1 a b hs sl T U x z y s) (Bs' := LB cy x0 x1 x2 d0 d1 p0 p1 h0 h1 a b hs sl T' U x' z' y' s) (st := st) (st1 := .int r :: st) X (([WX0 x0 x1 x2 a b d0 p0 h0, WT cy a T, WD cy d0 d1 x, WP cy p0 p1 z, WHo cy h0 h1 hs (gHs_first y) (gHs_count y)] : List va_W) ++ WHL cy hs (gHs_st y)) (([WX0 x0 x1 x2 a b d0 p0 h0, WT cy a T', WD cy d0 d1 x', WP cy p0 p1 z', WHo cy h0 h1 hs (gHs_first y') (gHs_count y')] : List va_W) ++ WHL cy hs (gHs_st y')) [0, 1, 3, 4, 5, 6, 7, 8, 9, 10, 11, 12] 0 7 M rfl rfl (zg_V tg_636 tgv_665 tg_634 tg_635 tg_1) ⟨rfl, hdZ_X7_carryOut⟩ ⟨rfl, rfl⟩ ⟨Nat.le_trans (Nat.le_of_ble_eq_true rfl) hR.1, Nat.le_trans (Nat.le_of_ble_eq_true rfl) hR.2⟩ rfl rfl rfl (by decide) ⟨rfl, rfl⟩ rfl rfl rfl hroom d rfl rfl ?_
  exact kk r T' x' z' y' hK
set_option maxHeartbeats 4000000 in
set_option maxRecDepth 100000 in
theorem lc_undo (C : zO E cc nL "SwingUnitsLaw" R cy l D) (hkn : k ≤ R.cells ∧ n ≤ R.slots) (hR : 8 ≤ R.frames ∧ 192 ≤ R.locals) (hO : LO T z y s) (X : List va_W)   (hroom : (st.map fun v => v.category).sum ≤ 8) (d : decode cc pc = .ok (.invokevirtual 140, 3)) (kk : ∀ (r : Int32) (T' : zTr) (y' : zHs), f_X7_undo T y = (r, T', y') → zJ E nL k n (X ++ LB cy x0 x1 x2 d0 d1 p0 p1 h0 h1 a b hs sl T' U x z y' s).flatten (pc + 3) L (.int r :: st)) : zJ E nL k n (X ++ LB cy x0 x1 x2 d0 d1 p0 p1 h0 h1 a b hs sl T U x z y s).flatten pc L (.ref x0 :: st) := by
  obtain ⟨⟨tb, tl, tvb, tvl⟩, ⟨yf, yc, yN⟩, sN, zn, zs⟩ := hO
  have M := c_X7_undo l D cy x0 x1 x2 d0 d1 p0 p1 h0 h1 a b hs sl T y yf yc yN
  generalize hK : f_X7_undo T y = K at M
  obtain ⟨r, T', y'⟩ := K
  refine zj_callVFk C hkn (nn := 147) (Bs := LB cy x0 x1 x2 d0 d1 p0 p1 h0 h1 a b hs sl T U x z y s) (Bs' := LB cy x0 x1 x2 d0 d1 p0 p1 h0 h1 a b hs sl T' U x z y' s) (st := st) (st1 := .int r :: st) X (([WX0 x0 x1 x2 a b d0 p0 h0, WT cy a T, WHo cy h0 h1 hs (gHs_first y) (gHs_count y)] : List va_W) ++ WHL cy hs (gHs_st y)) (([WX0 x0 x1 x2 a b d0 p0 h0, WT cy a T', WHo cy h0 h1 hs (gHs_first y') (gHs_count y')] : List va_W) ++ WHL cy hs (gHs_st y')) [0, 1, 5, 6, 7, 8, 9, 10, 11, 12] 0 7 M rfl rfl (zg_V tg_651 tgv_680 tg_649 tg_650 tg_1) ⟨rfl, hdZ_X7_undo⟩ ⟨rfl, rfl⟩ ⟨Nat.le_trans (Nat.le_of_ble_eq_true rfl) hR.1, Nat.le_trans (Nat.le_of_ble_eq_true rfl) hR.2⟩ rfl rfl rfl (by decide) ⟨rfl, rfl⟩ rfl rfl rfl hroom d rfl rfl ?_
  exact kk r T' y' hK
set_option maxHeartbeats 4000000 in
set_option maxRecDepth 100000 in
theorem lc_save (C : zO E cc nL "SwingUnitsLaw" R cy l D) (hkn : k ≤ R.cells ∧ n ≤ R.slots) (hR : 8 ≤ R.frames ∧ 192 ≤ R.locals) (hO : LO T z y s) (X : List va_W) (so : Int32)  (hroom : (st.map fun v => v.category).sum ≤ 8) (d : decode cc pc = .ok (.invokevirtual 146, 3)) (kk : ∀ (r : Int32) (s' : zSl), f_X7_save T s so = (r, s') → zJ E nL k n (X ++ LB cy x0 x1 x2 d0 d1 p0 p1 h0 h1 a b hs sl T U x z y s').flatten (pc + 3) L (.int r :: st)) : zJ E nL k n (X ++ LB cy x0 x1 x2 d0 d1 p0 p1 h0 h1 a b hs sl T U x z y s).flatten pc L (.int so :: .ref x0 :: st) := by
  obtain ⟨⟨tb, tl, tvb, tvl⟩, ⟨yf, yc, yN⟩, sN, zn, zs⟩ := hO
  have M := c_X7_save l D cy x0 x1 x2 d0 d1 p0 p1 h0 h1 a b hs sl so T s tb tl
  generalize hK : f_X7_save T s so = K at M
  obtain ⟨r, s'⟩ := K
  refine zj_callVFk C hkn (nn := 57) (Bs := LB cy x0 x1 x2 d0 d1 p0 p1 h0 h1 a b hs sl T U x z y s) (Bs' := LB cy x0 x1 x2 d0 d1 p0 p1 h0 h1 a b hs sl T U x z y s') (st := st) (st1 := .int r :: st) X (([WX0 x0 x1 x2 a b d0 p0 h0, WX1 cy x1 sl, WX2 cy x2 (gSl_sv s), WT cy a T] : List va_W) ++ WSL cy sl (gSl_st s)) (([WX0 x0 x1 x2 a b d0 p0 h0, WX1 cy x1 sl, WX2 cy x2 (gSl_sv s'), WT cy a T] : List va_W) ++ WSL cy sl (gSl_st s')) [0, 13, 16, 1, 14, 15] 0 7 M rfl rfl (zg_V tg_659 tgv_699 tg_657 tg_658 tg_1) ⟨rfl, hdZ_X7_save⟩ ⟨rfl, rfl⟩ ⟨Nat.le_trans (Nat.le_of_ble_eq_true rfl) hR.1, Nat.le_trans (Nat.le_of_ble_eq_true rfl) hR.2⟩ rfl rfl rfl (by decide) ⟨rfl, rfl⟩ rfl rfl rfl hroom d rfl rfl ?_
  exact kk r s' hK
set_option maxHeartbeats 4000000 in
set_option maxRecDepth 100000 in
theorem lc_restore (C : zO E cc nL "SwingUnitsLaw" R cy l D) (hkn : k ≤ R.cells ∧ n ≤ R.slots) (hR : 8 ≤ R.frames ∧ 192 ≤ R.locals) (hO : LO T z y s) (X : List va_W) (so : Int32)  (hroom : (st.map fun v => v.category).sum ≤ 8) (d : decode cc pc = .ok (.invokevirtual 149, 3)) (kk : ∀ (r : Int32) (T' : zTr) (y' : zHs), f_X7_restore T y s so = (r, T', y') → zJ E nL k n (X ++ LB cy x0 x1 x2 d0 d1 p0 p1 h0 h1 a b hs sl T' U x z y' s).flatten (pc + 3) L (.int r :: st)) : zJ E nL k n (X ++ LB cy x0 x1 x2 d0 d1 p0 p1 h0 h1 a b hs sl T U x z y s).flatten pc L (.int so :: .ref x0 :: st) := by
  obtain ⟨⟨tb, tl, tvb, tvl⟩, ⟨yf, yc, yN⟩, sN, zn, zs⟩ := hO
  have M := c_X7_restore l D cy x0 x1 x2 d0 d1 p0 p1 h0 h1 a b hs sl so T y s yf yc tb tl sN
  generalize hK : f_X7_restore T y s so = K at M
  obtain ⟨r, T', y'⟩ := K
  refine zj_callVFk C hkn (nn := 185) (Bs := LB cy x0 x1 x2 d0 d1 p0 p1 h0 h1 a b hs sl T U x z y s) (Bs' := LB cy x0 x1 x2 d0 d1 p0 p1 h0 h1 a b hs sl T' U x z y' s) (st := st) (st1 := .int r :: st) X (([WX0 x0 x1 x2 a b d0 p0 h0, WX1 cy x1 sl, WX2 cy x2 (gSl_sv s), WT cy a T, WHo cy h0 h1 hs (gHs_first y) (gHs_count y)] : List va_W) ++ (WHL cy hs (gHs_st y) ++ WSL cy sl (gSl_st s))) (([WX0 x0 x1 x2 a b d0 p0 h0, WX1 cy x1 sl, WX2 cy x2 (gSl_sv s), WT cy a T', WHo cy h0 h1 hs (gHs_first y') (gHs_count y')] : List va_W) ++ (WHL cy hs (gHs_st y') ++ WSL cy sl (gSl_st s))) [0, 13, 16, 1, 5, 6, 7, 8, 9, 10, 11, 12, 14, 15] 0 7 M rfl rfl (zg_V tg_663 tgv_703 tg_661 tg_662 tg_1) ⟨rfl, hdZ_X7_restore⟩ ⟨rfl, rfl⟩ ⟨Nat.le_trans (Nat.le_of_ble_eq_true rfl) hR.1, Nat.le_trans (Nat.le_of_ble_eq_true rfl) hR.2⟩ rfl rfl rfl (by decide) ⟨rfl, rfl⟩ rfl rfl rfl hroom d rfl rfl ?_
  exact kk r T' y' hK
end LC
