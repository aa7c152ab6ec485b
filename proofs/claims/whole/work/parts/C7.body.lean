/-! the law from its entry -/
/-- where the constructors leave off, the loop begins -/
theorem LB_start {cy : Nat → ClassId} {x0 x1 x2 d0 d1 p0 p1 h0 h1 : Nat} {a b : Nat → Nat} {hs sl : Nat → Nat → Nat} {m : Nat → Nat} {S : zMs} : ([WX0 x0 x1 x2 a b d0 p0 h0, WT cy a t0, WT cy b t0, WD cy d0 d1 dd0, WP cy p0 p1 pd0, WHo cy h0 h1 hs 0 0] ++ (WHL cy hs (fun _ => t0) ++ ([WX1 cy x1 sl] ++ (WSL cy sl (fun _ => t0) ++ [WX2 cy x2 (fun _ => 0)])))).flatten ++ WM cy m S = (LB cy x0 x1 x2 d0 d1 p0 p1 h0 h1 a b hs sl m t0 t0 dd0 pd0 ((0, 0, fun _ => t0) : zHs) ((fun _ => t0, fun _ => 0) : zSl) S).flatten := by
  show _ = ([WX0 x0 x1 x2 a b d0 p0 h0, WT cy a t0, WT cy b t0, WD cy d0 d1 dd0, WP cy p0 p1 pd0, WHo cy h0 h1 hs 0 0] ++ (WHL cy hs (fun _ => t0) ++ ([WX1 cy x1 sl] ++ (WSL cy sl (fun _ => t0) ++ ([WX2 cy x2 (fun _ => 0)] ++ [WM cy m S]))))).flatten
  generalize [WX0 x0 x1 x2 a b d0 p0 h0, WT cy a t0, WT cy b t0, WD cy d0 d1 dd0, WP cy p0 p1 pd0, WHo cy h0 h1 hs 0 0] = B1
  generalize WHL cy hs (fun _ => t0) = B2
  generalize [WX1 cy x1 sl] = B3
  generalize WSL cy sl (fun _ => t0) = B4
  generalize [WX2 cy x2 (fun _ => 0)] = B5
  generalize WM cy m S = B6
  simp only [List.flatten_append, List.append_assoc, List.flatten_cons, List.flatten_nil, List.append_nil]
set_option maxHeartbeats 4000000 in
set_option maxRecDepth 100000 in
/-- the two makings, then the loop -/
theorem law_body {E : zE} {cy : Nat → ClassId} {l : Launch} {D : va_G} {bb N : Nat} {xs : Nat → Int32} (C : zO E cL_law 4 "SwingUnitsLaw" room_1 cy l D) (hAO : zAO E.1.2.2.2.2.1) (hsc : zScr E bb N xs) (hN : N ≤ 2048) (hend : ∀ (ws : va_W) (L : List (Nat × Value)), zJ E 4 217 4450 ws 727 L [.int 1]) : zJ E 4 0 0 [] 0 [(0, .ref bb)] [] := by
  refine zj_make C hAO (ci := 7) (mc := 206) (ms := 2328) (fs := [.null, .null, .null, .null, .null, .null, .null]) (Post := fun q w => ∃ (b : Nat → Nat) (d0 d1 p0 p1 h0 h1 x1 x2 : Nat) (a : Nat → Nat) (hs sl : Nat → Nat → Nat), w = ([WX0 q x1 x2 a b d0 p0 h0, WT cy a t0, WT cy b t0, WD cy d0 d1 dd0, WP cy p0 p1 pd0, WHo cy h0 h1 hs 0 0] ++ (WHL cy hs (fun _ => t0) ++ ([WX1 cy x1 sl] ++ (WSL cy sl (fun _ => t0) ++ [WX2 cy x2 (fun _ => 0)])))).flatten) tyX7 tyX7_ok inZ7 tg_11 tg_12 tg_1 rfl (fun j hj => by rcases (show j = 0 ∨ j = 1 ∨ j = 2 ∨ j = 3 ∨ j = 4 ∨ j = 5 ∨ j = 6 by omega) with rfl | rfl | rfl | rfl | rfl | rfl | rfl <;> rfl) (fun q => c_X7_init l D cy q) tg_15 tg_13 tg_14 ⟨rfl, rfl⟩ (by decide +kernel) ⟨rfl, rfl⟩ ⟨Nat.le_of_ble_eq_true rfl, Nat.le_of_ble_eq_true rfl⟩ ⟨Nat.le_of_ble_eq_true rfl, Nat.le_of_ble_eq_true rfl⟩ (Nat.le_of_ble_eq_true rfl) dL_law_0 dL_law_3 dL_law_4 (fun x0 w hw => ?_)
  obtain ⟨b, d0, d1, p0, p1, h0, h1, x1, x2, a, hs, sl, rfl⟩ := hw
  show zJ E 4 207 2335 ([WX0 x0 x1 x2 a b d0 p0 h0, WT cy a t0, WT cy b t0, WD cy d0 d1 dd0, WP cy p0 p1 pd0, WHo cy h0 h1 hs 0 0] ++ (WHL cy hs (fun _ => t0) ++ ([WX1 cy x1 sl] ++ (WSL cy sl (fun _ => t0) ++ [WX2 cy x2 (fun _ => 0)])))).flatten 7 [(0, .ref bb)] [.ref x0]
  refine zj_astore_n C (L' := [(1, .ref x0), (0, .ref bb)]) dL_law_7 rfl (by decide) rfl ?_
  refine zj_make C hAO (ci := 8) (mc := 9) (ms := 2100) (fs := [.null, .null, .int 0, .int 0, .null, .null, .null, .null, .null, .int 0, .int 0, .int 0, .int 0, .null, .null]) (Post := fun q w => ∃ m : Nat → Nat, m 0 = q ∧ w = WM cy m m0) tyX8 tyX8_ok inZ8 tg_664 tg_665 tg_9 rfl (fun j hj => by rcases (show j = 0 ∨ j = 1 ∨ j = 2 ∨ j = 3 ∨ j = 4 ∨ j = 5 ∨ j = 6 ∨ j = 7 ∨ j = 8 ∨ j = 9 ∨ j = 10 ∨ j = 11 ∨ j = 12 ∨ j = 13 ∨ j = 14 by omega) with rfl | rfl | rfl | rfl | rfl | rfl | rfl | rfl | rfl | rfl | rfl | rfl | rfl | rfl | rfl <;> rfl) (fun q => c_X8_init l D cy q) tg_668 tg_666 tg_667 ⟨rfl, rfl⟩ (by decide +kernel) ⟨rfl, rfl⟩ ⟨Nat.le_of_ble_eq_true rfl, Nat.le_of_ble_eq_true rfl⟩ ⟨Nat.le_of_ble_eq_true rfl, Nat.le_of_ble_eq_true rfl⟩ (Nat.le_of_ble_eq_true rfl) dL_law_8 dL_law_11 dL_law_12 (fun x8 w hw => ?_)
  obtain ⟨m, rfl, rfl⟩ := hw
  refine zj_eq LB_start rfl rfl rfl ?_
  refine zj_astore_n C (L' := [(2, .ref (m 0)), (1, .ref x0), (0, .ref bb)]) dL_law_15 rfl (by decide) rfl ?_
  refine zj_iconst C (v := nI 0) dL_law_16 rfl ?_
  refine zj_istore_n C (L' := LL (4 * 0) (m 0) x0 bb) dL_law_17 rfl (by decide) rfl ?_
  exact law_loop C hsc hN hend 512 0 (by omega) t0 t0 dd0 pd0 ((0, 0, fun _ => t0) : zHs) ((fun _ => t0, fun _ => 0) : zSl) m0 (by omega) FR_0
