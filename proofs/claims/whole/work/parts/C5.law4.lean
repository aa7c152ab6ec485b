/-! the calls of the law: put .. restore -/
section LAW
variable {E : zE} {cy : Nat → ClassId} {l : Launch} {D : va_G} {bb N c q : Nat} {xs : Nat → Int32} {x0 x1 x2 d0 d1 p0 p1 h0 h1 : Nat} {a b : Nat → Nat} {hs sl : Nat → Nat → Nat} {m : Nat → Nat} {T U : zTr} {x : zDd} {z : zPd} {y : zHs} {s : zSl} {S : zMs}
set_option maxHeartbeats 4000000 in
set_option maxRecDepth 100000 in
theorem law_put (C : zO E cL_law 4 "SwingUnitsLaw" room_1 cy l D) (hsc : zScr E bb N xs) (hN : N ≤ 2048) (hc : c + 3 < N) (hq : q ≤ 512) (hFR : FR q T z y s S) (kk : ∀ (T U : zTr) (x : zDd) (z : zPd) (y : zHs) (s : zSl) (S : zMs), FR (q + 1) T z y s S → zJ E 4 217 4450 (LB cy x0 x1 x2 d0 d1 p0 p1 h0 h1 a b hs sl m T U x z y s S).flatten 720 (LL c (m 0) x0 bb) []) : zJ E 4 217 4450 (LB cy x0 x1 x2 d0 d1 p0 p1 h0 h1 a b hs sl m T U x z y s S).flatten 569 (LL c (m 0) x0 bb) [] := by
  obtain ⟨⟨yf, yc⟩, ⟨tb, tl, tvb, tvl⟩, ⟨zn, zs⟩, yN, sN, ⟨mf, mm⟩, ⟨cb, cl⟩, mp⟩ := FRq hFR
  have hkn : 217 ≤ room_1.cells ∧ 4450 ≤ room_1.slots := ⟨Nat.le_of_ble_eq_true rfl, Nat.le_of_ble_eq_true rfl⟩
  obtain ⟨ch, hch⟩ : ∃ g : Int64, g = zlong (xs (c + 1)) (xs (c + 2)) := ⟨_, rfl⟩
  obtain ⟨he, hF⟩ := put_FR hFR ch
  have M7 := c_X7_put l D cy x0 x1 x2 d0 d1 p0 p1 h0 h1 a b hs sl ch z zn
  have M8 := c_X8_put l D cy m ch S mp
  generalize f_X7_put z ch = K7 at he hF M7
  generalize f_X8_put S ch = K8 at he hF M8
  obtain ⟨r7, z'⟩ := K7
  obtain ⟨r8, S'⟩ := K8
  have he : r7 = r8 := he
  subst he
  refine zj_aload_n C dL_law_569 2 rfl ?_
  refine zj_arg C hsc hN 1 rfl (by omega) dL_law_570 dL_law_571 dL_law_572 rfl dL_law_573 dL_law_574 ?_
  refine zj_i2l C dL_law_575 ?_
  refine zj_bipush C (v := (32 : Int32)) dL_law_576 (by decide) ?_
  refine zj_lshl C dL_law_578 rfl ?_
  refine zj_arg C hsc hN 2 rfl (by omega) dL_law_579 dL_law_580 dL_law_581 rfl dL_law_582 dL_law_583 ?_
  refine zj_i2l C dL_law_584 ?_
  refine zj_ldc2 C (v := (4294967295 : Int64)) dL_law_585 tg_1013 ?_
  refine zj_land C dL_law_588 ?_
  refine zj_lor C dL_law_589 ?_
  refine zj_eq (st' := [.long ch, .ref x0]) rfl rfl (by rw [hch]; rfl) rfl ?_
  refine zj_callVFk C hkn (nn := 3) (Bs' := (LB cy x0 x1 x2 d0 d1 p0 p1 h0 h1 a b hs sl m T U x z' y s S)) (st := []) (st1 := [.int r7]) ([WX0 x0 x1 x2 a b d0 p0 h0, WP cy p0 p1 z] : List va_W) ([WX0 x0 x1 x2 a b d0 p0 h0, WP cy p0 p1 z'] : List va_W) [0, 4] 0 7 M7 rfl rfl (zg_V tg_576 tg_573 tg_574 tg_575 tg_1) ⟨rfl, hdZ_X7_put⟩ ⟨rfl, rfl⟩ ⟨Nat.le_of_ble_eq_true rfl, Nat.le_of_ble_eq_true rfl⟩ rfl rfl rfl (by decide) ⟨rfl, rfl⟩ rfl rfl rfl (Nat.le_of_ble_eq_true rfl) dL_law_590 rfl rfl ?_
  refine zj_aload_n C dL_law_593 1 rfl ?_
  refine zj_arg C hsc hN 1 rfl (by omega) dL_law_594 dL_law_595 dL_law_596 rfl dL_law_597 dL_law_598 ?_
  refine zj_i2l C dL_law_599 ?_
  refine zj_bipush C (v := (32 : Int32)) dL_law_600 (by decide) ?_
  refine zj_lshl C dL_law_602 rfl ?_
  refine zj_arg C hsc hN 2 rfl (by omega) dL_law_603 dL_law_604 dL_law_605 rfl dL_law_606 dL_law_607 ?_
  refine zj_i2l C dL_law_608 ?_
  refine zj_ldc2 C (v := (4294967295 : Int64)) dL_law_609 tg_1013 ?_
  refine zj_land C dL_law_612 ?_
  refine zj_lor C dL_law_613 ?_
  refine zj_eq (st' := [.long ch, .ref (m 0), .int r7]) rfl rfl (by rw [hch]; rfl) rfl ?_
  refine zj_callVFk C hkn (nn := 10) (Bs' := (LB cy x0 x1 x2 d0 d1 p0 p1 h0 h1 a b hs sl m T U x z' y s S')) (st := [.int r7]) (st1 := [.int r7, .int r7]) [WM cy m S] [WM cy m S'] [17] 0 8 M8 (List.append_nil _) (List.append_nil _) (zg_V tg_952 tg_949 tg_950 tg_951 tg_9) ⟨rfl, hdZ_X8_put⟩ ⟨rfl, rfl⟩ ⟨Nat.le_of_ble_eq_true rfl, Nat.le_of_ble_eq_true rfl⟩ rfl rfl rfl (by decide) ⟨rfl, rfl⟩ rfl rfl rfl (Nat.le_of_ble_eq_true rfl) dL_law_614 rfl rfl ?_
  refine zj_icmp_eq C 720 dL_law_617 (by decide) (fun _ => ?_) (fun g => absurd rfl g)
  exact kk T U x z' y s S' hF
set_option maxHeartbeats 4000000 in
set_option maxRecDepth 100000 in
theorem law_wipe (C : zO E cL_law 4 "SwingUnitsLaw" room_1 cy l D) (hsc : zScr E bb N xs) (hN : N ≤ 2048) (hc : c + 3 < N) (hq : q ≤ 512) (hFR : FR q T z y s S) (kk : ∀ (T U : zTr) (x : zDd) (z : zPd) (y : zHs) (s : zSl) (S : zMs), FR (q + 1) T z y s S → zJ E 4 217 4450 (LB cy x0 x1 x2 d0 d1 p0 p1 h0 h1 a b hs sl m T U x z y s S).flatten 720 (LL c (m 0) x0 bb) []) : zJ E 4 217 4450 (LB cy x0 x1 x2 d0 d1 p0 p1 h0 h1 a b hs sl m T U x z y s S).flatten 622 (LL c (m 0) x0 bb) [] := by
  obtain ⟨⟨yf, yc⟩, ⟨tb, tl, tvb, tvl⟩, ⟨zn, zs⟩, yN, sN, ⟨mf, mm⟩, ⟨cb, cl⟩, mp⟩ := FRq hFR
  have hkn : 217 ≤ room_1.cells ∧ 4450 ≤ room_1.slots := ⟨Nat.le_of_ble_eq_true rfl, Nat.le_of_ble_eq_true rfl⟩
  obtain ⟨he, hF⟩ := wipe_FR hFR
  have M7 := c_X7_wipe l D cy x0 x1 x2 d0 d1 p0 p1 h0 h1 a b hs sl  z 
  have M8 := c_X8_wipe l D cy m  S 
  generalize f_X7_wipe z = K7 at he hF M7
  generalize f_X8_wipe S = K8 at he hF M8
  obtain ⟨r7, z'⟩ := K7
  obtain ⟨r8, S'⟩ := K8
  have he : r7 = nI r8 := he
  subst he
  refine zj_aload_n C dL_law_622 2 rfl ?_
  refine zj_callVFk C hkn (nn := 3) (Bs' := (LB cy x0 x1 x2 d0 d1 p0 p1 h0 h1 a b hs sl m T U x z' y s S)) (st := []) (st1 := [.int (nI r8)]) ([WX0 x0 x1 x2 a b d0 p0 h0, WP cy p0 p1 z] : List va_W) ([WX0 x0 x1 x2 a b d0 p0 h0, WP cy p0 p1 z'] : List va_W) [0, 4] 0 7 M7 rfl rfl (zg_V tg_590 tg_587 tg_588 tg_589 tg_1) ⟨rfl, hdZ_X7_wipe⟩ ⟨rfl, rfl⟩ ⟨Nat.le_of_ble_eq_true rfl, Nat.le_of_ble_eq_true rfl⟩ rfl rfl rfl (by decide) ⟨rfl, rfl⟩ rfl rfl rfl (Nat.le_of_ble_eq_true rfl) dL_law_623 rfl rfl ?_
  refine zj_aload_n C dL_law_626 1 rfl ?_
  refine zj_callVFk C hkn (nn := 10) (Bs' := (LB cy x0 x1 x2 d0 d1 p0 p1 h0 h1 a b hs sl m T U x z' y s S')) (st := [.int (nI r8)]) (st1 := [.int (nI r8), .int (nI r8)]) [WM cy m S] [WM cy m S'] [17] 0 8 M8 (List.append_nil _) (List.append_nil _) (zg_V tg_959 tg_956 tg_957 tg_958 tg_9) ⟨rfl, hdZ_X8_wipe⟩ ⟨rfl, rfl⟩ ⟨Nat.le_of_ble_eq_true rfl, Nat.le_of_ble_eq_true rfl⟩ rfl rfl rfl (by decide) ⟨rfl, rfl⟩ rfl rfl rfl (Nat.le_of_ble_eq_true rfl) dL_law_627 rfl rfl ?_
  refine zj_icmp_eq C 720 dL_law_630 (by decide) (fun _ => ?_) (fun g => absurd rfl g)
  exact kk T U x z' y s S' hF
set_option maxHeartbeats 4000000 in
set_option maxRecDepth 100000 in
theorem law_fault (C : zO E cL_law 4 "SwingUnitsLaw" room_1 cy l D) (hsc : zScr E bb N xs) (hN : N ≤ 2048) (hc : c + 3 < N) (hq : q ≤ 512) (hFR : FR q T z y s S) (kk : ∀ (T U : zTr) (x : zDd) (z : zPd) (y : zHs) (s : zSl) (S : zMs), FR (q + 1) T z y s S → zJ E 4 217 4450 (LB cy x0 x1 x2 d0 d1 p0 p1 h0 h1 a b hs sl m T U x z y s S).flatten 720 (LL c (m 0) x0 bb) []) : zJ E 4 217 4450 (LB cy x0 x1 x2 d0 d1 p0 p1 h0 h1 a b hs sl m T U x z y s S).flatten 635 (LL c (m 0) x0 bb) [] := by
  obtain ⟨⟨yf, yc⟩, ⟨tb, tl, tvb, tvl⟩, ⟨zn, zs⟩, yN, sN, ⟨mf, mm⟩, ⟨cb, cl⟩, mp⟩ := FRq hFR
  have hkn : 217 ≤ room_1.cells ∧ 4450 ≤ room_1.slots := ⟨Nat.le_of_ble_eq_true rfl, Nat.le_of_ble_eq_true rfl⟩
  obtain ⟨he, hF⟩ := fault_FR hFR
  have M7 := c_X7_fault l D cy x0 x1 x2 d0 d1 p0 p1 h0 h1 a b hs sl  z zn zs
  have M8 := c_X8_fault l D cy m  S mp
  generalize f_X7_fault z = K7 at he hF M7
  generalize f_X8_fault S = K8 at he hF M8
  obtain ⟨r7, z'⟩ := K7
  obtain ⟨r8, S'⟩ := K8
  have he : r7 = r8 := he
  subst he
  refine zj_aload_n C dL_law_635 2 rfl ?_
  refine zj_callVFk C hkn (nn := 3) (Bs' := (LB cy x0 x1 x2 d0 d1 p0 p1 h0 h1 a b hs sl m T U x z' y s S)) (st := []) (st1 := [.int r7]) ([WX0 x0 x1 x2 a b d0 p0 h0, WP cy p0 p1 z] : List va_W) ([WX0 x0 x1 x2 a b d0 p0 h0, WP cy p0 p1 z'] : List va_W) [0, 4] 0 7 M7 rfl rfl (zg_V tg_598 tg_595 tg_596 tg_597 tg_1) ⟨rfl, hdZ_X7_fault⟩ ⟨rfl, rfl⟩ ⟨Nat.le_of_ble_eq_true rfl, Nat.le_of_ble_eq_true rfl⟩ rfl rfl rfl (by decide) ⟨rfl, rfl⟩ rfl rfl rfl (Nat.le_of_ble_eq_true rfl) dL_law_636 rfl rfl ?_
  refine zj_aload_n C dL_law_639 1 rfl ?_
  refine zj_callVFk C hkn (nn := 10) (Bs' := (LB cy x0 x1 x2 d0 d1 p0 p1 h0 h1 a b hs sl m T U x z' y s S')) (st := [.int r7]) (st1 := [.int r7, .int r7]) [WM cy m S] [WM cy m S'] [17] 0 8 M8 (List.append_nil _) (List.append_nil _) (zg_V tg_963 tg_960 tg_961 tg_962 tg_9) ⟨rfl, hdZ_X8_fault⟩ ⟨rfl, rfl⟩ ⟨Nat.le_of_ble_eq_true rfl, Nat.le_of_ble_eq_true rfl⟩ rfl rfl rfl (by decide) ⟨rfl, rfl⟩ rfl rfl rfl (Nat.le_of_ble_eq_true rfl) dL_law_640 rfl rfl ?_
  refine zj_icmp_eq C 720 dL_law_643 (by decide) (fun _ => ?_) (fun g => absurd rfl g)
  exact kk T U x z' y s S' hF
set_option maxHeartbeats 4000000 in
set_option maxRecDepth 100000 in
theorem law_carryOut (C : zO E cL_law 4 "SwingUnitsLaw" room_1 cy l D) (hsc : zScr E bb N xs) (hN : N ≤ 2048) (hc : c + 3 < N) (hq : q ≤ 512) (hFR : FR q T z y s S) (kk : ∀ (T U : zTr) (x : zDd) (z : zPd) (y : zHs) (s : zSl) (S : zMs), FR (q + 1) T z y s S → zJ E 4 217 4450 (LB cy x0 x1 x2 d0 d1 p0 p1 h0 h1 a b hs sl m T U x z y s S).flatten 720 (LL c (m 0) x0 bb) []) : zJ E 4 217 4450 (LB cy x0 x1 x2 d0 d1 p0 p1 h0 h1 a b hs sl m T U x z y s S).flatten 648 (LL c (m 0) x0 bb) [] := by
  obtain ⟨⟨yf, yc⟩, ⟨tb, tl, tvb, tvl⟩, ⟨zn, zs⟩, yN, sN, ⟨mf, mm⟩, ⟨cb, cl⟩, mp⟩ := FRq hFR
  have hkn : 217 ≤ room_1.cells ∧ 4450 ≤ room_1.slots := ⟨Nat.le_of_ble_eq_true rfl, Nat.le_of_ble_eq_true rfl⟩
  obtain ⟨P, e0, e1⟩ := carryOut_P7 hq hFR x
  obtain ⟨P8, g0, g1⟩ := carryOut_P8 hq hFR
  obtain ⟨he, hF⟩ := carryOut_FR hq hFR x
  have M7 := c_X7_carryOut l D cy x0 x1 x2 d0 d1 p0 p1 h0 h1 a b hs sl  T x z y zn zs yf yc tb tl P e0 e1
  have M8 := c_X8_carryOut l D cy m  S mp mf mm P8 g0 g1
  generalize f_X7_carryOut T x z y = K7 at he hF M7
  generalize f_X8_carryOut S = K8 at he hF M8
  obtain ⟨r7, T', x', z', y'⟩ := K7
  obtain ⟨r8, S'⟩ := K8
  have he : r7 = r8 := he
  subst he
  refine zj_aload_n C dL_law_648 2 rfl ?_
  refine zj_callVFk C hkn (nn := 151) (Bs' := (LB cy x0 x1 x2 d0 d1 p0 p1 h0 h1 a b hs sl m T' U x' z' y' s S)) (st := []) (st1 := [.int r7]) (([WX0 x0 x1 x2 a b d0 p0 h0, WT cy a T, WD cy d0 d1 x, WP cy p0 p1 z, WHo cy h0 h1 hs (gHs_first y) (gHs_count y)] : List va_W) ++ WHL cy hs (gHs_st y)) (([WX0 x0 x1 x2 a b d0 p0 h0, WT cy a T', WD cy d0 d1 x', WP cy p0 p1 z', WHo cy h0 h1 hs (gHs_first y') (gHs_count y')] : List va_W) ++ WHL cy hs (gHs_st y')) [0, 1, 3, 4, 5, 6, 7, 8, 9, 10, 11, 12] 0 7 M7 rfl rfl (zg_V tg_636 tg_633 tg_634 tg_635 tg_1) ⟨rfl, hdZ_X7_carryOut⟩ ⟨rfl, rfl⟩ ⟨Nat.le_of_ble_eq_true rfl, Nat.le_of_ble_eq_true rfl⟩ rfl rfl rfl (by decide) ⟨rfl, rfl⟩ rfl rfl rfl (Nat.le_of_ble_eq_true rfl) dL_law_649 rfl rfl ?_
  refine zj_aload_n C dL_law_652 1 rfl ?_
  refine zj_callVFk C hkn (nn := 10) (Bs' := (LB cy x0 x1 x2 d0 d1 p0 p1 h0 h1 a b hs sl m T' U x' z' y' s S')) (st := [.int r7]) (st1 := [.int r7, .int r7]) [WM cy m S] [WM cy m S'] [17] 0 8 M8 (List.append_nil _) (List.append_nil _) (zg_V tg_995 tg_992 tg_993 tg_994 tg_9) ⟨rfl, hdZ_X8_carryOut⟩ ⟨rfl, rfl⟩ ⟨Nat.le_of_ble_eq_true rfl, Nat.le_of_ble_eq_true rfl⟩ rfl rfl rfl (by decide) ⟨rfl, rfl⟩ rfl rfl rfl (Nat.le_of_ble_eq_true rfl) dL_law_653 rfl rfl ?_
  refine zj_icmp_eq C 720 dL_law_656 (by decide) (fun _ => ?_) (fun g => absurd rfl g)
  exact kk T' U x' z' y' s S' hF
set_option maxHeartbeats 4000000 in
set_option maxRecDepth 100000 in
theorem law_undo (C : zO E cL_law 4 "SwingUnitsLaw" room_1 cy l D) (hsc : zScr E bb N xs) (hN : N ≤ 2048) (hc : c + 3 < N) (hq : q ≤ 512) (hFR : FR q T z y s S) (kk : ∀ (T U : zTr) (x : zDd) (z : zPd) (y : zHs) (s : zSl) (S : zMs), FR (q + 1) T z y s S → zJ E 4 217 4450 (LB cy x0 x1 x2 d0 d1 p0 p1 h0 h1 a b hs sl m T U x z y s S).flatten 720 (LL c (m 0) x0 bb) []) : zJ E 4 217 4450 (LB cy x0 x1 x2 d0 d1 p0 p1 h0 h1 a b hs sl m T U x z y s S).flatten 661 (LL c (m 0) x0 bb) [] := by
  obtain ⟨⟨yf, yc⟩, ⟨tb, tl, tvb, tvl⟩, ⟨zn, zs⟩, yN, sN, ⟨mf, mm⟩, ⟨cb, cl⟩, mp⟩ := FRq hFR
  have hkn : 217 ≤ room_1.cells ∧ 4450 ≤ room_1.slots := ⟨Nat.le_of_ble_eq_true rfl, Nat.le_of_ble_eq_true rfl⟩
  obtain ⟨he, hF⟩ := undo_FR hFR
  have M7 := c_X7_undo l D cy x0 x1 x2 d0 d1 p0 p1 h0 h1 a b hs sl  T y yf yc yN
  have M8 := c_X8_undo l D cy m  S mf mm
  generalize f_X7_undo T y = K7 at he hF M7
  generalize f_X8_undo S = K8 at he hF M8
  obtain ⟨r7, T', y'⟩ := K7
  obtain ⟨r8, S'⟩ := K8
  have he : r7 = r8 := he
  subst he
  refine zj_aload_n C dL_law_661 2 rfl ?_
  refine zj_callVFk C hkn (nn := 147) (Bs' := (LB cy x0 x1 x2 d0 d1 p0 p1 h0 h1 a b hs sl m T' U x z y' s S)) (st := []) (st1 := [.int r7]) (([WX0 x0 x1 x2 a b d0 p0 h0, WT cy a T, WHo cy h0 h1 hs (gHs_first y) (gHs_count y)] : List va_W) ++ WHL cy hs (gHs_st y)) (([WX0 x0 x1 x2 a b d0 p0 h0, WT cy a T', WHo cy h0 h1 hs (gHs_first y') (gHs_count y')] : List va_W) ++ WHL cy hs (gHs_st y')) [0, 1, 5, 6, 7, 8, 9, 10, 11, 12] 0 7 M7 rfl rfl (zg_V tg_651 tg_648 tg_649 tg_650 tg_1) ⟨rfl, hdZ_X7_undo⟩ ⟨rfl, rfl⟩ ⟨Nat.le_of_ble_eq_true rfl, Nat.le_of_ble_eq_true rfl⟩ rfl rfl rfl (by decide) ⟨rfl, rfl⟩ rfl rfl rfl (Nat.le_of_ble_eq_true rfl) dL_law_662 rfl rfl ?_
  refine zj_aload_n C dL_law_665 1 rfl ?_
  refine zj_callVFk C hkn (nn := 10) (Bs' := (LB cy x0 x1 x2 d0 d1 p0 p1 h0 h1 a b hs sl m T' U x z y' s S')) (st := [.int r7]) (st1 := [.int r7, .int r7]) [WM cy m S] [WM cy m S'] [17] 0 8 M8 (List.append_nil _) (List.append_nil _) (zg_V tg_1004 tg_1001 tg_1002 tg_1003 tg_9) ⟨rfl, hdZ_X8_undo⟩ ⟨rfl, rfl⟩ ⟨Nat.le_of_ble_eq_true rfl, Nat.le_of_ble_eq_true rfl⟩ rfl rfl rfl (by decide) ⟨rfl, rfl⟩ rfl rfl rfl (Nat.le_of_ble_eq_true rfl) dL_law_666 rfl rfl ?_
  refine zj_icmp_eq C 720 dL_law_669 (by decide) (fun _ => ?_) (fun g => absurd rfl g)
  exact kk T' U x z y' s S' hF
set_option maxHeartbeats 4000000 in
set_option maxRecDepth 100000 in
theorem law_save (C : zO E cL_law 4 "SwingUnitsLaw" room_1 cy l D) (hsc : zScr E bb N xs) (hN : N ≤ 2048) (hc : c + 3 < N) (hq : q ≤ 512) (hFR : FR q T z y s S) (kk : ∀ (T U : zTr) (x : zDd) (z : zPd) (y : zHs) (s : zSl) (S : zMs), FR (q + 1) T z y s S → zJ E 4 217 4450 (LB cy x0 x1 x2 d0 d1 p0 p1 h0 h1 a b hs sl m T U x z y s S).flatten 720 (LL c (m 0) x0 bb) []) : zJ E 4 217 4450 (LB cy x0 x1 x2 d0 d1 p0 p1 h0 h1 a b hs sl m T U x z y s S).flatten 674 (LL c (m 0) x0 bb) [] := by
  obtain ⟨⟨yf, yc⟩, ⟨tb, tl, tvb, tvl⟩, ⟨zn, zs⟩, yN, sN, ⟨mf, mm⟩, ⟨cb, cl⟩, mp⟩ := FRq hFR
  have hkn : 217 ≤ room_1.cells ∧ 4450 ≤ room_1.slots := ⟨Nat.le_of_ble_eq_true rfl, Nat.le_of_ble_eq_true rfl⟩
  obtain ⟨he, hF⟩ := save_FR hFR (xs (c + 1))
  have M7 := c_X7_save l D cy x0 x1 x2 d0 d1 p0 p1 h0 h1 a b hs sl (xs (c + 1)) T s tb tl
  have M8 := c_X8_save l D cy m (xs (c + 1)) S 
  generalize f_X7_save T s (xs (c + 1)) = K7 at he hF M7
  generalize f_X8_save S (xs (c + 1)) = K8 at he hF M8
  obtain ⟨r7, s'⟩ := K7
  obtain ⟨r8, S'⟩ := K8
  have he : r7 = r8 := he
  subst he
  refine zj_aload_n C dL_law_674 2 rfl ?_
  refine zj_arg C hsc hN 1 rfl (by omega) dL_law_675 dL_law_676 dL_law_677 rfl dL_law_678 dL_law_679 ?_
  refine zj_callVFk C hkn (nn := 57) (Bs' := (LB cy x0 x1 x2 d0 d1 p0 p1 h0 h1 a b hs sl m T U x z y s' S)) (st := []) (st1 := [.int r7]) (([WX0 x0 x1 x2 a b d0 p0 h0, WX1 cy x1 sl, WX2 cy x2 (gSl_sv s), WT cy a T] : List va_W) ++ WSL cy sl (gSl_st s)) (([WX0 x0 x1 x2 a b d0 p0 h0, WX1 cy x1 sl, WX2 cy x2 (gSl_sv s'), WT cy a T] : List va_W) ++ WSL cy sl (gSl_st s')) [0, 13, 16, 1, 14, 15] 0 7 M7 rfl rfl (zg_V tg_659 tg_656 tg_657 tg_658 tg_1) ⟨rfl, hdZ_X7_save⟩ ⟨rfl, rfl⟩ ⟨Nat.le_of_ble_eq_true rfl, Nat.le_of_ble_eq_true rfl⟩ rfl rfl rfl (by decide) ⟨rfl, rfl⟩ rfl rfl rfl (Nat.le_of_ble_eq_true rfl) dL_law_680 rfl rfl ?_
  refine zj_aload_n C dL_law_683 1 rfl ?_
  refine zj_arg C hsc hN 1 rfl (by omega) dL_law_684 dL_law_685 dL_law_686 rfl dL_law_687 dL_law_688 ?_
  refine zj_callVFk C hkn (nn := 10) (Bs' := (LB cy x0 x1 x2 d0 d1 p0 p1 h0 h1 a b hs sl m T U x z y s' S')) (st := [.int r7]) (st1 := [.int r7, .int r7]) [WM cy m S] [WM cy m S'] [17] 0 8 M8 (List.append_nil _) (List.append_nil _) (zg_V tg_1008 tg_1005 tg_1006 tg_1007 tg_9) ⟨rfl, hdZ_X8_save⟩ ⟨rfl, rfl⟩ ⟨Nat.le_of_ble_eq_true rfl, Nat.le_of_ble_eq_true rfl⟩ rfl rfl rfl (by decide) ⟨rfl, rfl⟩ rfl rfl rfl (Nat.le_of_ble_eq_true rfl) dL_law_689 rfl rfl ?_
  refine zj_icmp_eq C 720 dL_law_692 (by decide) (fun _ => ?_) (fun g => absurd rfl g)
  exact kk T U x z y s' S' hF
set_option maxHeartbeats 4000000 in
set_option maxRecDepth 100000 in
theorem law_restore (C : zO E cL_law 4 "SwingUnitsLaw" room_1 cy l D) (hsc : zScr E bb N xs) (hN : N ≤ 2048) (hc : c + 3 < N) (hq : q ≤ 512) (hFR : FR q T z y s S) (kk : ∀ (T U : zTr) (x : zDd) (z : zPd) (y : zHs) (s : zSl) (S : zMs), FR (q + 1) T z y s S → zJ E 4 217 4450 (LB cy x0 x1 x2 d0 d1 p0 p1 h0 h1 a b hs sl m T U x z y s S).flatten 720 (LL c (m 0) x0 bb) []) : zJ E 4 217 4450 (LB cy x0 x1 x2 d0 d1 p0 p1 h0 h1 a b hs sl m T U x z y s S).flatten 697 (LL c (m 0) x0 bb) [] := by
  obtain ⟨⟨yf, yc⟩, ⟨tb, tl, tvb, tvl⟩, ⟨zn, zs⟩, yN, sN, ⟨mf, mm⟩, ⟨cb, cl⟩, mp⟩ := FRq hFR
  have hkn : 217 ≤ room_1.cells ∧ 4450 ≤ room_1.slots := ⟨Nat.le_of_ble_eq_true rfl, Nat.le_of_ble_eq_true rfl⟩
  obtain ⟨he, hF⟩ := restore_FR hFR (xs (c + 1))
  have M7 := c_X7_restore l D cy x0 x1 x2 d0 d1 p0 p1 h0 h1 a b hs sl (xs (c + 1)) T y s yf yc tb tl sN
  have M8 := c_X8_restore l D cy m (xs (c + 1)) S mf mm
  generalize f_X7_restore T y s (xs (c + 1)) = K7 at he hF M7
  generalize f_X8_restore S (xs (c + 1)) = K8 at he hF M8
  obtain ⟨r7, T', y'⟩ := K7
  obtain ⟨r8, S'⟩ := K8
  have he : r7 = r8 := he
  subst he
  refine zj_aload_n C dL_law_697 2 rfl ?_
  refine zj_arg C hsc hN 1 rfl (by omega) dL_law_698 dL_law_699 dL_law_700 rfl dL_law_701 dL_law_702 ?_
  refine zj_callVFk C hkn (nn := 185) (Bs' := (LB cy x0 x1 x2 d0 d1 p0 p1 h0 h1 a b hs sl m T' U x z y' s S)) (st := []) (st1 := [.int r7]) (([WX0 x0 x1 x2 a b d0 p0 h0, WX1 cy x1 sl, WX2 cy x2 (gSl_sv s), WT cy a T, WHo cy h0 h1 hs (gHs_first y) (gHs_count y)] : List va_W) ++ (WHL cy hs (gHs_st y) ++ WSL cy sl (gSl_st s))) (([WX0 x0 x1 x2 a b d0 p0 h0, WX1 cy x1 sl, WX2 cy x2 (gSl_sv s), WT cy a T', WHo cy h0 h1 hs (gHs_first y') (gHs_count y')] : List va_W) ++ (WHL cy hs (gHs_st y') ++ WSL cy sl (gSl_st s))) [0, 13, 16, 1, 5, 6, 7, 8, 9, 10, 11, 12, 14, 15] 0 7 M7 rfl rfl (zg_V tg_663 tg_660 tg_661 tg_662 tg_1) ⟨rfl, hdZ_X7_restore⟩ ⟨rfl, rfl⟩ ⟨Nat.le_of_ble_eq_true rfl, Nat.le_of_ble_eq_true rfl⟩ rfl rfl rfl (by decide) ⟨rfl, rfl⟩ rfl rfl rfl (Nat.le_of_ble_eq_true rfl) dL_law_703 rfl rfl ?_
  refine zj_aload_n C dL_law_706 1 rfl ?_
  refine zj_arg C hsc hN 1 rfl (by omega) dL_law_707 dL_law_708 dL_law_709 rfl dL_law_710 dL_law_711 ?_
  refine zj_callVFk C hkn (nn := 10) (Bs' := (LB cy x0 x1 x2 d0 d1 p0 p1 h0 h1 a b hs sl m T' U x z y' s S')) (st := [.int r7]) (st1 := [.int r7, .int r7]) [WM cy m S] [WM cy m S'] [17] 0 8 M8 (List.append_nil _) (List.append_nil _) (zg_V tg_1012 tg_1009 tg_1010 tg_1011 tg_9) ⟨rfl, hdZ_X8_restore⟩ ⟨rfl, rfl⟩ ⟨Nat.le_of_ble_eq_true rfl, Nat.le_of_ble_eq_true rfl⟩ rfl rfl rfl (by decide) ⟨rfl, rfl⟩ rfl rfl rfl (Nat.le_of_ble_eq_true rfl) dL_law_712 rfl rfl ?_
  refine zj_icmp_eq C 720 dL_law_715 (by decide) (fun _ => ?_) (fun g => absurd rfl g)
  exact kk T' U x z y' s S' hF
end LAW
