/-! the calls of the law: ofHolder .. fairSwing -/
section LAW
variable {E : zE} {cy : Nat → ClassId} {l : Launch} {D : va_G} {bb N c q : Nat} {xs : Nat → Int32} {x0 x1 x2 d0 d1 p0 p1 h0 h1 : Nat} {a b : Nat → Nat} {hs sl : Nat → Nat → Nat} {m : Nat → Nat} {T U : zTr} {x : zDd} {z : zPd} {y : zHs} {s : zSl} {S : zMs}
set_option maxHeartbeats 4000000 in
set_option maxRecDepth 100000 in
theorem law_ofHolder (C : zO E cL_law 4 "SwingUnitsLaw" room_1 cy l D) (hsc : zScr E bb N xs) (hN : N ≤ 2048) (hc : c + 3 < N) (hq : q ≤ 512) (hFR : FR q T z y s S) (kk : ∀ (T U : zTr) (x : zDd) (z : zPd) (y : zHs) (s : zSl) (S : zMs), FR (q + 1) T z y s S → zJ E 4 217 4450 (LB cy x0 x1 x2 d0 d1 p0 p1 h0 h1 a b hs sl m T U x z y s S).flatten 720 (LL c (m 0) x0 bb) []) : zJ E 4 217 4450 (LB cy x0 x1 x2 d0 d1 p0 p1 h0 h1 a b hs sl m T U x z y s S).flatten 387 (LL c (m 0) x0 bb) [] := by
  obtain ⟨⟨yf, yc⟩, ⟨tb, tl, tvb, tvl⟩, ⟨zn, zs⟩, yN, sN, ⟨mf, mm⟩, ⟨cb, cl⟩, mp⟩ := FRq hFR
  have hkn : 217 ≤ room_1.cells ∧ 4450 ≤ room_1.slots := ⟨Nat.le_of_ble_eq_true rfl, Nat.le_of_ble_eq_true rfl⟩
  have he := ofHolder_FR hFR (xs (c + 1)) (xs (c + 2))
  have hF := FR_same hFR
  have M7 := c_X7_ofHolder l D cy x0 x1 x2 d0 d1 p0 p1 h0 h1 a b hs sl (xs (c + 1)) (xs (c + 2)) T tl
  have M8 := c_X8_ofHolder l D cy m (xs (c + 1)) (xs (c + 2)) S cl
  generalize f_X7_ofHolder T (xs (c + 1)) (xs (c + 2)) = r7 at he M7
  generalize f_X8_ofHolder S (xs (c + 1)) (xs (c + 2)) = r8 at he M8
  subst he
  refine zj_aload_n C dL_law_387 2 rfl ?_
  refine zj_arg C hsc hN 1 rfl (by omega) dL_law_388 dL_law_389 dL_law_390 rfl dL_law_391 dL_law_392 ?_
  refine zj_arg C hsc hN 2 rfl (by omega) dL_law_393 dL_law_394 dL_law_395 rfl dL_law_396 dL_law_397 ?_
  refine zj_callVFk C hkn (nn := 19) (Bs' := (LB cy x0 x1 x2 d0 d1 p0 p1 h0 h1 a b hs sl m T U x z y s S)) (st := []) (st1 := [.int r7]) ([WX0 x0 x1 x2 a b d0 p0 h0, WT cy a T] : List va_W) ([WX0 x0 x1 x2 a b d0 p0 h0, WT cy a T] : List va_W) [0, 1] 0 7 M7 rfl rfl (zg_V tg_532 tg_529 tg_530 tg_531 tg_1) ⟨rfl, hdZ_X7_ofHolder⟩ ⟨rfl, rfl⟩ ⟨Nat.le_of_ble_eq_true rfl, Nat.le_of_ble_eq_true rfl⟩ rfl rfl rfl (by decide) ⟨rfl, rfl⟩ rfl rfl rfl (Nat.le_of_ble_eq_true rfl) dL_law_398 rfl rfl ?_
  refine zj_aload_n C dL_law_401 1 rfl ?_
  refine zj_arg C hsc hN 1 rfl (by omega) dL_law_402 dL_law_403 dL_law_404 rfl dL_law_405 dL_law_406 ?_
  refine zj_arg C hsc hN 2 rfl (by omega) dL_law_407 dL_law_408 dL_law_409 rfl dL_law_410 dL_law_411 ?_
  refine zj_callVFk C hkn (nn := 10) (Bs' := (LB cy x0 x1 x2 d0 d1 p0 p1 h0 h1 a b hs sl m T U x z y s S)) (st := [.int r7]) (st1 := [.int r7, .int r7]) [WM cy m S] [WM cy m S] [17] 0 8 M8 (List.append_nil _) (List.append_nil _) (zg_V tg_914 tg_911 tg_912 tg_913 tg_9) ⟨rfl, hdZ_X8_ofHolder⟩ ⟨rfl, rfl⟩ ⟨Nat.le_of_ble_eq_true rfl, Nat.le_of_ble_eq_true rfl⟩ rfl rfl rfl (by decide) ⟨rfl, rfl⟩ rfl rfl rfl (Nat.le_of_ble_eq_true rfl) dL_law_412 rfl rfl ?_
  refine zj_icmp_eq C 720 dL_law_415 (by decide) (fun _ => ?_) (fun g => absurd rfl g)
  exact kk T U x z y s S hF
set_option maxHeartbeats 4000000 in
set_option maxRecDepth 100000 in
theorem law_count (C : zO E cL_law 4 "SwingUnitsLaw" room_1 cy l D) (hsc : zScr E bb N xs) (hN : N ≤ 2048) (hc : c + 3 < N) (hq : q ≤ 512) (hFR : FR q T z y s S) (kk : ∀ (T U : zTr) (x : zDd) (z : zPd) (y : zHs) (s : zSl) (S : zMs), FR (q + 1) T z y s S → zJ E 4 217 4450 (LB cy x0 x1 x2 d0 d1 p0 p1 h0 h1 a b hs sl m T U x z y s S).flatten 720 (LL c (m 0) x0 bb) []) : zJ E 4 217 4450 (LB cy x0 x1 x2 d0 d1 p0 p1 h0 h1 a b hs sl m T U x z y s S).flatten 420 (LL c (m 0) x0 bb) [] := by
  obtain ⟨⟨yf, yc⟩, ⟨tb, tl, tvb, tvl⟩, ⟨zn, zs⟩, yN, sN, ⟨mf, mm⟩, ⟨cb, cl⟩, mp⟩ := FRq hFR
  have hkn : 217 ≤ room_1.cells ∧ 4450 ≤ room_1.slots := ⟨Nat.le_of_ble_eq_true rfl, Nat.le_of_ble_eq_true rfl⟩
  have he := count_FR hFR (xs (c + 1))
  have hF := FR_same hFR
  have M7 := c_X7_count l D cy x0 x1 x2 d0 d1 p0 p1 h0 h1 a b hs sl (xs (c + 1)) T z y tl
  have M8 := c_X8_count l D cy m (xs (c + 1)) S cl
  generalize f_X7_count T z y (xs (c + 1)) = r7 at he M7
  generalize f_X8_count S (xs (c + 1)) = r8 at he M8
  subst he
  refine zj_aload_n C dL_law_420 2 rfl ?_
  refine zj_arg C hsc hN 1 rfl (by omega) dL_law_421 dL_law_422 dL_law_423 rfl dL_law_424 dL_law_425 ?_
  refine zj_callVFk C hkn (nn := 23) (Bs' := (LB cy x0 x1 x2 d0 d1 p0 p1 h0 h1 a b hs sl m T U x z y s S)) (st := []) (st1 := [.int r7]) ([WX0 x0 x1 x2 a b d0 p0 h0, WT cy a T, WP cy p0 p1 z, WHo cy h0 h1 hs (gHs_first y) (gHs_count y)] : List va_W) ([WX0 x0 x1 x2 a b d0 p0 h0, WT cy a T, WP cy p0 p1 z, WHo cy h0 h1 hs (gHs_first y) (gHs_count y)] : List va_W) [0, 1, 4, 5] 0 7 M7 rfl rfl (zg_V tg_539 tg_536 tg_537 tg_538 tg_1) ⟨rfl, hdZ_X7_count⟩ ⟨rfl, rfl⟩ ⟨Nat.le_of_ble_eq_true rfl, Nat.le_of_ble_eq_true rfl⟩ rfl rfl rfl (by decide) ⟨rfl, rfl⟩ rfl rfl rfl (Nat.le_of_ble_eq_true rfl) dL_law_426 rfl rfl ?_
  refine zj_aload_n C dL_law_429 1 rfl ?_
  refine zj_arg C hsc hN 1 rfl (by omega) dL_law_430 dL_law_431 dL_law_432 rfl dL_law_433 dL_law_434 ?_
  refine zj_callVFk C hkn (nn := 10) (Bs' := (LB cy x0 x1 x2 d0 d1 p0 p1 h0 h1 a b hs sl m T U x z y s S)) (st := [.int r7]) (st1 := [.int r7, .int r7]) [WM cy m S] [WM cy m S] [17] 0 8 M8 (List.append_nil _) (List.append_nil _) (zg_V tg_918 tg_915 tg_916 tg_917 tg_9) ⟨rfl, hdZ_X8_count⟩ ⟨rfl, rfl⟩ ⟨Nat.le_of_ble_eq_true rfl, Nat.le_of_ble_eq_true rfl⟩ rfl rfl rfl (by decide) ⟨rfl, rfl⟩ rfl rfl rfl (Nat.le_of_ble_eq_true rfl) dL_law_435 rfl rfl ?_
  refine zj_icmp_eq C 720 dL_law_438 (by decide) (fun _ => ?_) (fun g => absurd rfl g)
  exact kk T U x z y s S hF
set_option maxHeartbeats 4000000 in
set_option maxRecDepth 100000 in
theorem law_order (C : zO E cL_law 4 "SwingUnitsLaw" room_1 cy l D) (hsc : zScr E bb N xs) (hN : N ≤ 2048) (hc : c + 3 < N) (hq : q ≤ 512) (hFR : FR q T z y s S) (kk : ∀ (T U : zTr) (x : zDd) (z : zPd) (y : zHs) (s : zSl) (S : zMs), FR (q + 1) T z y s S → zJ E 4 217 4450 (LB cy x0 x1 x2 d0 d1 p0 p1 h0 h1 a b hs sl m T U x z y s S).flatten 720 (LL c (m 0) x0 bb) []) : zJ E 4 217 4450 (LB cy x0 x1 x2 d0 d1 p0 p1 h0 h1 a b hs sl m T U x z y s S).flatten 443 (LL c (m 0) x0 bb) [] := by
  obtain ⟨⟨yf, yc⟩, ⟨tb, tl, tvb, tvl⟩, ⟨zn, zs⟩, yN, sN, ⟨mf, mm⟩, ⟨cb, cl⟩, mp⟩ := FRq hFR
  have hkn : 217 ≤ room_1.cells ∧ 4450 ≤ room_1.slots := ⟨Nat.le_of_ble_eq_true rfl, Nat.le_of_ble_eq_true rfl⟩
  have he := order_FR hFR (xs (c + 1)) (xs (c + 2)) (xs (c + 3))
  have hF := FR_same hFR
  have M7 := c_X7_order l D cy x0 x1 x2 d0 d1 p0 p1 h0 h1 a b hs sl (xs (c + 1)) (xs (c + 2)) (xs (c + 3)) T tb tl
  have M8 := c_X8_order l D cy m (xs (c + 1)) (xs (c + 2)) (xs (c + 3)) S cb cl
  generalize f_X7_order T (xs (c + 1)) (xs (c + 2)) (xs (c + 3)) = r7 at he M7
  generalize f_X8_order S (xs (c + 1)) (xs (c + 2)) (xs (c + 3)) = r8 at he M8
  subst he
  refine zj_aload_n C dL_law_443 2 rfl ?_
  refine zj_arg C hsc hN 1 rfl (by omega) dL_law_444 dL_law_445 dL_law_446 rfl dL_law_447 dL_law_448 ?_
  refine zj_arg C hsc hN 2 rfl (by omega) dL_law_449 dL_law_450 dL_law_451 rfl dL_law_452 dL_law_453 ?_
  refine zj_arg C hsc hN 3 rfl (by omega) dL_law_454 dL_law_455 dL_law_456 rfl dL_law_457 dL_law_458 ?_
  refine zj_callVFk C hkn (nn := 19) (Bs' := (LB cy x0 x1 x2 d0 d1 p0 p1 h0 h1 a b hs sl m T U x z y s S)) (st := []) (st1 := [.int r7]) ([WX0 x0 x1 x2 a b d0 p0 h0, WT cy a T] : List va_W) ([WX0 x0 x1 x2 a b d0 p0 h0, WT cy a T] : List va_W) [0, 1] 0 7 M7 rfl rfl (zg_V tg_547 tg_544 tg_545 tg_546 tg_1) ⟨rfl, hdZ_X7_order⟩ ⟨rfl, rfl⟩ ⟨Nat.le_of_ble_eq_true rfl, Nat.le_of_ble_eq_true rfl⟩ rfl rfl rfl (by decide) ⟨rfl, rfl⟩ rfl rfl rfl (Nat.le_of_ble_eq_true rfl) dL_law_459 rfl rfl ?_
  refine zj_aload_n C dL_law_462 1 rfl ?_
  refine zj_arg C hsc hN 1 rfl (by omega) dL_law_463 dL_law_464 dL_law_465 rfl dL_law_466 dL_law_467 ?_
  refine zj_arg C hsc hN 2 rfl (by omega) dL_law_468 dL_law_469 dL_law_470 rfl dL_law_471 dL_law_472 ?_
  refine zj_arg C hsc hN 3 rfl (by omega) dL_law_473 dL_law_474 dL_law_475 rfl dL_law_476 dL_law_477 ?_
  refine zj_callVFk C hkn (nn := 10) (Bs' := (LB cy x0 x1 x2 d0 d1 p0 p1 h0 h1 a b hs sl m T U x z y s S)) (st := [.int r7]) (st1 := [.int r7, .int r7]) [WM cy m S] [WM cy m S] [17] 0 8 M8 (List.append_nil _) (List.append_nil _) (zg_V tg_922 tg_919 tg_920 tg_921 tg_9) ⟨rfl, hdZ_X8_order⟩ ⟨rfl, rfl⟩ ⟨Nat.le_of_ble_eq_true rfl, Nat.le_of_ble_eq_true rfl⟩ rfl rfl rfl (by decide) ⟨rfl, rfl⟩ rfl rfl rfl (Nat.le_of_ble_eq_true rfl) dL_law_478 rfl rfl ?_
  refine zj_icmp_eq C 720 dL_law_481 (by decide) (fun _ => ?_) (fun g => absurd rfl g)
  exact kk T U x z y s S hF
set_option maxHeartbeats 4000000 in
set_option maxRecDepth 100000 in
theorem law_lastDay (C : zO E cL_law 4 "SwingUnitsLaw" room_1 cy l D) (hsc : zScr E bb N xs) (hN : N ≤ 2048) (hc : c + 3 < N) (hq : q ≤ 512) (hFR : FR q T z y s S) (kk : ∀ (T U : zTr) (x : zDd) (z : zPd) (y : zHs) (s : zSl) (S : zMs), FR (q + 1) T z y s S → zJ E 4 217 4450 (LB cy x0 x1 x2 d0 d1 p0 p1 h0 h1 a b hs sl m T U x z y s S).flatten 720 (LL c (m 0) x0 bb) []) : zJ E 4 217 4450 (LB cy x0 x1 x2 d0 d1 p0 p1 h0 h1 a b hs sl m T U x z y s S).flatten 486 (LL c (m 0) x0 bb) [] := by
  obtain ⟨⟨yf, yc⟩, ⟨tb, tl, tvb, tvl⟩, ⟨zn, zs⟩, yN, sN, ⟨mf, mm⟩, ⟨cb, cl⟩, mp⟩ := FRq hFR
  have hkn : 217 ≤ room_1.cells ∧ 4450 ≤ room_1.slots := ⟨Nat.le_of_ble_eq_true rfl, Nat.le_of_ble_eq_true rfl⟩
  have he := lastDay_FR hFR (xs (c + 1))
  have hF := FR_same hFR
  have M7 := c_X7_lastDay l D cy x0 x1 x2 d0 d1 p0 p1 h0 h1 a b hs sl (xs (c + 1)) T 
  have M8 := c_X8_lastDay l D cy m (xs (c + 1)) S 
  generalize f_X7_lastDay T (xs (c + 1)) = r7 at he M7
  generalize f_X8_lastDay S (xs (c + 1)) = r8 at he M8
  subst he
  refine zj_aload_n C dL_law_486 2 rfl ?_
  refine zj_arg C hsc hN 1 rfl (by omega) dL_law_487 dL_law_488 dL_law_489 rfl dL_law_490 dL_law_491 ?_
  refine zj_callVFk C hkn (nn := 19) (Bs' := (LB cy x0 x1 x2 d0 d1 p0 p1 h0 h1 a b hs sl m T U x z y s S)) (st := []) (st1 := [.int r7]) ([WX0 x0 x1 x2 a b d0 p0 h0, WT cy a T] : List va_W) ([WX0 x0 x1 x2 a b d0 p0 h0, WT cy a T] : List va_W) [0, 1] 0 7 M7 rfl rfl (zg_V tg_551 tg_548 tg_549 tg_550 tg_1) ⟨rfl, hdZ_X7_lastDay⟩ ⟨rfl, rfl⟩ ⟨Nat.le_of_ble_eq_true rfl, Nat.le_of_ble_eq_true rfl⟩ rfl rfl rfl (by decide) ⟨rfl, rfl⟩ rfl rfl rfl (Nat.le_of_ble_eq_true rfl) dL_law_492 rfl rfl ?_
  refine zj_aload_n C dL_law_495 1 rfl ?_
  refine zj_arg C hsc hN 1 rfl (by omega) dL_law_496 dL_law_497 dL_law_498 rfl dL_law_499 dL_law_500 ?_
  refine zj_callVFk C hkn (nn := 10) (Bs' := (LB cy x0 x1 x2 d0 d1 p0 p1 h0 h1 a b hs sl m T U x z y s S)) (st := [.int r7]) (st1 := [.int r7, .int r7]) [WM cy m S] [WM cy m S] [17] 0 8 M8 (List.append_nil _) (List.append_nil _) (zg_V tg_927 tg_924 tg_925 tg_926 tg_9) ⟨rfl, hdZ_X8_lastDay⟩ ⟨rfl, rfl⟩ ⟨Nat.le_of_ble_eq_true rfl, Nat.le_of_ble_eq_true rfl⟩ rfl rfl rfl (by decide) ⟨rfl, rfl⟩ rfl rfl rfl (Nat.le_of_ble_eq_true rfl) dL_law_501 rfl rfl ?_
  refine zj_icmp_eq C 720 dL_law_504 (by decide) (fun _ => ?_) (fun g => absurd rfl g)
  exact kk T U x z y s S hF
set_option maxHeartbeats 4000000 in
set_option maxRecDepth 100000 in
theorem law_price (C : zO E cL_law 4 "SwingUnitsLaw" room_1 cy l D) (hsc : zScr E bb N xs) (hN : N ≤ 2048) (hc : c + 3 < N) (hq : q ≤ 512) (hFR : FR q T z y s S) (kk : ∀ (T U : zTr) (x : zDd) (z : zPd) (y : zHs) (s : zSl) (S : zMs), FR (q + 1) T z y s S → zJ E 4 217 4450 (LB cy x0 x1 x2 d0 d1 p0 p1 h0 h1 a b hs sl m T U x z y s S).flatten 720 (LL c (m 0) x0 bb) []) : zJ E 4 217 4450 (LB cy x0 x1 x2 d0 d1 p0 p1 h0 h1 a b hs sl m T U x z y s S).flatten 509 (LL c (m 0) x0 bb) [] := by
  obtain ⟨⟨yf, yc⟩, ⟨tb, tl, tvb, tvl⟩, ⟨zn, zs⟩, yN, sN, ⟨mf, mm⟩, ⟨cb, cl⟩, mp⟩ := FRq hFR
  have hkn : 217 ≤ room_1.cells ∧ 4450 ≤ room_1.slots := ⟨Nat.le_of_ble_eq_true rfl, Nat.le_of_ble_eq_true rfl⟩
  have he := price_FR hFR x (xs (c + 1))
  have hF := FR_same hFR
  have M7 := c_X7_price l D cy x0 x1 x2 d0 d1 p0 p1 h0 h1 a b hs sl (xs (c + 1)) T x tb tl
  have M8 := c_X8_price l D cy m (xs (c + 1)) S cb cl
  generalize f_X7_price T x (xs (c + 1)) = K7 at he M7
  generalize f_X8_price S (xs (c + 1)) = r8 at he M8
  obtain ⟨r7, x'⟩ := K7
  have he : r7 = r8 := he
  subst he
  refine zj_aload_n C dL_law_509 2 rfl ?_
  refine zj_arg C hsc hN 1 rfl (by omega) dL_law_510 dL_law_511 dL_law_512 rfl dL_law_513 dL_law_514 ?_
  refine zj_callVFk C hkn (nn := 21) (Bs' := (LB cy x0 x1 x2 d0 d1 p0 p1 h0 h1 a b hs sl m T U x' z y s S)) (st := []) (st1 := [.long r7]) ([WX0 x0 x1 x2 a b d0 p0 h0, WT cy a T, WD cy d0 d1 x] : List va_W) ([WX0 x0 x1 x2 a b d0 p0 h0, WT cy a T, WD cy d0 d1 x'] : List va_W) [0, 1, 3] 0 7 M7 rfl rfl (zg_V tg_555 tg_552 tg_553 tg_554 tg_1) ⟨rfl, hdZ_X7_price⟩ ⟨rfl, rfl⟩ ⟨Nat.le_of_ble_eq_true rfl, Nat.le_of_ble_eq_true rfl⟩ rfl rfl rfl (by decide) ⟨rfl, rfl⟩ rfl rfl rfl (Nat.le_of_ble_eq_true rfl) dL_law_515 rfl rfl ?_
  refine zj_aload_n C dL_law_518 1 rfl ?_
  refine zj_arg C hsc hN 1 rfl (by omega) dL_law_519 dL_law_520 dL_law_521 rfl dL_law_522 dL_law_523 ?_
  refine zj_callVFk C hkn (nn := 10) (Bs' := (LB cy x0 x1 x2 d0 d1 p0 p1 h0 h1 a b hs sl m T U x' z y s S)) (st := [.long r7]) (st1 := [.long r7, .long r7]) [WM cy m S] [WM cy m S] [17] 0 8 M8 (List.append_nil _) (List.append_nil _) (zg_V tg_931 tg_928 tg_929 tg_930 tg_9) ⟨rfl, hdZ_X8_price⟩ ⟨rfl, rfl⟩ ⟨Nat.le_of_ble_eq_true rfl, Nat.le_of_ble_eq_true rfl⟩ rfl rfl rfl (by decide) ⟨rfl, rfl⟩ rfl rfl rfl (Nat.le_of_ble_eq_true rfl) dL_law_524 rfl rfl ?_
  refine zj_lcmp_eq C 720 dL_law_527 dL_law_528 (by decide) (fun _ => ?_) (fun g => absurd rfl g)
  exact kk T U x' z y s S hF
set_option maxHeartbeats 4000000 in
set_option maxRecDepth 100000 in
theorem law_exitIn (C : zO E cL_law 4 "SwingUnitsLaw" room_1 cy l D) (hsc : zScr E bb N xs) (hN : N ≤ 2048) (hc : c + 3 < N) (hq : q ≤ 512) (hFR : FR q T z y s S) (kk : ∀ (T U : zTr) (x : zDd) (z : zPd) (y : zHs) (s : zSl) (S : zMs), FR (q + 1) T z y s S → zJ E 4 217 4450 (LB cy x0 x1 x2 d0 d1 p0 p1 h0 h1 a b hs sl m T U x z y s S).flatten 720 (LL c (m 0) x0 bb) []) : zJ E 4 217 4450 (LB cy x0 x1 x2 d0 d1 p0 p1 h0 h1 a b hs sl m T U x z y s S).flatten 533 (LL c (m 0) x0 bb) [] := by
  obtain ⟨⟨yf, yc⟩, ⟨tb, tl, tvb, tvl⟩, ⟨zn, zs⟩, yN, sN, ⟨mf, mm⟩, ⟨cb, cl⟩, mp⟩ := FRq hFR
  have hkn : 217 ≤ room_1.cells ∧ 4450 ≤ room_1.slots := ⟨Nat.le_of_ble_eq_true rfl, Nat.le_of_ble_eq_true rfl⟩
  obtain ⟨P, e0, e1⟩ := exitIn_P7 hq hFR U x
  obtain ⟨P8, g0, g1⟩ := exitIn_P8 hq hFR
  obtain ⟨he, hF⟩ := exitIn_FR hq hFR (xs (c + 1)) U x
  have M7 := c_X7_exitIn l D cy x0 x1 x2 d0 d1 p0 p1 h0 h1 a b hs sl (xs (c + 1)) T U x tb tl P e0 e1
  have M8 := c_X8_exitIn l D cy m (xs (c + 1)) S P8 g0 g1
  generalize f_X7_exitIn T U x (xs (c + 1)) = K7 at he hF M7
  generalize f_X8_exitIn S (xs (c + 1)) = K8 at he hF M8
  obtain ⟨r7, U', x'⟩ := K7
  obtain ⟨r8, S'⟩ := K8
  have he : r7 = r8 := he
  subst he
  refine zj_aload_n C dL_law_533 2 rfl ?_
  refine zj_arg C hsc hN 1 rfl (by omega) dL_law_534 dL_law_535 dL_law_536 rfl dL_law_537 dL_law_538 ?_
  refine zj_callVFk C hkn (nn := 39) (Bs' := (LB cy x0 x1 x2 d0 d1 p0 p1 h0 h1 a b hs sl m T U' x' z y s S)) (st := []) (st1 := [.int r7]) ([WX0 x0 x1 x2 a b d0 p0 h0, WT cy a T, WT cy b U, WD cy d0 d1 x] : List va_W) ([WX0 x0 x1 x2 a b d0 p0 h0, WT cy a T, WT cy b U', WD cy d0 d1 x'] : List va_W) [0, 1, 2, 3] 0 7 M7 rfl rfl (zg_V tg_567 tg_564 tg_565 tg_566 tg_1) ⟨rfl, hdZ_X7_exitIn⟩ ⟨rfl, rfl⟩ ⟨Nat.le_of_ble_eq_true rfl, Nat.le_of_ble_eq_true rfl⟩ rfl rfl rfl (by decide) ⟨rfl, rfl⟩ rfl rfl rfl (Nat.le_of_ble_eq_true rfl) dL_law_539 rfl rfl ?_
  refine zj_aload_n C dL_law_542 1 rfl ?_
  refine zj_arg C hsc hN 1 rfl (by omega) dL_law_543 dL_law_544 dL_law_545 rfl dL_law_546 dL_law_547 ?_
  refine zj_callVFk C hkn (nn := 10) (Bs' := (LB cy x0 x1 x2 d0 d1 p0 p1 h0 h1 a b hs sl m T U' x' z y s S')) (st := [.int r7]) (st1 := [.int r7, .int r7]) [WM cy m S] [WM cy m S'] [17] 0 8 M8 (List.append_nil _) (List.append_nil _) (zg_V tg_936 tg_933 tg_934 tg_935 tg_9) ⟨rfl, hdZ_X8_exitIn⟩ ⟨rfl, rfl⟩ ⟨Nat.le_of_ble_eq_true rfl, Nat.le_of_ble_eq_true rfl⟩ rfl rfl rfl (by decide) ⟨rfl, rfl⟩ rfl rfl rfl (Nat.le_of_ble_eq_true rfl) dL_law_548 rfl rfl ?_
  refine zj_icmp_eq C 720 dL_law_551 (by decide) (fun _ => ?_) (fun g => absurd rfl g)
  exact kk T U' x' z y s S' hF
set_option maxHeartbeats 4000000 in
set_option maxRecDepth 100000 in
theorem law_fairSwing (C : zO E cL_law 4 "SwingUnitsLaw" room_1 cy l D) (hsc : zScr E bb N xs) (hN : N ≤ 2048) (hc : c + 3 < N) (hq : q ≤ 512) (hFR : FR q T z y s S) (kk : ∀ (T U : zTr) (x : zDd) (z : zPd) (y : zHs) (s : zSl) (S : zMs), FR (q + 1) T z y s S → zJ E 4 217 4450 (LB cy x0 x1 x2 d0 d1 p0 p1 h0 h1 a b hs sl m T U x z y s S).flatten 720 (LL c (m 0) x0 bb) []) : zJ E 4 217 4450 (LB cy x0 x1 x2 d0 d1 p0 p1 h0 h1 a b hs sl m T U x z y s S).flatten 556 (LL c (m 0) x0 bb) [] := by
  obtain ⟨⟨yf, yc⟩, ⟨tb, tl, tvb, tvl⟩, ⟨zn, zs⟩, yN, sN, ⟨mf, mm⟩, ⟨cb, cl⟩, mp⟩ := FRq hFR
  have hkn : 217 ≤ room_1.cells ∧ 4450 ≤ room_1.slots := ⟨Nat.le_of_ble_eq_true rfl, Nat.le_of_ble_eq_true rfl⟩
  obtain ⟨P8, g0, g1⟩ := fair_P8 hq hFR
  obtain ⟨he, hF⟩ := fairSwing_FR hq hFR U x
  have M7 := c_X7_fairSwing l D cy x0 x1 x2 d0 d1 p0 p1 h0 h1 a b hs sl  T U x tb tl (fun _ _ => True) trivial (fun X U k hk _ => ⟨fair_P7 hq hFR U hk, trivial⟩)
  have M8 := c_X8_fairSwing l D cy m  S P8 g0 g1
  generalize f_X7_fairSwing T U x = K7 at he hF M7
  generalize f_X8_fairSwing S = K8 at he hF M8
  obtain ⟨r7, U', x'⟩ := K7
  obtain ⟨r8, S'⟩ := K8
  have he : r7 = r8 := he
  subst he
  refine zj_aload_n C dL_law_556 2 rfl ?_
  refine zj_callVFk C hkn (nn := 39) (Bs' := (LB cy x0 x1 x2 d0 d1 p0 p1 h0 h1 a b hs sl m T U' x' z y s S)) (st := []) (st1 := [.int r7]) ([WX0 x0 x1 x2 a b d0 p0 h0, WT cy a T, WT cy b U, WD cy d0 d1 x] : List va_W) ([WX0 x0 x1 x2 a b d0 p0 h0, WT cy a T, WT cy b U', WD cy d0 d1 x'] : List va_W) [0, 1, 2, 3] 0 7 M7 rfl rfl (zg_V tg_572 tg_569 tg_570 tg_571 tg_1) ⟨rfl, hdZ_X7_fairSwing⟩ ⟨rfl, rfl⟩ ⟨Nat.le_of_ble_eq_true rfl, Nat.le_of_ble_eq_true rfl⟩ rfl rfl rfl (by decide) ⟨rfl, rfl⟩ rfl rfl rfl (Nat.le_of_ble_eq_true rfl) dL_law_557 rfl rfl ?_
  refine zj_aload_n C dL_law_560 1 rfl ?_
  refine zj_callVFk C hkn (nn := 10) (Bs' := (LB cy x0 x1 x2 d0 d1 p0 p1 h0 h1 a b hs sl m T U' x' z y s S')) (st := [.int r7]) (st1 := [.int r7, .int r7]) [WM cy m S] [WM cy m S'] [17] 0 8 M8 (List.append_nil _) (List.append_nil _) (zg_V tg_948 tg_945 tg_946 tg_947 tg_9) ⟨rfl, hdZ_X8_fairSwing⟩ ⟨rfl, rfl⟩ ⟨Nat.le_of_ble_eq_true rfl, Nat.le_of_ble_eq_true rfl⟩ rfl rfl rfl (by decide) ⟨rfl, rfl⟩ rfl rfl rfl (Nat.le_of_ble_eq_true rfl) dL_law_561 rfl rfl ?_
  refine zj_icmp_eq C 720 dL_law_564 (by decide) (fun _ => ?_) (fun g => absurd rfl g)
  exact kk T U' x' z y s S' hF
end LAW
