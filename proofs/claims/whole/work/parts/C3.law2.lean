/-! the calls of the law: endDay .. pay -/
section LAW
variable {E : zE} {cy : Nat → ClassId} {l : Launch} {D : va_G} {bb N c q : Nat} {xs : Nat → Int32} {x0 x1 x2 d0 d1 p0 p1 h0 h1 : Nat} {a b : Nat → Nat} {hs sl : Nat → Nat → Nat} {m : Nat → Nat} {T U : zTr} {x : zDd} {z : zPd} {y : zHs} {s : zSl} {S : zMs}
set_option maxHeartbeats 4000000 in
set_option maxRecDepth 100000 in
theorem law_endDay (C : zO E cL_law 4 "SwingUnitsLaw" room_1 cy l D) (hsc : zScr E bb N xs) (hN : N ≤ 2048) (hc : c + 3 < N) (hq : q ≤ 512) (hFR : FR q T z y s S) (kk : ∀ (T U : zTr) (x : zDd) (z : zPd) (y : zHs) (s : zSl) (S : zMs), FR (q + 1) T z y s S → zJ E 4 217 4450 (LB cy x0 x1 x2 d0 d1 p0 p1 h0 h1 a b hs sl m T U x z y s S).flatten 720 (LL c (m 0) x0 bb) []) : zJ E 4 217 4450 (LB cy x0 x1 x2 d0 d1 p0 p1 h0 h1 a b hs sl m T U x z y s S).flatten 292 (LL c (m 0) x0 bb) [] := by
  obtain ⟨⟨yf, yc⟩, ⟨tb, tl, tvb, tvl⟩, ⟨zn, zs⟩, yN, sN, ⟨mf, mm⟩, ⟨cb, cl⟩, mp⟩ := FRq hFR
  have hkn : 217 ≤ room_1.cells ∧ 4450 ≤ room_1.slots := ⟨Nat.le_of_ble_eq_true rfl, Nat.le_of_ble_eq_true rfl⟩
  obtain ⟨he, hF, ok⟩ := endDay_FR hq hFR x
  have M7 := c_X7_endDay l D cy x0 x1 x2 d0 d1 p0 p1 h0 h1 a b hs sl  T x y yf yc tb tl tvb tvl
  have M8 := c_X8_endDay l D cy m  S mf mm ok
  generalize f_X7_endDay T x y = K7 at he hF M7
  generalize f_X8_endDay S = K8 at he hF M8
  obtain ⟨r7, T', x', y'⟩ := K7
  obtain ⟨r8, S'⟩ := K8
  have he : r7 = r8 := he
  subst he
  refine zj_aload_n C dL_law_292 2 rfl ?_
  refine zj_callVFk C hkn (nn := 149) (Bs' := (LB cy x0 x1 x2 d0 d1 p0 p1 h0 h1 a b hs sl m T' U x' z y' s S)) (st := []) (st1 := [.int r7]) (([WX0 x0 x1 x2 a b d0 p0 h0, WT cy a T, WD cy d0 d1 x, WHo cy h0 h1 hs (gHs_first y) (gHs_count y)] : List va_W) ++ WHL cy hs (gHs_st y)) (([WX0 x0 x1 x2 a b d0 p0 h0, WT cy a T', WD cy d0 d1 x', WHo cy h0 h1 hs (gHs_first y') (gHs_count y')] : List va_W) ++ WHL cy hs (gHs_st y')) [0, 1, 3, 5, 6, 7, 8, 9, 10, 11, 12] 0 7 M7 rfl rfl (zg_V tg_420 tg_417 tg_418 tg_419 tg_1) ⟨rfl, hdZ_X7_endDay⟩ ⟨rfl, rfl⟩ ⟨Nat.le_of_ble_eq_true rfl, Nat.le_of_ble_eq_true rfl⟩ rfl rfl rfl (by decide) ⟨rfl, rfl⟩ rfl rfl rfl (Nat.le_of_ble_eq_true rfl) dL_law_293 rfl rfl ?_
  refine zj_aload_n C dL_law_296 1 rfl ?_
  refine zj_callVFk C hkn (nn := 10) (Bs' := (LB cy x0 x1 x2 d0 d1 p0 p1 h0 h1 a b hs sl m T' U x' z y' s S')) (st := [.int r7]) (st1 := [.int r7, .int r7]) [WM cy m S] [WM cy m S'] [17] 0 8 M8 (List.append_nil _) (List.append_nil _) (zg_V tg_812 tg_809 tg_810 tg_811 tg_9) ⟨rfl, hdZ_X8_endDay⟩ ⟨rfl, rfl⟩ ⟨Nat.le_of_ble_eq_true rfl, Nat.le_of_ble_eq_true rfl⟩ rfl rfl rfl (by decide) ⟨rfl, rfl⟩ rfl rfl rfl (Nat.le_of_ble_eq_true rfl) dL_law_297 rfl rfl ?_
  refine zj_icmp_eq C 720 dL_law_300 (by decide) (fun _ => ?_) (fun g => absurd rfl g)
  exact kk T' U x' z y' s S' hF
set_option maxHeartbeats 4000000 in
set_option maxRecDepth 100000 in
theorem law_quote (C : zO E cL_law 4 "SwingUnitsLaw" room_1 cy l D) (hsc : zScr E bb N xs) (hN : N ≤ 2048) (hc : c + 3 < N) (hq : q ≤ 512) (hFR : FR q T z y s S) (kk : ∀ (T U : zTr) (x : zDd) (z : zPd) (y : zHs) (s : zSl) (S : zMs), FR (q + 1) T z y s S → zJ E 4 217 4450 (LB cy x0 x1 x2 d0 d1 p0 p1 h0 h1 a b hs sl m T U x z y s S).flatten 720 (LL c (m 0) x0 bb) []) : zJ E 4 217 4450 (LB cy x0 x1 x2 d0 d1 p0 p1 h0 h1 a b hs sl m T U x z y s S).flatten 305 (LL c (m 0) x0 bb) [] := by
  obtain ⟨⟨yf, yc⟩, ⟨tb, tl, tvb, tvl⟩, ⟨zn, zs⟩, yN, sN, ⟨mf, mm⟩, ⟨cb, cl⟩, mp⟩ := FRq hFR
  have hkn : 217 ≤ room_1.cells ∧ 4450 ≤ room_1.slots := ⟨Nat.le_of_ble_eq_true rfl, Nat.le_of_ble_eq_true rfl⟩
  obtain ⟨he, hF⟩ := quote_FR hq hFR (xs (c + 1))
  have M7 := c_X7_quote l D cy x0 x1 x2 d0 d1 p0 p1 h0 h1 a b hs sl (xs (c + 1)) T y yf yc tb tl
  have M8 := c_X8_quote l D cy m (xs (c + 1)) S mf mm
  generalize f_X7_quote T y (xs (c + 1)) = K7 at he hF M7
  generalize f_X8_quote S (xs (c + 1)) = K8 at he hF M8
  obtain ⟨r7, T', y'⟩ := K7
  obtain ⟨r8, S'⟩ := K8
  have he : r7 = r8 := he
  subst he
  refine zj_aload_n C dL_law_305 2 rfl ?_
  refine zj_arg C hsc hN 1 rfl (by omega) dL_law_306 dL_law_307 dL_law_308 rfl dL_law_309 dL_law_310 ?_
  refine zj_callVFk C hkn (nn := 147) (Bs' := (LB cy x0 x1 x2 d0 d1 p0 p1 h0 h1 a b hs sl m T' U x z y' s S)) (st := []) (st1 := [.int r7]) (([WX0 x0 x1 x2 a b d0 p0 h0, WT cy a T, WHo cy h0 h1 hs (gHs_first y) (gHs_count y)] : List va_W) ++ WHL cy hs (gHs_st y)) (([WX0 x0 x1 x2 a b d0 p0 h0, WT cy a T', WHo cy h0 h1 hs (gHs_first y') (gHs_count y')] : List va_W) ++ WHL cy hs (gHs_st y')) [0, 1, 5, 6, 7, 8, 9, 10, 11, 12] 0 7 M7 rfl rfl (zg_V tg_500 tg_497 tg_498 tg_499 tg_1) ⟨rfl, hdZ_X7_quote⟩ ⟨rfl, rfl⟩ ⟨Nat.le_of_ble_eq_true rfl, Nat.le_of_ble_eq_true rfl⟩ rfl rfl rfl (by decide) ⟨rfl, rfl⟩ rfl rfl rfl (Nat.le_of_ble_eq_true rfl) dL_law_311 rfl rfl ?_
  refine zj_aload_n C dL_law_314 1 rfl ?_
  refine zj_arg C hsc hN 1 rfl (by omega) dL_law_315 dL_law_316 dL_law_317 rfl dL_law_318 dL_law_319 ?_
  refine zj_callVFk C hkn (nn := 10) (Bs' := (LB cy x0 x1 x2 d0 d1 p0 p1 h0 h1 a b hs sl m T' U x z y' s S')) (st := [.int r7]) (st1 := [.int r7, .int r7]) [WM cy m S] [WM cy m S'] [17] 0 8 M8 (List.append_nil _) (List.append_nil _) (zg_V tg_884 tg_881 tg_882 tg_883 tg_9) ⟨rfl, hdZ_X8_quote⟩ ⟨rfl, rfl⟩ ⟨Nat.le_of_ble_eq_true rfl, Nat.le_of_ble_eq_true rfl⟩ rfl rfl rfl (by decide) ⟨rfl, rfl⟩ rfl rfl rfl (Nat.le_of_ble_eq_true rfl) dL_law_320 rfl rfl ?_
  refine zj_icmp_eq C 720 dL_law_323 (by decide) (fun _ => ?_) (fun g => absurd rfl g)
  exact kk T' U x z y' s S' hF
set_option maxHeartbeats 4000000 in
set_option maxRecDepth 100000 in
theorem law_trade (C : zO E cL_law 4 "SwingUnitsLaw" room_1 cy l D) (hsc : zScr E bb N xs) (hN : N ≤ 2048) (hc : c + 3 < N) (hq : q ≤ 512) (hFR : FR q T z y s S) (kk : ∀ (T U : zTr) (x : zDd) (z : zPd) (y : zHs) (s : zSl) (S : zMs), FR (q + 1) T z y s S → zJ E 4 217 4450 (LB cy x0 x1 x2 d0 d1 p0 p1 h0 h1 a b hs sl m T U x z y s S).flatten 720 (LL c (m 0) x0 bb) []) : zJ E 4 217 4450 (LB cy x0 x1 x2 d0 d1 p0 p1 h0 h1 a b hs sl m T U x z y s S).flatten 328 (LL c (m 0) x0 bb) [] := by
  obtain ⟨⟨yf, yc⟩, ⟨tb, tl, tvb, tvl⟩, ⟨zn, zs⟩, yN, sN, ⟨mf, mm⟩, ⟨cb, cl⟩, mp⟩ := FRq hFR
  have hkn : 217 ≤ room_1.cells ∧ 4450 ≤ room_1.slots := ⟨Nat.le_of_ble_eq_true rfl, Nat.le_of_ble_eq_true rfl⟩
  obtain ⟨he, hF⟩ := trade_FR hq hFR (xs (c + 1))
  have M7 := c_X7_trade l D cy x0 x1 x2 d0 d1 p0 p1 h0 h1 a b hs sl (xs (c + 1)) T y yf yc tb tl
  have M8 := c_X8_trade l D cy m (xs (c + 1)) S mf mm
  generalize f_X7_trade T y (xs (c + 1)) = K7 at he hF M7
  generalize f_X8_trade S (xs (c + 1)) = K8 at he hF M8
  obtain ⟨r7, T', y'⟩ := K7
  obtain ⟨r8, S'⟩ := K8
  have he : r7 = r8 := he
  subst he
  refine zj_aload_n C dL_law_328 2 rfl ?_
  refine zj_arg C hsc hN 1 rfl (by omega) dL_law_329 dL_law_330 dL_law_331 rfl dL_law_332 dL_law_333 ?_
  refine zj_callVFk C hkn (nn := 147) (Bs' := (LB cy x0 x1 x2 d0 d1 p0 p1 h0 h1 a b hs sl m T' U x z y' s S)) (st := []) (st1 := [.int r7]) (([WX0 x0 x1 x2 a b d0 p0 h0, WT cy a T, WHo cy h0 h1 hs (gHs_first y) (gHs_count y)] : List va_W) ++ WHL cy hs (gHs_st y)) (([WX0 x0 x1 x2 a b d0 p0 h0, WT cy a T', WHo cy h0 h1 hs (gHs_first y') (gHs_count y')] : List va_W) ++ WHL cy hs (gHs_st y')) [0, 1, 5, 6, 7, 8, 9, 10, 11, 12] 0 7 M7 rfl rfl (zg_V tg_508 tg_505 tg_506 tg_507 tg_1) ⟨rfl, hdZ_X7_trade⟩ ⟨rfl, rfl⟩ ⟨Nat.le_of_ble_eq_true rfl, Nat.le_of_ble_eq_true rfl⟩ rfl rfl rfl (by decide) ⟨rfl, rfl⟩ rfl rfl rfl (Nat.le_of_ble_eq_true rfl) dL_law_334 rfl rfl ?_
  refine zj_aload_n C dL_law_337 1 rfl ?_
  refine zj_arg C hsc hN 1 rfl (by omega) dL_law_338 dL_law_339 dL_law_340 rfl dL_law_341 dL_law_342 ?_
  refine zj_callVFk C hkn (nn := 10) (Bs' := (LB cy x0 x1 x2 d0 d1 p0 p1 h0 h1 a b hs sl m T' U x z y' s S')) (st := [.int r7]) (st1 := [.int r7, .int r7]) [WM cy m S] [WM cy m S'] [17] 0 8 M8 (List.append_nil _) (List.append_nil _) (zg_V tg_893 tg_890 tg_891 tg_892 tg_9) ⟨rfl, hdZ_X8_trade⟩ ⟨rfl, rfl⟩ ⟨Nat.le_of_ble_eq_true rfl, Nat.le_of_ble_eq_true rfl⟩ rfl rfl rfl (by decide) ⟨rfl, rfl⟩ rfl rfl rfl (Nat.le_of_ble_eq_true rfl) dL_law_343 rfl rfl ?_
  refine zj_icmp_eq C 720 dL_law_346 (by decide) (fun _ => ?_) (fun g => absurd rfl g)
  exact kk T' U x z y' s S' hF
set_option maxHeartbeats 4000000 in
set_option maxRecDepth 100000 in
theorem law_income (C : zO E cL_law 4 "SwingUnitsLaw" room_1 cy l D) (hsc : zScr E bb N xs) (hN : N ≤ 2048) (hc : c + 3 < N) (hq : q ≤ 512) (hFR : FR q T z y s S) (kk : ∀ (T U : zTr) (x : zDd) (z : zPd) (y : zHs) (s : zSl) (S : zMs), FR (q + 1) T z y s S → zJ E 4 217 4450 (LB cy x0 x1 x2 d0 d1 p0 p1 h0 h1 a b hs sl m T U x z y s S).flatten 720 (LL c (m 0) x0 bb) []) : zJ E 4 217 4450 (LB cy x0 x1 x2 d0 d1 p0 p1 h0 h1 a b hs sl m T U x z y s S).flatten 351 (LL c (m 0) x0 bb) [] := by
  obtain ⟨⟨yf, yc⟩, ⟨tb, tl, tvb, tvl⟩, ⟨zn, zs⟩, yN, sN, ⟨mf, mm⟩, ⟨cb, cl⟩, mp⟩ := FRq hFR
  have hkn : 217 ≤ room_1.cells ∧ 4450 ≤ room_1.slots := ⟨Nat.le_of_ble_eq_true rfl, Nat.le_of_ble_eq_true rfl⟩
  obtain ⟨he, hF⟩ := income_FR hq hFR (xs (c + 1))
  have M7 := c_X7_income l D cy x0 x1 x2 d0 d1 p0 p1 h0 h1 a b hs sl (xs (c + 1)) T y yf yc tb tl
  have M8 := c_X8_income l D cy m (xs (c + 1)) S mf mm
  generalize f_X7_income T y (xs (c + 1)) = K7 at he hF M7
  generalize f_X8_income S (xs (c + 1)) = K8 at he hF M8
  obtain ⟨r7, T', y'⟩ := K7
  obtain ⟨r8, S'⟩ := K8
  have he : r7 = r8 := he
  subst he
  refine zj_aload_n C dL_law_351 2 rfl ?_
  refine zj_arg C hsc hN 1 rfl (by omega) dL_law_352 dL_law_353 dL_law_354 rfl dL_law_355 dL_law_356 ?_
  refine zj_callVFk C hkn (nn := 147) (Bs' := (LB cy x0 x1 x2 d0 d1 p0 p1 h0 h1 a b hs sl m T' U x z y' s S)) (st := []) (st1 := [.int r7]) (([WX0 x0 x1 x2 a b d0 p0 h0, WT cy a T, WHo cy h0 h1 hs (gHs_first y) (gHs_count y)] : List va_W) ++ WHL cy hs (gHs_st y)) (([WX0 x0 x1 x2 a b d0 p0 h0, WT cy a T', WHo cy h0 h1 hs (gHs_first y') (gHs_count y')] : List va_W) ++ WHL cy hs (gHs_st y')) [0, 1, 5, 6, 7, 8, 9, 10, 11, 12] 0 7 M7 rfl rfl (zg_V tg_516 tg_513 tg_514 tg_515 tg_1) ⟨rfl, hdZ_X7_income⟩ ⟨rfl, rfl⟩ ⟨Nat.le_of_ble_eq_true rfl, Nat.le_of_ble_eq_true rfl⟩ rfl rfl rfl (by decide) ⟨rfl, rfl⟩ rfl rfl rfl (Nat.le_of_ble_eq_true rfl) dL_law_357 rfl rfl ?_
  refine zj_aload_n C dL_law_360 1 rfl ?_
  refine zj_arg C hsc hN 1 rfl (by omega) dL_law_361 dL_law_362 dL_law_363 rfl dL_law_364 dL_law_365 ?_
  refine zj_callVFk C hkn (nn := 10) (Bs' := (LB cy x0 x1 x2 d0 d1 p0 p1 h0 h1 a b hs sl m T' U x z y' s S')) (st := [.int r7]) (st1 := [.int r7, .int r7]) [WM cy m S] [WM cy m S'] [17] 0 8 M8 (List.append_nil _) (List.append_nil _) (zg_V tg_898 tg_895 tg_896 tg_897 tg_9) ⟨rfl, hdZ_X8_income⟩ ⟨rfl, rfl⟩ ⟨Nat.le_of_ble_eq_true rfl, Nat.le_of_ble_eq_true rfl⟩ rfl rfl rfl (by decide) ⟨rfl, rfl⟩ rfl rfl rfl (Nat.le_of_ble_eq_true rfl) dL_law_366 rfl rfl ?_
  refine zj_icmp_eq C 720 dL_law_369 (by decide) (fun _ => ?_) (fun g => absurd rfl g)
  exact kk T' U x z y' s S' hF
set_option maxHeartbeats 4000000 in
set_option maxRecDepth 100000 in
theorem law_pay (C : zO E cL_law 4 "SwingUnitsLaw" room_1 cy l D) (hsc : zScr E bb N xs) (hN : N ≤ 2048) (hc : c + 3 < N) (hq : q ≤ 512) (hFR : FR q T z y s S) (kk : ∀ (T U : zTr) (x : zDd) (z : zPd) (y : zHs) (s : zSl) (S : zMs), FR (q + 1) T z y s S → zJ E 4 217 4450 (LB cy x0 x1 x2 d0 d1 p0 p1 h0 h1 a b hs sl m T U x z y s S).flatten 720 (LL c (m 0) x0 bb) []) : zJ E 4 217 4450 (LB cy x0 x1 x2 d0 d1 p0 p1 h0 h1 a b hs sl m T U x z y s S).flatten 374 (LL c (m 0) x0 bb) [] := by
  obtain ⟨⟨yf, yc⟩, ⟨tb, tl, tvb, tvl⟩, ⟨zn, zs⟩, yN, sN, ⟨mf, mm⟩, ⟨cb, cl⟩, mp⟩ := FRq hFR
  have hkn : 217 ≤ room_1.cells ∧ 4450 ≤ room_1.slots := ⟨Nat.le_of_ble_eq_true rfl, Nat.le_of_ble_eq_true rfl⟩
  obtain ⟨he, hF⟩ := pay_FR hq hFR
  have M7 := c_X7_pay l D cy x0 x1 x2 d0 d1 p0 p1 h0 h1 a b hs sl  T y yf yc tb tl
  have M8 := c_X8_pay l D cy m  S mf mm
  generalize f_X7_pay T y = K7 at he hF M7
  generalize f_X8_pay S = K8 at he hF M8
  obtain ⟨r7, T', y'⟩ := K7
  obtain ⟨r8, S'⟩ := K8
  have he : r7 = r8 := he
  subst he
  refine zj_aload_n C dL_law_374 2 rfl ?_
  refine zj_callVFk C hkn (nn := 147) (Bs' := (LB cy x0 x1 x2 d0 d1 p0 p1 h0 h1 a b hs sl m T' U x z y' s S)) (st := []) (st1 := [.int r7]) (([WX0 x0 x1 x2 a b d0 p0 h0, WT cy a T, WHo cy h0 h1 hs (gHs_first y) (gHs_count y)] : List va_W) ++ WHL cy hs (gHs_st y)) (([WX0 x0 x1 x2 a b d0 p0 h0, WT cy a T', WHo cy h0 h1 hs (gHs_first y') (gHs_count y')] : List va_W) ++ WHL cy hs (gHs_st y')) [0, 1, 5, 6, 7, 8, 9, 10, 11, 12] 0 7 M7 rfl rfl (zg_V tg_524 tg_521 tg_522 tg_523 tg_1) ⟨rfl, hdZ_X7_pay⟩ ⟨rfl, rfl⟩ ⟨Nat.le_of_ble_eq_true rfl, Nat.le_of_ble_eq_true rfl⟩ rfl rfl rfl (by decide) ⟨rfl, rfl⟩ rfl rfl rfl (Nat.le_of_ble_eq_true rfl) dL_law_375 rfl rfl ?_
  refine zj_aload_n C dL_law_378 1 rfl ?_
  refine zj_callVFk C hkn (nn := 10) (Bs' := (LB cy x0 x1 x2 d0 d1 p0 p1 h0 h1 a b hs sl m T' U x z y' s S')) (st := [.int r7]) (st1 := [.int r7, .int r7]) [WM cy m S] [WM cy m S'] [17] 0 8 M8 (List.append_nil _) (List.append_nil _) (zg_V tg_906 tg_903 tg_904 tg_905 tg_9) ⟨rfl, hdZ_X8_pay⟩ ⟨rfl, rfl⟩ ⟨Nat.le_of_ble_eq_true rfl, Nat.le_of_ble_eq_true rfl⟩ rfl rfl rfl (by decide) ⟨rfl, rfl⟩ rfl rfl rfl (Nat.le_of_ble_eq_true rfl) dL_law_379 rfl rfl ?_
  refine zj_icmp_eq C 720 dL_law_382 (by decide) (fun _ => ?_) (fun g => absurd rfl g)
  exact kk T' U x z y' s S' hF
end LAW
