/-! the calls of the law: set .. inKind -/
section LAW
variable {E : zE} {cy : Nat → ClassId} {l : Launch} {D : va_G} {bb N c q : Nat} {xs : Nat → Int32} {x0 x1 x2 d0 d1 p0 p1 h0 h1 : Nat} {a b : Nat → Nat} {hs sl : Nat → Nat → Nat} {m : Nat → Nat} {T U : zTr} {x : zDd} {z : zPd} {y : zHs} {s : zSl} {S : zMs}
set_option maxHeartbeats 4000000 in
set_option maxRecDepth 100000 in
theorem law_set (C : zO E cL_law 4 "SwingUnitsLaw" room_1 cy l D) (hsc : zScr E bb N xs) (hN : N ≤ 2048) (hc : c + 3 < N) (hq : q ≤ 512) (hFR : FR q T z y s S) (kk : ∀ (T U : zTr) (x : zDd) (z : zPd) (y : zHs) (s : zSl) (S : zMs), FR (q + 1) T z y s S → zJ E 4 217 4450 (LB cy x0 x1 x2 d0 d1 p0 p1 h0 h1 a b hs sl m T U x z y s S).flatten 720 (LL c (m 0) x0 bb) []) : zJ E 4 217 4450 (LB cy x0 x1 x2 d0 d1 p0 p1 h0 h1 a b hs sl m T U x z y s S).flatten 140 (LL c (m 0) x0 bb) [] := by
  obtain ⟨⟨yf, yc⟩, ⟨tb, tl, tvb, tvl⟩, ⟨zn, zs⟩, yN, sN, ⟨mf, mm⟩, ⟨cb, cl⟩, mp⟩ := FRq hFR
  have hkn : 217 ≤ room_1.cells ∧ 4450 ≤ room_1.slots := ⟨Nat.le_of_ble_eq_true rfl, Nat.le_of_ble_eq_true rfl⟩
  obtain ⟨he, hF⟩ := set_FR hq hFR (xs (c + 1)) (xs (c + 2))
  have M7 := c_X7_set l D cy x0 x1 x2 d0 d1 p0 p1 h0 h1 a b hs sl (xs (c + 1)) (xs (c + 2)) T y yf yc tb tl
  have M8 := c_X8_set l D cy m (xs (c + 1)) (xs (c + 2)) S mf mm
  generalize f_X7_set T y (xs (c + 1)) (xs (c + 2)) = K7 at he hF M7
  generalize f_X8_set S (xs (c + 1)) (xs (c + 2)) = K8 at he hF M8
  obtain ⟨r7, T', y'⟩ := K7
  obtain ⟨r8, S'⟩ := K8
  have he : r7 = r8 := he
  subst he
  refine zj_aload_n C dL_law_140 2 rfl ?_
  refine zj_arg C hsc hN 1 rfl (by omega) dL_law_141 dL_law_142 dL_law_143 rfl dL_law_144 dL_law_145 ?_
  refine zj_arg C hsc hN 2 rfl (by omega) dL_law_146 dL_law_147 dL_law_148 rfl dL_law_149 dL_law_150 ?_
  refine zj_callVFk C hkn (nn := 147) (Bs' := (LB cy x0 x1 x2 d0 d1 p0 p1 h0 h1 a b hs sl m T' U x z y' s S)) (st := []) (st1 := [.int r7]) (([WX0 x0 x1 x2 a b d0 p0 h0, WT cy a T, WHo cy h0 h1 hs (gHs_first y) (gHs_count y)] : List va_W) ++ WHL cy hs (gHs_st y)) (([WX0 x0 x1 x2 a b d0 p0 h0, WT cy a T', WHo cy h0 h1 hs (gHs_first y') (gHs_count y')] : List va_W) ++ WHL cy hs (gHs_st y')) [0, 1, 5, 6, 7, 8, 9, 10, 11, 12] 0 7 M7 rfl rfl (zg_V tg_303 tg_300 tg_301 tg_302 tg_1) ⟨rfl, hdZ_X7_set⟩ ⟨rfl, rfl⟩ ⟨Nat.le_of_ble_eq_true rfl, Nat.le_of_ble_eq_true rfl⟩ rfl rfl rfl (by decide) ⟨rfl, rfl⟩ rfl rfl rfl (Nat.le_of_ble_eq_true rfl) dL_law_151 rfl rfl ?_
  refine zj_aload_n C dL_law_154 1 rfl ?_
  refine zj_arg C hsc hN 1 rfl (by omega) dL_law_155 dL_law_156 dL_law_157 rfl dL_law_158 dL_law_159 ?_
  refine zj_arg C hsc hN 2 rfl (by omega) dL_law_160 dL_law_161 dL_law_162 rfl dL_law_163 dL_law_164 ?_
  refine zj_callVFk C hkn (nn := 10) (Bs' := (LB cy x0 x1 x2 d0 d1 p0 p1 h0 h1 a b hs sl m T' U x z y' s S')) (st := [.int r7]) (st1 := [.int r7, .int r7]) [WM cy m S] [WM cy m S'] [17] 0 8 M8 (List.append_nil _) (List.append_nil _) (zg_V tg_726 tg_723 tg_724 tg_725 tg_9) ⟨rfl, hdZ_X8_set⟩ ⟨rfl, rfl⟩ ⟨Nat.le_of_ble_eq_true rfl, Nat.le_of_ble_eq_true rfl⟩ rfl rfl rfl (by decide) ⟨rfl, rfl⟩ rfl rfl rfl (Nat.le_of_ble_eq_true rfl) dL_law_165 rfl rfl ?_
  refine zj_icmp_eq C 720 dL_law_168 (by decide) (fun _ => ?_) (fun g => absurd rfl g)
  exact kk T' U x z y' s S' hF
set_option maxHeartbeats 4000000 in
set_option maxRecDepth 100000 in
theorem law_buy (C : zO E cL_law 4 "SwingUnitsLaw" room_1 cy l D) (hsc : zScr E bb N xs) (hN : N ≤ 2048) (hc : c + 3 < N) (hq : q ≤ 512) (hFR : FR q T z y s S) (kk : ∀ (T U : zTr) (x : zDd) (z : zPd) (y : zHs) (s : zSl) (S : zMs), FR (q + 1) T z y s S → zJ E 4 217 4450 (LB cy x0 x1 x2 d0 d1 p0 p1 h0 h1 a b hs sl m T U x z y s S).flatten 720 (LL c (m 0) x0 bb) []) : zJ E 4 217 4450 (LB cy x0 x1 x2 d0 d1 p0 p1 h0 h1 a b hs sl m T U x z y s S).flatten 173 (LL c (m 0) x0 bb) [] := by
  obtain ⟨⟨yf, yc⟩, ⟨tb, tl, tvb, tvl⟩, ⟨zn, zs⟩, yN, sN, ⟨mf, mm⟩, ⟨cb, cl⟩, mp⟩ := FRq hFR
  have hkn : 217 ≤ room_1.cells ∧ 4450 ≤ room_1.slots := ⟨Nat.le_of_ble_eq_true rfl, Nat.le_of_ble_eq_true rfl⟩
  obtain ⟨he, hF⟩ := buy_FR hq hFR (xs (c + 1)) (xs (c + 2)) (xs (c + 3))
  have M7 := c_X7_buy l D cy x0 x1 x2 d0 d1 p0 p1 h0 h1 a b hs sl (xs (c + 1)) (xs (c + 2)) (xs (c + 3)) T y yf yc tb tl
  have M8 := c_X8_buy l D cy m (xs (c + 1)) (xs (c + 2)) (xs (c + 3)) S mf mm cb
  generalize f_X7_buy T y (xs (c + 1)) (xs (c + 2)) (xs (c + 3)) = K7 at he hF M7
  generalize f_X8_buy S (xs (c + 1)) (xs (c + 2)) (xs (c + 3)) = K8 at he hF M8
  obtain ⟨r7, T', y'⟩ := K7
  obtain ⟨r8, S'⟩ := K8
  have he : r7 = r8 := he
  subst he
  refine zj_aload_n C dL_law_173 2 rfl ?_
  refine zj_arg C hsc hN 1 rfl (by omega) dL_law_174 dL_law_175 dL_law_176 rfl dL_law_177 dL_law_178 ?_
  refine zj_arg C hsc hN 2 rfl (by omega) dL_law_179 dL_law_180 dL_law_181 rfl dL_law_182 dL_law_183 ?_
  refine zj_arg C hsc hN 3 rfl (by omega) dL_law_184 dL_law_185 dL_law_186 rfl dL_law_187 dL_law_188 ?_
  refine zj_callVFk C hkn (nn := 147) (Bs' := (LB cy x0 x1 x2 d0 d1 p0 p1 h0 h1 a b hs sl m T' U x z y' s S)) (st := []) (st1 := [.int r7]) (([WX0 x0 x1 x2 a b d0 p0 h0, WT cy a T, WHo cy h0 h1 hs (gHs_first y) (gHs_count y)] : List va_W) ++ WHL cy hs (gHs_st y)) (([WX0 x0 x1 x2 a b d0 p0 h0, WT cy a T', WHo cy h0 h1 hs (gHs_first y') (gHs_count y')] : List va_W) ++ WHL cy hs (gHs_st y')) [0, 1, 5, 6, 7, 8, 9, 10, 11, 12] 0 7 M7 rfl rfl (zg_V tg_341 tg_338 tg_339 tg_340 tg_1) ⟨rfl, hdZ_X7_buy⟩ ⟨rfl, rfl⟩ ⟨Nat.le_of_ble_eq_true rfl, Nat.le_of_ble_eq_true rfl⟩ rfl rfl rfl (by decide) ⟨rfl, rfl⟩ rfl rfl rfl (Nat.le_of_ble_eq_true rfl) dL_law_189 rfl rfl ?_
  refine zj_aload_n C dL_law_192 1 rfl ?_
  refine zj_arg C hsc hN 1 rfl (by omega) dL_law_193 dL_law_194 dL_law_195 rfl dL_law_196 dL_law_197 ?_
  refine zj_arg C hsc hN 2 rfl (by omega) dL_law_198 dL_law_199 dL_law_200 rfl dL_law_201 dL_law_202 ?_
  refine zj_arg C hsc hN 3 rfl (by omega) dL_law_203 dL_law_204 dL_law_205 rfl dL_law_206 dL_law_207 ?_
  refine zj_callVFk C hkn (nn := 10) (Bs' := (LB cy x0 x1 x2 d0 d1 p0 p1 h0 h1 a b hs sl m T' U x z y' s S')) (st := [.int r7]) (st1 := [.int r7, .int r7]) [WM cy m S] [WM cy m S'] [17] 0 8 M8 (List.append_nil _) (List.append_nil _) (zg_V tg_738 tg_735 tg_736 tg_737 tg_9) ⟨rfl, hdZ_X8_buy⟩ ⟨rfl, rfl⟩ ⟨Nat.le_of_ble_eq_true rfl, Nat.le_of_ble_eq_true rfl⟩ rfl rfl rfl (by decide) ⟨rfl, rfl⟩ rfl rfl rfl (Nat.le_of_ble_eq_true rfl) dL_law_208 rfl rfl ?_
  refine zj_icmp_eq C 720 dL_law_211 (by decide) (fun _ => ?_) (fun g => absurd rfl g)
  exact kk T' U x z y' s S' hF
set_option maxHeartbeats 4000000 in
set_option maxRecDepth 100000 in
theorem law_leave (C : zO E cL_law 4 "SwingUnitsLaw" room_1 cy l D) (hsc : zScr E bb N xs) (hN : N ≤ 2048) (hc : c + 3 < N) (hq : q ≤ 512) (hFR : FR q T z y s S) (kk : ∀ (T U : zTr) (x : zDd) (z : zPd) (y : zHs) (s : zSl) (S : zMs), FR (q + 1) T z y s S → zJ E 4 217 4450 (LB cy x0 x1 x2 d0 d1 p0 p1 h0 h1 a b hs sl m T U x z y s S).flatten 720 (LL c (m 0) x0 bb) []) : zJ E 4 217 4450 (LB cy x0 x1 x2 d0 d1 p0 p1 h0 h1 a b hs sl m T U x z y s S).flatten 216 (LL c (m 0) x0 bb) [] := by
  obtain ⟨⟨yf, yc⟩, ⟨tb, tl, tvb, tvl⟩, ⟨zn, zs⟩, yN, sN, ⟨mf, mm⟩, ⟨cb, cl⟩, mp⟩ := FRq hFR
  have hkn : 217 ≤ room_1.cells ∧ 4450 ≤ room_1.slots := ⟨Nat.le_of_ble_eq_true rfl, Nat.le_of_ble_eq_true rfl⟩
  obtain ⟨he, hF⟩ := leave_FR hq hFR (xs (c + 1)) (xs (c + 2)) (xs (c + 3))
  have M7 := c_X7_leave l D cy x0 x1 x2 d0 d1 p0 p1 h0 h1 a b hs sl (xs (c + 1)) (xs (c + 2)) (xs (c + 3)) T y yf yc tb tl
  have M8 := c_X8_leave l D cy m (xs (c + 1)) (xs (c + 2)) (xs (c + 3)) S mf mm cl
  generalize f_X7_leave T y (xs (c + 1)) (xs (c + 2)) (xs (c + 3)) = K7 at he hF M7
  generalize f_X8_leave S (xs (c + 1)) (xs (c + 2)) (xs (c + 3)) = K8 at he hF M8
  obtain ⟨r7, T', y'⟩ := K7
  obtain ⟨r8, S'⟩ := K8
  have he : r7 = r8 := he
  subst he
  refine zj_aload_n C dL_law_216 2 rfl ?_
  refine zj_arg C hsc hN 1 rfl (by omega) dL_law_217 dL_law_218 dL_law_219 rfl dL_law_220 dL_law_221 ?_
  refine zj_arg C hsc hN 2 rfl (by omega) dL_law_222 dL_law_223 dL_law_224 rfl dL_law_225 dL_law_226 ?_
  refine zj_arg C hsc hN 3 rfl (by omega) dL_law_227 dL_law_228 dL_law_229 rfl dL_law_230 dL_law_231 ?_
  refine zj_callVFk C hkn (nn := 147) (Bs' := (LB cy x0 x1 x2 d0 d1 p0 p1 h0 h1 a b hs sl m T' U x z y' s S)) (st := []) (st1 := [.int r7]) (([WX0 x0 x1 x2 a b d0 p0 h0, WT cy a T, WHo cy h0 h1 hs (gHs_first y) (gHs_count y)] : List va_W) ++ WHL cy hs (gHs_st y)) (([WX0 x0 x1 x2 a b d0 p0 h0, WT cy a T', WHo cy h0 h1 hs (gHs_first y') (gHs_count y')] : List va_W) ++ WHL cy hs (gHs_st y')) [0, 1, 5, 6, 7, 8, 9, 10, 11, 12] 0 7 M7 rfl rfl (zg_V tg_369 tg_366 tg_367 tg_368 tg_1) ⟨rfl, hdZ_X7_leave⟩ ⟨rfl, rfl⟩ ⟨Nat.le_of_ble_eq_true rfl, Nat.le_of_ble_eq_true rfl⟩ rfl rfl rfl (by decide) ⟨rfl, rfl⟩ rfl rfl rfl (Nat.le_of_ble_eq_true rfl) dL_law_232 rfl rfl ?_
  refine zj_aload_n C dL_law_235 1 rfl ?_
  refine zj_arg C hsc hN 1 rfl (by omega) dL_law_236 dL_law_237 dL_law_238 rfl dL_law_239 dL_law_240 ?_
  refine zj_arg C hsc hN 2 rfl (by omega) dL_law_241 dL_law_242 dL_law_243 rfl dL_law_244 dL_law_245 ?_
  refine zj_arg C hsc hN 3 rfl (by omega) dL_law_246 dL_law_247 dL_law_248 rfl dL_law_249 dL_law_250 ?_
  refine zj_callVFk C hkn (nn := 10) (Bs' := (LB cy x0 x1 x2 d0 d1 p0 p1 h0 h1 a b hs sl m T' U x z y' s S')) (st := [.int r7]) (st1 := [.int r7, .int r7]) [WM cy m S] [WM cy m S'] [17] 0 8 M8 (List.append_nil _) (List.append_nil _) (zg_V tg_764 tg_761 tg_762 tg_763 tg_9) ⟨rfl, hdZ_X8_leave⟩ ⟨rfl, rfl⟩ ⟨Nat.le_of_ble_eq_true rfl, Nat.le_of_ble_eq_true rfl⟩ rfl rfl rfl (by decide) ⟨rfl, rfl⟩ rfl rfl rfl (Nat.le_of_ble_eq_true rfl) dL_law_251 rfl rfl ?_
  refine zj_icmp_eq C 720 dL_law_254 (by decide) (fun _ => ?_) (fun g => absurd rfl g)
  exact kk T' U x z y' s S' hF
set_option maxHeartbeats 4000000 in
set_option maxRecDepth 100000 in
theorem law_inKind (C : zO E cL_law 4 "SwingUnitsLaw" room_1 cy l D) (hsc : zScr E bb N xs) (hN : N ≤ 2048) (hc : c + 3 < N) (hq : q ≤ 512) (hFR : FR q T z y s S) (kk : ∀ (T U : zTr) (x : zDd) (z : zPd) (y : zHs) (s : zSl) (S : zMs), FR (q + 1) T z y s S → zJ E 4 217 4450 (LB cy x0 x1 x2 d0 d1 p0 p1 h0 h1 a b hs sl m T U x z y s S).flatten 720 (LL c (m 0) x0 bb) []) : zJ E 4 217 4450 (LB cy x0 x1 x2 d0 d1 p0 p1 h0 h1 a b hs sl m T U x z y s S).flatten 259 (LL c (m 0) x0 bb) [] := by
  obtain ⟨⟨yf, yc⟩, ⟨tb, tl, tvb, tvl⟩, ⟨zn, zs⟩, yN, sN, ⟨mf, mm⟩, ⟨cb, cl⟩, mp⟩ := FRq hFR
  have hkn : 217 ≤ room_1.cells ∧ 4450 ≤ room_1.slots := ⟨Nat.le_of_ble_eq_true rfl, Nat.le_of_ble_eq_true rfl⟩
  obtain ⟨he, hF⟩ := inKind_FR hq hFR (xs (c + 1)) (xs (c + 2))
  have M7 := c_X7_inKind l D cy x0 x1 x2 d0 d1 p0 p1 h0 h1 a b hs sl (xs (c + 1)) (xs (c + 2)) T y yf yc tb tl
  have M8 := c_X8_inKind l D cy m (xs (c + 1)) (xs (c + 2)) S mf mm cl (okKind (xs (c + 1)) (xs (c + 2)) hFR.1.2.1 hFR.1.1)
  generalize f_X7_inKind T y (xs (c + 1)) (xs (c + 2)) = K7 at he hF M7
  generalize f_X8_inKind S (xs (c + 1)) (xs (c + 2)) = K8 at he hF M8
  obtain ⟨r7, T', y'⟩ := K7
  obtain ⟨r8, S'⟩ := K8
  have he : r7 = r8 := he
  subst he
  refine zj_aload_n C dL_law_259 2 rfl ?_
  refine zj_arg C hsc hN 1 rfl (by omega) dL_law_260 dL_law_261 dL_law_262 rfl dL_law_263 dL_law_264 ?_
  refine zj_arg C hsc hN 2 rfl (by omega) dL_law_265 dL_law_266 dL_law_267 rfl dL_law_268 dL_law_269 ?_
  refine zj_callVFk C hkn (nn := 147) (Bs' := (LB cy x0 x1 x2 d0 d1 p0 p1 h0 h1 a b hs sl m T' U x z y' s S)) (st := []) (st1 := [.int r7]) (([WX0 x0 x1 x2 a b d0 p0 h0, WT cy a T, WHo cy h0 h1 hs (gHs_first y) (gHs_count y)] : List va_W) ++ WHL cy hs (gHs_st y)) (([WX0 x0 x1 x2 a b d0 p0 h0, WT cy a T', WHo cy h0 h1 hs (gHs_first y') (gHs_count y')] : List va_W) ++ WHL cy hs (gHs_st y')) [0, 1, 5, 6, 7, 8, 9, 10, 11, 12] 0 7 M7 rfl rfl (zg_V tg_389 tg_386 tg_387 tg_388 tg_1) ⟨rfl, hdZ_X7_inKind⟩ ⟨rfl, rfl⟩ ⟨Nat.le_of_ble_eq_true rfl, Nat.le_of_ble_eq_true rfl⟩ rfl rfl rfl (by decide) ⟨rfl, rfl⟩ rfl rfl rfl (Nat.le_of_ble_eq_true rfl) dL_law_270 rfl rfl ?_
  refine zj_aload_n C dL_law_273 1 rfl ?_
  refine zj_arg C hsc hN 1 rfl (by omega) dL_law_274 dL_law_275 dL_law_276 rfl dL_law_277 dL_law_278 ?_
  refine zj_arg C hsc hN 2 rfl (by omega) dL_law_279 dL_law_280 dL_law_281 rfl dL_law_282 dL_law_283 ?_
  refine zj_callVFk C hkn (nn := 10) (Bs' := (LB cy x0 x1 x2 d0 d1 p0 p1 h0 h1 a b hs sl m T' U x z y' s S')) (st := [.int r7]) (st1 := [.int r7, .int r7]) [WM cy m S] [WM cy m S'] [17] 0 8 M8 (List.append_nil _) (List.append_nil _) (zg_V tg_784 tg_781 tg_782 tg_783 tg_9) ⟨rfl, hdZ_X8_inKind⟩ ⟨rfl, rfl⟩ ⟨Nat.le_of_ble_eq_true rfl, Nat.le_of_ble_eq_true rfl⟩ rfl rfl rfl (by decide) ⟨rfl, rfl⟩ rfl rfl rfl (Nat.le_of_ble_eq_true rfl) dL_law_284 rfl rfl ?_
  refine zj_icmp_eq C 720 dL_law_287 (by decide) (fun _ => ?_) (fun g => absurd rfl g)
  exact kk T' U x z y' s S' hF
end LAW
