/-! the law's own rows: the script, and calls where cells have been made -/
def zScr (E : zE) (b N : Nat) (xs : Nat → Int32) : Prop := va_X b N xs E.1.2.2.2.2.1 E.1.2.2.2.2.1.heap ∧ b < E.1.2.2.2.2.1.heap.size ∧ ¬ E.2.2.2.2.2.1 b
section ZK
variable {E : zE} {cc : ByteArray} {nL : Nat} {own : String} {R : Room} {cy : Nat → ClassId} {l : Launch} {D : va_G} {k n : Nat} {ws : va_W} {pc : Nat} {L : List (Nat × Value)} {st : List Value}
theorem zj_sld (C : zO E cc nL own R cy l D) {b N : Nat} {xs : Nat → Int32} (hsc : zScr E b N xs) {i : Int32} (j : Nat) (hj : i.toNatClampNeg = j) (hin : vp_in i N) (d : decode cc pc = .ok (.iaload, 1)) (kk : zJ E nL k n ws (pc + 1) L (.int (xs j) :: st)) : zJ E nL k n ws pc L (.int i :: .ref b :: st) := by
  subst hj
  exact fun H locs ls hP hD hS hl => va_sld C.xx C.bb hsc.1 hsc.2.1 hsc.2.2 hS hin d (kk H locs ls hP hD hS hl)
theorem zj_slen (C : zO E cc nL own R cy l D) {b N : Nat} {xs : Nat → Int32} (hsc : zScr E b N xs) (d : decode cc pc = .ok (.arraylength, 1)) (kk : zJ E nL k n ws (pc + 1) L (.int (nI N) :: st)) : zJ E nL k n ws pc L (.ref b :: st) := fun H locs ls hP hD hS hl => va_slen C.xx C.bb hsc.1 hsc.2.1 hsc.2.2 hS d (kk H locs ls hP hD hS hl)
/-- an argument of a call: script[i + q] -/
theorem zj_arg (C : zO E cc nL own R cy l D) {b N c x1 x2 : Nat} {xs : Nat → Int32} (hsc : zScr E b N xs) (hN : N ≤ 2048) {n0 : Int} (q : Nat) (hL : L = [(3, .int (nI c)), (2, .ref x2), (1, .ref x1), (0, .ref b)]) (hc : c + q < N) (d0 : decode cc pc = .ok (.aload_n 0, 1)) (d1 : decode cc (pc + 1) = .ok (.iload_n 3, 1)) (d2 : decode cc (pc + 1 + 1) = .ok (.iconst n0, 1)) (hq : Int32.ofInt n0 = nI q) (d3 : decode cc (pc + 1 + 1 + 1) = .ok (.iadd, 1)) (d4 : decode cc (pc + 1 + 1 + 1 + 1) = .ok (.iaload, 1)) (kk : zJ E nL k n ws (pc + 1 + 1 + 1 + 1 + 1) L (.int (xs (c + q)) :: st)) : zJ E nL k n ws pc L st := by
  subst hL
  refine zj_aload_n C d0 3 rfl ?_
  refine zj_iload_n C d1 0 rfl ?_
  refine zj_iconst C d2 hq ?_
  refine zj_iadd C d3 ?_
  refine zj_eq (st' := .int (nI (c + q)) :: .ref b :: st) rfl rfl (by rw [nI_add]) rfl ?_
  exact zj_sld C hsc (c + q) (nI_clamp (by omega)) (vp_in_nI hc (by omega)) d4 kk
/-- the first cell of a call -/
theorem zj_arg0 (C : zO E cc nL own R cy l D) {b N c x1 x2 : Nat} {xs : Nat → Int32} (hsc : zScr E b N xs) (hN : N ≤ 2048) (hL : L = [(3, .int (nI c)), (2, .ref x2), (1, .ref x1), (0, .ref b)]) (hc : c < N) (d0 : decode cc pc = .ok (.aload_n 0, 1)) (d1 : decode cc (pc + 1) = .ok (.iload_n 3, 1)) (d4 : decode cc (pc + 1 + 1) = .ok (.iaload, 1)) (kk : zJ E nL k n ws (pc + 1 + 1 + 1) L (.int (xs c) :: st)) : zJ E nL k n ws pc L st := by
  subst hL
  refine zj_aload_n C d0 3 rfl ?_
  refine zj_iload_n C d1 0 rfl ?_
  exact zj_sld C hsc c (nI_clamp (by omega)) (vp_in_nI hc (by omega)) d4 kk
theorem zj_callVk (C : zO E cc nL own R cy l D) (hkn : k ≤ R.cells ∧ n ≤ R.slots) {y : MethodName} {bytes : ByteArray} {maxL index n0 : Nat} {ret : Option FieldType} {rm : Room} {wc wc' ws' : va_W} {As : List Value} {r : Option Value} {st0 st1 : List Value} {nn : Nat} {b N : Nat} {Cn : String} {T : u_T} {fs : List Value} (q0 ci : Nat) (isC : List Nat)
    (hM : zC l y (zW y bytes maxL ret) rm D cy (.ref b :: As) wc r wc') (hG : GoodIn zG (wsV own index Cn y (zW y bytes maxL ret))) (hd : y.cls = Cn ∧ y.cls ≠ "java/lang/invoke/MethodHandle" ∧ y.cls ≠ "java/lang/invoke/VarHandle" ∧ (parseMethodDescriptor y.desc).map (fun d => d.parameters.length) = some n0) (hrm : rm.cells = 0 ∧ rm.slots = 0) (hR : rm.frames + 1 ≤ R.frames ∧ 8 + (maxL + 11) + rm.locals ≤ R.locals)
    (hw : ws[q0]? = some (b, .inr (ci, fs))) (hc : vwCl[ci]? = some (Cn, T, N)) (hC : isC.map (fun i => ws[i]?) = wc.map some) (hnd : va_nd isC = true) (hlen : wc.length = nn ∧ wc'.length = nn) (hn : As.length = n0) (hst : st0 = As.reverse ++ .ref b :: st) (hroom : (st.map fun v => v.category).sum ≤ 8)
    (d : decode cc pc = .ok (.invokevirtual index, 3)) (hws : zS ws isC wc' = ws') (hs1 : r.toList ++ st = st1) (kk : zJ E nL k n ws' (pc + 3) L st1) : zJ E nL k n ws pc L st0 := by
  intro H locs ls hP hD hS hl
  obtain rfl := C.lE
  obtain rfl := C.dD
  obtain rfl := C.rR
  subst hst
  subst hs1
  have hF := va_free (wc := wc) hD hS C.A isC hC
  refine zc_call (va_runV ⟨C.xx, C.bb, C.ml, C.wn, C.ts⟩ (hM H.size)
    (cwV n0 C.ts hG rfl hrm.1 hrm.2 hd hR) ⟨(zc_pre C.K hP hD hS C.X hF isC hC hnd).1, va_recv C.K hP hc hw, (zc_pre C.K hP hD hS C.X hF isC hC hnd).2⟩ rfl hn hl.1 rfl (lv_room hroom) d hkn) hS (fun q _ h => hF q h) hF (fun t H1 locs1 ht hB hz1 hk1 hS => ?_)
  obtain ⟨hP1, hD1⟩ := hB
  rw [ht] at hP1
  obtain ⟨hP2, hD2⟩ := zS_join hP hD isC hC (hlen.1.trans hlen.2.symm) hk1 hF hP1 hD1
  exact kk H1 locs1 ls (hws ▸ hP2) (hws ▸ hD2) hS hl
theorem zj_callVFk (C : zO E cc nL own R cy l D) (hkn : k ≤ R.cells ∧ n ≤ R.slots) {y : MethodName} {bytes : ByteArray} {maxL index n0 : Nat} {ret : Option FieldType} {rm : Room} {wc wc' : va_W} {As : List Value} {r : Option Value} {st0 st1 : List Value} {nn : Nat} {b N : Nat} {Cn : String} {T : u_T} {fs : List Value} {Bs Bs' : List va_W} (wcs wcs' : List va_W) (is : List Nat) (q0 ci : Nat)
    (hM : zC l y (zW y bytes maxL ret) rm D cy (.ref b :: As) wc r wc') (hwc : wcs.flatten = wc) (hwc' : wcs'.flatten = wc') (hG : GoodIn zG (wsV own index Cn y (zW y bytes maxL ret))) (hd : y.cls = Cn ∧ y.cls ≠ "java/lang/invoke/MethodHandle" ∧ y.cls ≠ "java/lang/invoke/VarHandle" ∧ (parseMethodDescriptor y.desc).map (fun d => d.parameters.length) = some n0) (hrm : rm.cells = 0 ∧ rm.slots = 0) (hR : rm.frames + 1 ≤ R.frames ∧ 8 + (maxL + 11) + rm.locals ≤ R.locals)
    (hw : wc[q0]? = some (b, .inr (ci, fs))) (hc : vwCl[ci]? = some (Cn, T, N)) (hC : is.map (fun i => Bs[i]?) = wcs.map some) (hnd : is.Nodup) (hlen : wc.length = nn ∧ wc'.length = nn) (hl2 : wcs.length = wcs'.length) (hn : As.length = n0) (hst : st0 = As.reverse ++ .ref b :: st) (hroom : (st.map fun v => v.category).sum ≤ 8)
    (d : decode cc pc = .ok (.invokevirtual index, 3)) (hB : zV Bs is wcs' = Bs') (hs1 : r.toList ++ st = st1) (kk : zJ E nL k n Bs'.flatten (pc + 3) L st1) : zJ E nL k n Bs.flatten pc L st0 := by
  subst hwc
  subst hwc'
  subst hB
  have hlen0 : is.length = wcs.length := by have := congrArg List.length hC; simpa using this
  have hin := zV_in is wcs Bs hC
  have p0 := zV_perm is wcs Bs hlen0 hin hnd
  rw [zV_self is wcs Bs hC] at p0
  have p1 := zV_perm is wcs' Bs (hlen0.trans hl2) hin hnd
  have hnil : wcs.map (fun _ => ([] : va_W)) = wcs'.map (fun _ => ([] : va_W)) := by
    rw [List.map_const', List.map_const', hl2]
  rw [hnil] at p0
  generalize (zV Bs is (wcs'.map (fun _ => ([] : va_W)))).flatten = X at p0 p1
  refine zj_perm p0 ?_
  refine zj_eq (ws' := [] ++ (wcs.flatten ++ X)) rfl rfl rfl rfl ?_
  refine zj_callVk C hkn q0 ci ((List.range wcs.flatten.length).map (([] : va_W).length + ·)) hM hG hd hrm hR (by rw [List.nil_append, List.getElem?_append_left (List.getElem?_eq_some_iff.mp hw).1]; exact hw) hc (zC_blk [] wcs.flatten X) (zN_blk _ _) hlen hn hst hroom d (zS_blk [] wcs.flatten wcs'.flatten X (hlen.1.trans hlen.2.symm)) hs1 ?_
  exact zj_perm p1.symm kk
end ZK
theorem FRq {c : Nat} {T : zTr} {z : zPd} {y : zHs} {s : zSl} {S : zMs} (h : FR c T z y s S) : (gHs_first y < 7 ∧ gHs_count y ≤ 6) ∧ okT T ∧ (gPd_n z ≤ 80 ∧ ∀ i, zch (gPd_sg z i)) ∧ (∀ i, i < 7 → oN (gHs_st y i)) ∧ (∀ i, i < 2 → oN (gSl_st s i)) ∧ (gMs_pf S < 6 ∧ gMs_pm S ≤ 6) ∧ (zCk S 61 ∧ zCk S 122) ∧ gMs_pdm S ≤ 80 := by
  obtain ⟨⟨⟨hRC, hRb, hRl, hRd⟩, hI, hp⟩, ⟨y1, y2, y3, y4, y5, y6⟩, hs, ⟨p1, p2, p3, p4⟩⟩ := h
  exact ⟨⟨y1, y2⟩, Inv_ok hI, ⟨p2, p4⟩, y5, fun i hi => (hs i hi).2.1, ⟨y4, by omega⟩, ⟨zCk_o hRb hI.2.1.1, zCk_o hRl hI.2.2.1.1⟩, by omega⟩
/-- the long that the law makes of two cells -/
def zlong (a b : Int32) : Int64 := (a.toInt64 <<< ((32 : Int32).toInt64 &&& 63)) ||| (b.toInt64 &&& 4294967295)
/-- all that the law holds: the class's cells, then the reference's -/
abbrev LB (cy : Nat → ClassId) (x0 x1 x2 d0 d1 p0 p1 h0 h1 : Nat) (a b : Nat → Nat) (hs sl : Nat → Nat → Nat) (m : Nat → Nat) (T U : zTr) (x : zDd) (z : zPd) (y : zHs) (s : zSl) (S : zMs) : List va_W := [WX0 x0 x1 x2 a b d0 p0 h0, WT cy a T, WT cy b U, WD cy d0 d1 x, WP cy p0 p1 z, WHo cy h0 h1 hs (gHs_first y) (gHs_count y)] ++ (WHL cy hs (gHs_st y) ++ ([WX1 cy x1 sl] ++ (WSL cy sl (gSl_st s) ++ [WX2 cy x2 (gSl_sv s), WM cy m S])))
abbrev LL (c : Nat) (m0 x0 b : Nat) : List (Nat × Value) := [(3, .int (nI c)), (2, .ref m0), (1, .ref x0), (0, .ref b)]
