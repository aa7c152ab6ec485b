/-! contracts of the law's own methods: to one of several answers and worlds; cells may be made -/
def zM (l : Launch) (y : MethodName) (wd : List Cond) (rm : Room) (D : va_G) (cy : Nat → ClassId) (av : List Value) (ws : va_W) (Post : Option Value → va_W → Prop) (mc ms : Nat) : Prop :=
  ∀ sz : Nat, Met l y wd rm (va_Pc av (fun U => U.heap.size = sz ∧ va_P D vwCl ws U.heap ∧ va_K D vwCl (zT cy) U ∧ va_D (fun _ => True) ws ∧ zX (va_A ws sz) U U.heap)) (fun _ st oc t => (∃ (r : Option Value) (ws' : va_W), oc = .returned r ∧ Post r ws' ∧ va_P D vwCl ws' t.heap ∧ va_D (va_A ws sz) ws') ∧ va_F (va_A ws sz) st t) mc ms (va_A ws sz)
/-- the end of such a method -/
def zRM (E : zE) (cc : ByteArray) (nL : Nat) (ret : Option FieldType) (Post : Option Value → va_W → Prop) (mc ms : Nat) : Prop := ∀ (pc : Nat) (L : List (Nat × Value)) (r : Option Value) (ws' : va_W), Post r ws' → zOk ret r → decode cc pc = .ok (zRop r, 1) → zJ E nL mc ms ws' pc L r.toList
theorem zM_of {l : Launch} {y : MethodName} {cc : ByteArray} {nL : Nat} {ret : Option FieldType} {rm : Room} {D : va_G} {cy : Nat → ClassId} {av : List Value} {ws : va_W} {Post : Option Value → va_W → Prop} {mc ms : Nat}
    (hy : plainName y.cls = true) (hlen : (lg_sl av).length ≤ nL)
    (body : ∀ E : zE, zO E cc nL y.cls rm cy l D → zRM E cc nL ret Post mc ms → zJ E nL 0 0 ws 0 (lv_args 0 av) []) : zM l y (zW y cc nL ret) rm D cy av ws Post mc ms := by
  intro sz
  refine Met.ofW (cc := cc) (maxL := nL) (ret := ret) hy rfl ?_
  intro p e s m args below meth c s₁ B hml hv
  obtain ⟨rfl, hsz, hP, hK, hD0, hX0⟩ := hv
  subst hsz
  have hx := B.exec
  have hb := B.bytes
  have hr := B.returns
  have hlocks := B.notSynchronized
  have hts := atoms_spec (ws := zW y cc nL ret) B.pre
  have hown : s.vm.findClass y.cls = some m.cls := findClass_of_methodNamed B.named
  have hD := hD0.self (sz := s.heap.size)
  generalize hAe : va_A ws s.heap.size = A at hD hX0 ⊢
  have hA : ∀ q : Nat, s.heap.size ≤ q → A q := fun q h => by rw [← hAe]; exact Or.inr h
  have hS : va_S A s.heap s.heap [] := va_S.rf
  have hl := lv_entry av (n := nL) hlen
  rw [lg_entry_eq]
  refine body ((p, l, e, _, s, m, av.toArray), (below, meth, c, _, A, D)) ⟨hx, hb, hml, hown, fun w hw => hts w (List.mem_cons_of_mem _ hw), hK, hA, rfl, rfl, rfl, hX0⟩ ?_ s.heap [] _ hP hD hS hl
  intro pc L r ws' hpost hok hd H locs ls hP hD hS hl
  have hq : ∀ t : State, t.heap = H → ((∃ (r' : Option Value) (w : va_W), Outcome.returned r = .returned r' ∧ Post r' w ∧ va_P D vwCl w t.heap ∧ va_D A w) ∧ va_F A s t) := fun t ht => ⟨⟨r, ws', rfl, hpost, by rw [ht]; exact hP, hD⟩, hS.F ht⟩
  rcases hok with ⟨h1, h2⟩ | ⟨v, h1, h2⟩ | ⟨v, h1, h2⟩ | ⟨v, h1, h2, h3⟩
  · subst h1; subst h2
    exact W.vret (Qc := fun _ st oc t => (∃ (r' : Option Value) (w : va_W), oc = .returned r' ∧ Post r' w ∧ va_P D vwCl w t.heap ∧ va_D A w) ∧ va_F A st t) (free := A) hx hb hr (fun t ht hW => hq t ht) hS.2.2 hd
  · subst h1; subst h2
    exact W.iret (v := v) (Qc := fun _ st oc t => (∃ (r' : Option Value) (w : va_W), oc = .returned r' ∧ Post r' w ∧ va_P D vwCl w t.heap ∧ va_D A w) ∧ va_F A st t) (free := A) hx hb hr (fun t ht hW => hq t ht) hS.2.2 hd
  · subst h1; subst h2
    exact W.lret (v := v) (Qc := fun _ st oc t => (∃ (r' : Option Value) (w : va_W), oc = .returned r' ∧ Post r' w ∧ va_P D vwCl w t.heap ∧ va_D A w) ∧ va_F A st t) (free := A) hx hb hr (fun t ht hW => hq t ht) hS.2.2 hd
  · subst h1; subst h2
    exact W.zret (v := v) (Qc := fun _ st oc t => (∃ (r' : Option Value) (w : va_W), oc = .returned r' ∧ Post r' w ∧ va_P D vwCl w t.heap ∧ va_D A w) ∧ va_F A st t) (free := A) hx hb hr h3 (fun t ht hW => hq t ht) hS.2.2 hd
theorem zc_callM {p : Program} {l : Launch} {e : Env} {R : Room} {s : State} {m : MethodId} {args : Array Value} {below : List Frame} {meth : Method} {c : Code} {H : Heap} {locs : List Loc} {k n mc ms : Nat} {Q : State → Prop} {pc : Nat} {ls : Array Slot} {rest st0 : List Value} {A0 A1 : Nat → Prop} {H0 : Heap} {free : Addr → Prop} {Post : Option Value → va_W → Prop} {B : va_W → State → Prop}
    (hr : va_Run p l e R s m args below meth c H locs k n mc ms (F0 m pc ls st0) rest (fun st oc t => (∃ (r : Option Value) (w : va_W), oc = .returned r ∧ Post r w ∧ B w t) ∧ va_F A1 st t) free) (hS : va_S A0 H0 H locs) (hA : ∀ q, q < H.size → A1 q → A0 q) (hf : ∀ q, free q → A0 q)
    (kk : ∀ (r : Option Value) (w : va_W) (t : State) (H1 : Heap) (locs1 : List Loc), t.heap = H1 → Post r w → B w t → H.size ≤ H1.size → (∀ q : Nat, q < H.size → ¬ A1 q → H1[q]? = H[q]?) → va_S A0 H0 H1 locs1 → W p l e R s m args below meth c H1 locs1 (k + mc) (n + ms) Q (F0 m (pc + 3) ls (r.toList ++ rest))) : W p l e R s m args below meth c H locs k n Q (F0 m pc ls st0) := by
  intro T hT X
  obtain ⟨v, st₀, t, T', L, h0, X', hL, e1, e2, ⟨⟨r, w, hv, hp, hb⟩, hz, hk⟩, st⟩ := hr T hT X
  cases hv
  rw [h0] at hz hk
  obtain ⟨t2, a1, b1⟩ := kk v w t T'.heap (locs ++ L) e1.symm hp hb (by rw [e1]; exact hz) (fun q h1 h2 => by rw [e1]; exact hk q h1 h2)
    ⟨Nat.le_trans hS.1 (by rw [e1]; exact hz), fun q h1 h2 => by rw [e1, hk q (Nat.lt_of_lt_of_le h1 hS.1) (fun z => h2 (hA q (Nat.lt_of_lt_of_le h1 hS.1) z))]; exact hS.2.1 q h1 h2, fun q hq => by
      rcases List.mem_append.mp hq with h | h
      · exact hS.2.2 q h
      · exact hf _ (hL q h)⟩ T' rfl X'
  exact ⟨t2, st t2 a1, b1⟩
section ZM1
variable {E : zE} {cc : ByteArray} {nL : Nat} {own : String} {R : Room} {cy : Nat → ClassId} {l : Launch} {D : va_G} {k n : Nat} {ws : va_W} {pc : Nat} {L : List (Nat × Value)} {st : List Value}
/-- more room than is needed -/
theorem zj_wide {k' n' : Nat} (h1 : k ≤ k') (h2 : n ≤ n') (kk : zJ E nL k' n' ws pc L st) : zJ E nL k n ws pc L st := fun H locs ls hP hD hS hl => W.widen h1 h2 (kk H locs ls hP hD hS hl)
/-- a call of one of the law's own methods: its world stands behind the caller's own cells -/
theorem zj_callM (C : zO E cc nL own R cy l D) {y : MethodName} {bytes : ByteArray} {maxL index n0 mc ms : Nat} {ret : Option FieldType} {rm : Room} {wr wc : va_W} {As : List Value} {Post : Option Value → va_W → Prop} {st0 : List Value}
    (hM : zM l y (zW y bytes maxL ret) rm D cy As wc Post mc ms) (hcd : Cond.code y bytes maxL ret ∈ zG) (hml : Cond.methodLink own index y ∈ zG) (hsta : Cond.static y ∈ zG) (hini : Cond.initialized y.cls ∈ zG) (hd : y.cls ≠ "java/lang/invoke/MethodHandle" ∧ y.cls ≠ "java/lang/invoke/VarHandle" ∧ (parseMethodDescriptor y.desc).map (fun d => d.parameters.length) = some n0) (hrm : rm.cells = mc ∧ rm.slots = ms) (hR : rm.frames + 1 ≤ R.frames ∧ 8 + (maxL + 11) + rm.locals ≤ R.locals) (hkn : k + mc ≤ R.cells ∧ n + ms ≤ R.slots)
    (hw : ws = wr ++ wc) (hn : As.length = n0) (hst : st0 = As.reverse ++ st) (hroom : (st.map fun v => v.category).sum ≤ 8)
    (d : decode cc pc = .ok (.invokestatic index, 3)) (kk : ∀ (r : Option Value) (w : va_W), Post r w → zJ E nL (k + mc) (n + ms) (wr ++ w) (pc + 3) L (r.toList ++ st)) : zJ E nL k n ws pc L st0 := by
  subst hw
  intro H locs ls hP hD hS hl
  obtain rfl := C.lE
  obtain rfl := C.dD
  obtain rfl := C.rR
  subst hst
  have hC : ((List.range wc.length).map (wr.length + ·)).map (fun i => (wr ++ wc)[i]?) = wc.map some := by
    have h := zC_blk wr wc []
    rw [List.append_nil] at h
    exact h
  have hF := va_free (wc := wc) hD hS C.A _ hC
  refine zc_callM (va_runS ⟨C.xx, C.bb, C.ml, C.wn, C.ts⟩ (hM H.size)
    ⟨callB_of n0 C.ts (zg_in hcd) rfl hrm.1 hrm.2 (C.ts _ hini) (C.ts _ hml) hd hR, C.ts _ hsta⟩ (zc_pre C.K hP hD hS C.X hF _ hC (zN_blk _ _)) rfl hn hl.1 rfl (lv_room hroom) d hkn) hS (fun q _ h => hF q h) hF (fun r w t H1 locs1 ht hp hB hz1 hk1 hS => ?_)
  obtain ⟨hP1, hD1⟩ := hB
  rw [ht] at hP1
  obtain ⟨hP2, hD2⟩ := zA_join hP hD hk1 hF hP1 hD1
  exact kk r w hp H1 locs1 ls hP2 hD2 hS hl
end ZM1
/-! a callee's blocks behind the caller's own -/
theorem zV_app {α : Type} (X : List α) : ∀ (is : List Nat) (cs Bs : List α), zV (X ++ Bs) (is.map (X.length + ·)) cs = X ++ zV Bs is cs
  | [], cs, Bs => by cases cs <;> rfl
  | i :: is, [], Bs => rfl
  | i :: is, c :: cs, Bs => by
    show zV ((X ++ Bs).set (X.length + i) c) (is.map (X.length + ·)) cs = X ++ zV (Bs.set i c) is cs
    rw [List.set_append_right _ _ (Nat.le_add_right _ _), Nat.add_sub_cancel_left]
    exact zV_app X is cs (Bs.set i c)
theorem zC_app {α : Type} (X Bs : List α) (is : List Nat) : (is.map (X.length + ·)).map (fun i => (X ++ Bs)[i]?) = is.map (fun i => Bs[i]?) := by
  rw [List.map_map]
  apply List.map_congr_left
  intro i _
  show (X ++ Bs)[X.length + i]? = Bs[i]?
  rw [List.getElem?_append_right (Nat.le_add_right _ _), Nat.add_sub_cancel_left]
section ZM2
variable {E : zE} {cc : ByteArray} {nL : Nat} {own : String} {R : Room} {cy : Nat → ClassId} {l : Launch} {D : va_G} {k n : Nat} {pc : Nat} {L : List (Nat × Value)} {st : List Value}
theorem zj_callVFk (C : zO E cc nL own R cy l D) (hkn : k ≤ R.cells ∧ n ≤ R.slots) {y : MethodName} {bytes : ByteArray} {maxL index n0 : Nat} {ret : Option FieldType} {rm : Room} {wc wc' : va_W} {As : List Value} {r : Option Value} {st0 st1 : List Value} {nn : Nat} {b N : Nat} {Cn : String} {T : u_T} {fs : List Value} {Bs Bs' : List va_W} (X wcs wcs' : List va_W) (is : List Nat) (q0 ci : Nat)
    (hM : zC l y (zW y bytes maxL ret) rm D cy (.ref b :: As) wc r wc') (hwc : wcs.flatten = wc) (hwc' : wcs'.flatten = wc') (hG : GoodIn zG (wsV own index Cn y (zW y bytes maxL ret))) (hd : y.cls = Cn ∧ y.cls ≠ "java/lang/invoke/MethodHandle" ∧ y.cls ≠ "java/lang/invoke/VarHandle" ∧ (parseMethodDescriptor y.desc).map (fun d => d.parameters.length) = some n0) (hrm : rm.cells = 0 ∧ rm.slots = 0) (hR : rm.frames + 1 ≤ R.frames ∧ 8 + (maxL + 11) + rm.locals ≤ R.locals)
    (hw : wc[q0]? = some (b, .inr (ci, fs))) (hc : vwCl[ci]? = some (Cn, T, N)) (hC : is.map (fun i => Bs[i]?) = wcs.map some) (hnd : is.Nodup) (hlen : wc.length = nn ∧ wc'.length = nn) (hl2 : wcs.length = wcs'.length) (hn : As.length = n0) (hst : st0 = As.reverse ++ .ref b :: st) (hroom : (st.map fun v => v.category).sum ≤ 8)
    (d : decode cc pc = .ok (.invokevirtual index, 3)) (hB : zV Bs is wcs' = Bs') (hs1 : r.toList ++ st = st1) (kk : zJ E nL k n (X ++ Bs').flatten (pc + 3) L st1) : zJ E nL k n (X ++ Bs).flatten pc L st0 := by
  subst hwc
  subst hwc'
  subst hB
  subst hst
  subst hs1
  have hlen0 : is.length = wcs.length := by have := congrArg List.length hC; simpa using this
  have hlenX : (is.map (X.length + ·)).length = wcs.length := by rw [List.length_map]; exact hlen0
  have hCX := (zC_app X Bs is).trans hC
  have hndX : (is.map (X.length + ·)).Nodup := List.Pairwise.map _ (fun a b h e => h (by simpa using e)) hnd
  rw [← zV_app X is wcs' Bs] at kk
  generalize is.map (X.length + ·) = js at hCX hndX hlenX kk
  generalize X ++ Bs = Ys at hCX kk ⊢
  have hin := zV_in js wcs Ys hCX
  have p0 := zV_perm js wcs Ys hlenX hin hndX
  rw [zV_self js wcs Ys hCX] at p0
  have p1 := zV_perm js wcs' Ys (hlenX.trans hl2) hin hndX
  have hnil : wcs.map (fun _ => ([] : va_W)) = wcs'.map (fun _ => ([] : va_W)) := by
    rw [List.map_const', List.map_const', hl2]
  rw [hnil] at p0
  generalize (zV Ys js (wcs'.map (fun _ => ([] : va_W)))).flatten = Z at p0 p1
  refine zj_perm p0 ?_
  intro H locs ls hP hD hS hl
  obtain rfl := C.lE
  obtain rfl := C.dD
  obtain rfl := C.rR
  have hC2 : (List.range wcs.flatten.length).map (fun i => (wcs.flatten ++ Z)[i]?) = wcs.flatten.map some := by
    have h := zC_blk [] wcs.flatten Z
    simpa using h
  have hF := va_free (wc := wcs.flatten) hD hS C.A _ hC2
  have hnd2 : va_nd (List.range wcs.flatten.length) = true := va_nd_of _ List.nodup_range
  have hrecv : (wcs.flatten ++ Z)[q0]? = some (b, .inr (ci, fs)) := by rw [List.getElem?_append_left (List.getElem?_eq_some_iff.mp hw).1]; exact hw
  refine zc_call (va_runV ⟨C.xx, C.bb, C.ml, C.wn, C.ts⟩ (hM H.size)
    (cwV n0 C.ts hG rfl hrm.1 hrm.2 hd hR) ⟨(zc_pre C.K hP hD hS C.X hF _ hC2 hnd2).1, va_recv C.K hP hc hrecv, (zc_pre C.K hP hD hS C.X hF _ hC2 hnd2).2⟩ rfl hn hl.1 rfl (lv_room hroom) d hkn) hS (fun q _ h => hF q h) hF (fun t H1 locs1 ht hB hz1 hk1 hS => ?_)
  obtain ⟨hP1, hD1⟩ := hB
  rw [ht] at hP1
  obtain ⟨hP2, hD2⟩ := zS_join hP hD _ hC2 (hlen.1.trans hlen.2.symm) hk1 hF hP1 hD1
  have e := zS_all wcs.flatten wcs'.flatten Z (hlen.1.trans hlen.2.symm)
  rw [e] at hP2 hD2
  exact zj_perm p1.symm kk H1 locs1 ls hP2 hD2 hS hl
end ZM2
