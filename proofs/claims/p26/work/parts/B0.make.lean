/-! constructors: methods that make cells -/
def zAO (U : State) : Prop := va_AO "SwingUnits$Holder" U ∧ va_AO "SwingUnits$Trust" U
theorem zAO.moved {u U : State} (h : u.vm.Alike U.vm) (k : zAO u) : zAO U := ⟨k.1.moved h, k.2.moved h⟩
def zN (l : Launch) (y : MethodName) (wd : List Cond) (rm : Room) (D : va_G) (cy : Nat → ClassId) (av : List Value) (ws : va_W) (Post : va_W → Prop) (mc ms : Nat) : Prop :=
  ∀ sz : Nat, Met l y wd rm (va_Pc av (fun U => U.heap.size = sz ∧ va_P D vwCl ws U.heap ∧ va_K D vwCl (zT cy) U ∧ va_D (fun _ => True) ws ∧ zX (va_A ws sz) U U.heap ∧ zAO U)) (va_Qv Post (fun ws' t => va_P D vwCl ws' t.heap ∧ va_D (va_A ws sz) ws') (va_A ws sz)) mc ms (va_A ws sz)
theorem zN_of {l : Launch} {y : MethodName} {cc : ByteArray} {nL : Nat} {rm : Room} {D : va_G} {cy : Nat → ClassId} {av : List Value} {ws : va_W} {Post : va_W → Prop} {mc ms : Nat}
    (hy : plainName y.cls = true) (hlen : (lg_sl av).length ≤ nL)
    (body : ∀ E : zE, zO E cc nL y.cls rm cy l D → E.2.2.1.name = y.name → zAO E.1.2.2.2.2.1 → (∀ (pc : Nat) (L : List (Nat × Value)) (ws' : va_W), Post ws' → decode cc pc = .ok (.return_, 1) → zJ E nL mc ms ws' pc L []) → zJ E nL 0 0 ws 0 (lv_args 0 av) []) : zN l y (zW y cc nL none) rm D cy av ws Post mc ms := by
  intro sz
  refine Met.ofW (cc := cc) (maxL := nL) (ret := none) hy rfl ?_
  intro p e s m args below meth c s₁ B hml hv
  obtain ⟨rfl, hsz, hP, hK, hD0, hX0, hAO⟩ := hv
  subst hsz
  have hx := B.exec
  have hb := B.bytes
  have hr := B.returns
  have hlocks := B.notSynchronized
  have hts := atoms_spec (ws := zW y cc nL none) B.pre
  have hown : s.vm.findClass y.cls = some m.cls := findClass_of_methodNamed B.named
  have hin : meth.name = y.name := (name_of_methodNamed B.named B.method).1
  have hD := hD0.self (sz := s.heap.size)
  generalize hAe : va_A ws s.heap.size = A at hD hX0 ⊢
  have hA : ∀ q : Nat, s.heap.size ≤ q → A q := fun q h => by rw [← hAe]; exact Or.inr h
  have hS : va_S A s.heap s.heap [] := va_S.rf
  have hl := lv_entry av (n := nL) hlen
  rw [lg_entry_eq]
  refine body ((p, l, e, _, s, m, av.toArray), (below, meth, c, _, A, D)) ⟨hx, hb, hml, hown, fun w hw => hts w (List.mem_cons_of_mem _ hw), hK, hA, rfl, rfl, rfl, hX0⟩ hin hAO ?_ s.heap [] _ hP hD hS hl
  intro pc L ws' hpost hd H locs ls hP hD hS hl
  exact W.vret (Qc := va_Qv Post (fun ws' t => va_P D vwCl ws' t.heap ∧ va_D A ws') A) (free := A) hx hb hr (fun t ht hW => ⟨⟨ws', rfl, hpost, by rw [ht]; exact hP, hD⟩, hS.F ht⟩) hS.2.2 hd
theorem zN_pre {cy : Nat → ClassId} {D : va_G} {ws wc : va_W} {av : List Value} {s : State} {A : Nat → Prop} {H : Heap} {locs : List Loc} (hK : va_K D vwCl (zT cy) s) (hP : va_P D vwCl ws H) (hD : va_D A ws) (hS : va_S A s.heap H locs) (hX : zX A s s.heap) (hAO : zAO s) (hF : ∀ q, va_A wc H.size q → A q) (isC : List Nat) (hC : isC.map (fun i => ws[i]?) = wc.map some) (hnd : va_nd isC = true) : PreS s H (va_Pc av (fun U => U.heap.size = H.size ∧ va_P D vwCl wc U.heap ∧ va_K D vwCl (zT cy) U ∧ va_D (fun _ => True) wc ∧ zX (va_A wc H.size) U U.heap ∧ zAO U)) av := by
  have hPc : va_P D vwCl wc H := by
    intro k q hq
    have h1 : (isC.map (fun i => ws[i]?))[k]? = some (some q) := by rw [hC, List.getElem?_map, hq]; rfl
    rw [List.getElem?_map] at h1
    cases hi : isC[k]? with
    | none => rw [hi] at h1; cases h1
    | some i => rw [hi] at h1; exact hP i q (Option.some.inj h1)
  have hDc := (hD.sub isC hnd hC).weaken (B := fun _ => True) (fun _ _ _ _ => trivial)
  refine ⟨fun a U g mk q => ?_, fun U hU hW => ⟨rfl, by rw [hU], by rw [hU]; exact hPc, va_K.moved hW.alike hK, hDc, by rw [hU]; exact hX.warm hW (fun a h1 h2 => hS.2.1 a h1 h2) hF, hAO.moved hW.alike⟩⟩
  obtain ⟨q0, q1, qP, qK, qD, qX, qO⟩ := q
  exact ⟨q0, q1, qP, va_K.moved (u := U) (U := U.calling g mk a) (Vm.Alike.refl U.vm) qK, qD, qX.call, zAO.moved (u := U) (U := U.calling g mk a) (Vm.Alike.refl U.vm) qO⟩
theorem zA_join {A0 : Nat → Prop} {D : va_G} {cl : List vw_C} {wr wc w1 : va_W} {H H1 : Heap} (hP : va_P D cl (wr ++ wc) H) (hD : va_D A0 (wr ++ wc)) (hk : ∀ q : Nat, q < H.size → ¬ va_A wc H.size q → H1[q]? = H[q]?) (hF : ∀ q, va_A wc H.size q → A0 q) (hP1 : va_P D cl w1 H1) (hD1 : va_D (va_A wc H.size) w1) : va_P D cl (wr ++ w1) H1 ∧ va_D A0 (wr ++ w1) := by
  refine va_join hP hD ((List.range wc.length).map (wr.length + ·)) (List.range wr.length) ?_ ?_ ?_ ?_ hk hF hP1 hD1
  · have h := zC_blk wr wc []
    rw [List.append_nil] at h
    exact h
  · apply List.ext_getElem?
    intro i
    rw [List.getElem?_map, List.getElem?_map]
    by_cases hi : i < wr.length
    · rw [List.getElem?_range hi]
      show some ((wr ++ wc)[i]?) = (wr[i]?).map some
      rw [List.getElem?_append_left hi, List.getElem?_eq_getElem hi]
      rfl
    · rw [List.getElem?_eq_none (by simpa using hi), List.getElem?_eq_none (by omega)]
      rfl
  · exact va_nd_of _ List.nodup_range
  · intro i hi hj
    obtain ⟨j, -, e⟩ := List.mem_map.mp hj
    have := List.mem_range.mp hi
    omega
theorem va_RA_find {U : State} {cA : ClassId} {ty : FieldType} (h : va_RA U cA ty) : U.vm.findClass ("[" ++ ty.toString) = some cA := by
  cases ty with
  | object C =>
    obtain ⟨_, _, _, _, _, h5⟩ := h
    exact h5
  | _ => exact h
theorem zcy_eq {cy : Nat → ClassId} {D : va_G} {cA : ClassId} {ty : FieldType} {s : State} (hK : va_K D vwCl (zT cy ++ [(cA, ty)]) s) (j : Nat) (hj : (zT cy)[j]? = some (cy j, ty)) : cA = cy j := by
  have h1 := va_RA_find (hK.2 j (cy j, ty) (by rw [List.getElem?_append_left (List.getElem?_eq_some_iff.mp hj).1]; exact hj)).2
  have h2 := va_RA_find (hK.2 6 (cA, ty) rfl).2
  exact Option.some.inj (h2.symm.trans h1)
section ZN
variable {E : zE} {cc : ByteArray} {nL : Nat} {own : String} {R : Room} {cy : Nat → ClassId} {l : Launch} {D : va_G} {k n : Nat} {ws : va_W} {pc : Nat} {L : List (Nat × Value)} {st : List Value}
theorem zj_objInit (C : zO E cc nL own R cy l D) {idx : Nat} {a : Nat} (hlink : Cond.methodLink own idx Lib.objectInit ∈ zG) (hR : 1 ≤ R.frames ∧ (st.map fun v => v.category).sum + 12 ≤ R.locals) (d : decode cc pc = .ok (.invokespecial idx, 3)) (kk : zJ E nL k n ws (pc + 3) L st) : zJ E nL k n ws pc L (.ref a :: st) := by
  intro H locs ls hP hD hS hl
  obtain rfl := C.rR
  refine W.objInit C.xx C.bb C.wn (C.ts _ hlink) (C.ts (.instanceMethod Lib.objectInit) tg_17) (C.ts (.code Lib.objectInit ⟨#[0xb1]⟩ 1 none) tg_18) rfl (by rw [C.ml]; exact hl.1) rfl d hR.1 ?_ ?_
  · have := hR.2
    show 2 * 0 + (st.map fun v => v.category).sum + 12 ≤ _
    omega
  · exact kk H locs ls hP hD hS hl
theorem zj_make (C : zO E cc nL own R cy l D) (hAO : zAO E.1.2.2.2.2.1) {y : MethodName} {bytes : ByteArray} {maxL idx index : Nat} {rm : Room} {Cn : String} {T : u_T} {N ci mc ms : Nat} {fs : List Value} {Post : Nat → va_W → Prop} (ty0 : Nat → FieldType) (hty : ∀ k, k < N → parseFieldDescriptor (T k).2.2.1 = some (ty0 k)) (hin : ∀ w ∈ u_ws Cn T N, w ∈ zG) (hcl : Cond.classLink own index Cn ∈ zG) (hinst : Cond.instantiable Cn N ∈ zG) (hini : Cond.initialized Cn ∈ zG) (hc : vwCl[ci]? = some (Cn, T, N)) (hfs : ∀ j, j < N → defaultValue (ty0 j) = vp_V fs j)
    (hM : ∀ q, zN l y (zW y bytes maxL none) rm D cy [.ref q] [(q, .inr (ci, fs))] (Post q) mc ms) (hcd : Cond.code y bytes maxL none ∈ zG) (hml : Cond.methodLink own idx y ∈ zG) (hins : Cond.instanceMethod y ∈ zG) (hy : y.cls = Cn ∧ y.name = "<init>") (hd : y.cls ≠ "java/lang/invoke/MethodHandle" ∧ y.cls ≠ "java/lang/invoke/VarHandle" ∧ (parseMethodDescriptor y.desc).map (fun d => d.parameters.length) = some 0) (hrm : rm.cells = mc ∧ rm.slots = ms) (hR : rm.frames + 1 ≤ R.frames ∧ 8 + (maxL + 11) + rm.locals ≤ R.locals) (hk : k + 1 + mc ≤ R.cells ∧ n + N + ms ≤ R.slots) (hroom : ((Value.ref 0 :: st).map fun v => v.category).sum ≤ 8)
    (d0 : decode cc pc = .ok (.new index, 3)) (d1 : decode cc (pc + 3) = .ok (.dup, 1)) (d2 : decode cc (pc + 3 + 1) = .ok (.invokespecial idx, 3))
    (kk : ∀ (q : Nat) (w : va_W), Post q w → zJ E nL (k + 1 + mc) (n + N + ms) (ws ++ w) (pc + 3 + 1 + 3) L (.ref q :: st)) : zJ E nL k n ws pc L st := by
  intro H locs ls hP hD hS hl
  obtain rfl := C.lE
  obtain rfl := C.dD
  obtain rfl := C.rR
  refine va_new (ci := ci) (fs := fs) C.xx C.bb C.ts hin ty0 hty C.wn (C.ts _ hcl) (C.ts _ hinst) (C.ts _ hini) C.K hP hD hS C.A hc hfs (by omega) (by omega) d0 (fun q H hP hD hS => ?_)
  refine lv_dup C.xx C.bb d1 rfl ?_
  have hC : [ws.length].map (fun i => (ws ++ [(q, (.inr (ci, fs) : va_E))])[i]?) = [(q, (.inr (ci, fs) : va_E))].map some := by simp
  have hF := va_free (wc := [(q, .inr (ci, fs))]) hD hS C.A [ws.length] hC
  refine va_callv (va_runI (As := []) (rest := .ref q :: st) ⟨C.xx, C.bb, C.ml, C.wn, C.ts⟩ (hM q H.size) (cwI 0 C.ts (zg_in hcd) rfl hrm.1 hrm.2 (by rw [hy.1]; exact C.ts _ hini) (C.ts _ hml) (C.ts _ hins) hy.2 hd hR) (zN_pre C.K hP hD hS C.X hAO hF [ws.length] hC rfl) rfl rfl hl.1 rfl (lv_room hroom) d2 hk) hS (fun q _ h => hF q h) hF (fun w t H1 locs1 ht hvm hpost hB hz1 hk1 hS => ?_)
  obtain ⟨hP1, hD1⟩ := hB
  rw [ht] at hP1
  obtain ⟨hP, hD⟩ := zA_join hP hD hk1 hF hP1 hD1
  exact kk q w hpost H1 locs1 ls hP hD hS hl
theorem zj_newa (C : zO E cc nL own R cy l D) {atype : ArrayType} {ty : FieldType} (j : Nat) (hty : newarray.typeOf atype = ty) (hj : (zT cy)[j]? = some (cy j, ty)) (harr : Cond.arrayClass (newarray.typeOf atype) ∈ zG) {v : Int32} {N' : Nat} {a0 : vp_A} (ha : ∀ cA : ClassId, vp_cell cA a0 = arrV cA N' (fun _ => defaultValue ty)) (hn : ¬ v < 0) (hN : v.toNatClampNeg = N') (hbytes : N' * componentBytes ty ≤ 536870912) (hk : k + 1 ≤ R.cells ∧ n + N' ≤ R.slots) (d : decode cc pc = .ok (.newarray atype, 2))
    (kk : ∀ q : Nat, zJ E nL (k + 1) (n + N') (ws ++ [(q, .inl (cy j, a0))]) (pc + 2) L (.ref q :: st)) : zJ E nL k n ws pc L (.int v :: st) := by
  intro H locs ls hP hD hS hl
  obtain rfl := C.rR
  refine va_newa (atype := atype) C.xx C.bb (C.ts _ harr) hty C.K hP hD hS C.A ha hn hN hbytes hk.1 hk.2 d (fun q cA H1 hK hP hD hS => ?_)
  have hc := zcy_eq hK j hj
  rw [hc] at hP hD
  exact kk q H1 locs ls hP hD hS hl
theorem zj_newq (C : zO E cc nL own R cy l D) {Cn : String} {index : Nat} (j : Nat) (hj : (zT cy)[j]? = some (cy j, .object Cn)) (hcl : Cond.classLink own index Cn ∈ zG) (hao : va_AO Cn E.1.2.2.2.2.1) {v : Int32} {N' : Nat} (hn : ¬ v < 0) (hN : v.toNatClampNeg = N') (hbytes : N' * 4 ≤ 536870912) (hk : k + 1 ≤ R.cells ∧ n + N' ≤ R.slots) (d : decode cc pc = .ok (.anewarray index, 3))
    (kk : ∀ q : Nat, zJ E nL (k + 1) (n + N') (ws ++ [(q, .inl (cy j, N', .inr (.inr (.inr (.inr (fun _ => none))))))]) (pc + 3) L (.ref q :: st)) : zJ E nL k n ws pc L (.int v :: st) := by
  intro H locs ls hP hD hS hl
  obtain rfl := C.rR
  refine va_newq C.xx C.bb C.wn (C.ts _ hcl) hao C.K hP hD hS C.A hn hN hbytes hk.1 hk.2 d (fun q cA H1 hK hP hD hS => ?_)
  have hc := zcy_eq hK j hj
  rw [hc] at hP hD
  exact kk q H1 locs ls hP hD hS hl
theorem zj_putF (C : zO E cc nL own R cy l D) (hnm2 : E.2.2.1.name = "<init>") {index : Nat} (q0 ci k0 : Nat) {Cn : String} {T : u_T} {N a : Nat} {fs : List Value} {v : Value} {ws' : va_W} (ty0 : Nat → FieldType) (hty : ∀ k, k < N → parseFieldDescriptor (T k).2.2.1 = some (ty0 k)) (hnm : ∀ a, a < N → ∀ b, b < N → a ≠ b → (T a).2.1 ≠ (T b).2.1) (hin : ∀ w ∈ u_ws Cn T N, w ∈ zG) (hw : ws[q0]? = some (a, .inr (ci, fs))) (hc : vwCl[ci]? = some (Cn, T, N)) (hk : k0 < N) (hlink : Cond.fieldLink own index (T k0).1 (T k0).2.1 (T k0).2.2.1 ∈ zG) (hfin : (T k0).2.2.2 = true) (hdecl : (T k0).1 = own) (hn : narrow (ty0 k0) v = v) (hfit : fits (ty0 k0) v = true) (hl0 : k0 < fs.length) (d : decode cc pc = .ok (.putfield index, 3)) (hws : ws.set q0 (a, .inr (ci, fs.set k0 v)) = ws') (kk : zJ E nL k n ws' (pc + 3) L st) : zJ E nL k n ws pc L (v :: .ref a :: st) := fun H locs ls hP hD hS hl => va_putF C.xx C.bb C.ts hin ty0 hty hnm C.wn C.K hP hD hS q0 hw hc k0 hk (C.ts _ hlink) (fun _ h => h) hfin hnm2 hdecl (hty k0 hk) hn hfit hl0 d (fun H1 locs1 hP hD hS => kk H1 locs1 ls (hws ▸ hP) (hws ▸ hD) hS hl)
theorem zj_astq (C : zO E cc nL own R cy l D) (q0 t0 qk ci : Nat) {cA : ClassId} {r : vw_C} {a N v : Nat} {vs : List Value} {f : Nat → Option Nat} {i : Int32} (j : Nat) (hj : i.toNatClampNeg = j) {ws' : va_W} (ha : ws[q0]? = some (a, .inl (cA, N, .inr (.inr (.inr (.inr f)))))) (ht : (zT cy)[t0]? = some (cA, .object r.1)) (hv : ws[qk]? = some (v, .inr (ci, vs))) (hc : vwCl[ci]? = some r) (hin : vp_in i N) (d : decode cc pc = .ok (.aastore, 1)) (hws : ws.set q0 (a, .inl (cA, N, .inr (.inr (.inr (.inr (va_up f j (some v))))))) = ws') (kk : zJ E nL k n ws' (pc + 1) L st) : zJ E nL k n ws pc L (.ref v :: .int i :: .ref a :: st) := by
  subst hj
  exact fun H locs ls hP hD hS hl => va_astq C.xx C.bb C.K hP hD hS q0 t0 qk ci ha ht hv hc hin d (fun H1 locs1 hP hD hS => kk H1 locs1 ls (hws ▸ hP) (hws ▸ hD) hS hl)
theorem arrV_ext (cA : ClassId) (N : Nat) {f g : Nat → Value} (h : ∀ j, j < N → f j = g j) : arrV cA N f = arrV cA N g := by
  unfold arrV
  have e : (fun j : Fin N => f j.val) = (fun j : Fin N => g j.val) := funext (fun j => h j.val j.isLt)
  rw [e]
/-- a row of references told anew -/
theorem zj_cellq (q0 : Nat) {a N : Nat} {cA : ClassId} {f g : Nat → Option Nat} {ws' : va_W} (hw : ws[q0]? = some (a, .inl (cA, N, .inr (.inr (.inr (.inr f)))))) (hf : ∀ j, j < N → f j = g j) (hws : ws.set q0 (a, .inl (cA, N, .inr (.inr (.inr (.inr g))))) = ws') (kk : zJ E nL k n ws' pc L st) : zJ E nL k n ws pc L st := by
  intro H locs ls hP hD hS hl
  subst hws
  refine kk H locs ls (hP.set hD hw ?_ (fun _ _ => rfl)) (hD.set hw) hS hl
  have h0 := hP q0 _ hw
  show H[a]? = some (vp_cell cA (N, .inr (.inr (.inr (.inr g)))))
  have h1 : H[a]? = some (vp_cell cA (N, .inr (.inr (.inr (.inr f))))) := h0
  rw [h1, vp_cell_q, vp_cell_q, arrV_ext cA N (fun j hj => by rw [hf j hj])]
end ZN
