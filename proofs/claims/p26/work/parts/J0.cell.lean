/-! the script. Written by wip/p26/law25.py -/
def zScr (E : zE) (b N : Nat) (xs : Nat → Int32) : Prop := va_X b N xs E.1.2.2.2.2.1 E.1.2.2.2.2.1.heap ∧ b < E.1.2.2.2.2.1.heap.size ∧ ¬ E.2.2.2.2.2.1 b
section ZK
variable {E : zE} {cc : ByteArray} {nL : Nat} {own : String} {R : Room} {cy : Nat → ClassId} {l : Launch} {D : va_G} {k n : Nat} {ws : va_W} {pc : Nat} {L : List (Nat × Value)} {st : List Value}
theorem zj_sld (C : zO E cc nL own R cy l D) {b N : Nat} {xs : Nat → Int32} (hsc : zScr E b N xs) {i : Int32} (j : Nat) (hj : i.toNatClampNeg = j) (hin : vp_in i N) (d : decode cc pc = .ok (.iaload, 1)) (kk : zJ E nL k n ws (pc + 1) L (.int (xs j) :: st)) : zJ E nL k n ws pc L (.int i :: .ref b :: st) := by
  subst hj
  exact fun H locs ls hP hD hS hl => va_sld C.xx C.bb hsc.1 hsc.2.1 hsc.2.2 hS hin d (kk H locs ls hP hD hS hl)
theorem zj_slen (C : zO E cc nL own R cy l D) {b N : Nat} {xs : Nat → Int32} (hsc : zScr E b N xs) (d : decode cc pc = .ok (.arraylength, 1)) (kk : zJ E nL k n ws (pc + 1) L (.int (nI N) :: st)) : zJ E nL k n ws pc L (.ref b :: st) := fun H locs ls hP hD hS hl => va_slen C.xx C.bb hsc.1 hsc.2.1 hsc.2.2 hS d (kk H locs ls hP hD hS hl)
end ZK
def zMS (l : Launch) (y : MethodName) (wd : List Cond) (rm : Room) (D : va_G) (cy : Nat → ClassId) (b N : Nat) (xs : Nat → Int32) (av : List Value) (Post : Option Value → va_W → Prop) : Prop :=
  ∀ sz : Nat, Met l y wd rm (va_Pc av (fun U => U.heap.size = sz ∧ va_P D vwCl [] U.heap ∧ va_K D vwCl (zT cy) U ∧ va_D (fun _ => True) [] ∧ zX (va_A [] sz) U U.heap ∧ va_X b N xs U U.heap ∧ b < sz)) (fun _ st oc t => (∃ (r : Option Value) (ws' : va_W), oc = .returned r ∧ Post r ws' ∧ va_P D vwCl ws' t.heap ∧ va_D (va_A [] sz) ws') ∧ va_F (va_A [] sz) st t) 0 0 (va_A [] sz)
theorem zMS_of {l : Launch} {y : MethodName} {cc : ByteArray} {nL : Nat} {ret : Option FieldType} {rm : Room} {D : va_G} {cy : Nat → ClassId} {b N : Nat} {xs : Nat → Int32} {av : List Value} {Post : Option Value → va_W → Prop}
    (hy : plainName y.cls = true) (hlen : (lg_sl av).length ≤ nL)
    (body : ∀ E : zE, zO E cc nL y.cls rm cy l D → zScr E b N xs → zRM E cc nL ret Post 0 0 → zJ E nL 0 0 [] 0 (lv_args 0 av) []) : zMS l y (zW y cc nL ret) rm D cy b N xs av Post := by
  intro sz
  refine Met.ofW (cc := cc) (maxL := nL) (ret := ret) hy rfl ?_
  intro p e s m args below meth c s₁ B hml hv
  obtain ⟨rfl, hsz, hP, hK, hD0, hX0, hX1, hb1⟩ := hv
  subst hsz
  have hx := B.exec
  have hb := B.bytes
  have hr := B.returns
  have hlocks := B.notSynchronized
  have hts := atoms_spec (ws := zW y cc nL ret) B.pre
  have hown : s.vm.findClass y.cls = some m.cls := findClass_of_methodNamed B.named
  have hD := hD0.self (sz := s.heap.size)
  have hnb : ¬ va_A [] s.heap.size b := fun q => by
    rcases q with ⟨k, e, h⟩ | h
    · simp at h
    · omega
  generalize hAe : va_A [] s.heap.size = A at hD hX0 hnb ⊢
  have hA : ∀ q : Nat, s.heap.size ≤ q → A q := fun q h => by rw [← hAe]; exact Or.inr h
  have hS : va_S A s.heap s.heap [] := va_S.rf
  have hl := lv_entry av (n := nL) hlen
  rw [lg_entry_eq]
  refine body ((p, l, e, _, s, m, av.toArray), (below, meth, c, _, A, D)) ⟨hx, hb, hml, hown, fun w hw => hts w (List.mem_cons_of_mem _ hw), hK, hA, rfl, rfl, rfl, hX0⟩ ⟨hX1, hb1, hnb⟩ ?_ s.heap [] _ hP hD hS hl
  intro pc L r ws' hpost hok hd H locs ls hP hD hS hl
  have hq : ∀ t : State, t.heap = H → ((∃ (r' : Option Value) (w : va_W), Outcome.returned r = .returned r' ∧ Post r' w ∧ va_P D vwCl w t.heap ∧ va_D A w) ∧ va_F A s t) := fun t ht => ⟨⟨r, ws', rfl, hpost, by rw [ht]; exact hP, hD⟩, hS.F ht⟩
  rcases hok with ⟨h1, h2⟩ | ⟨v, h1, h2⟩ | ⟨v, h1, h2⟩ | ⟨v, h1, h2, h3⟩
  · subst h1; subst h2
    exact W.vret (Qc := fun _ st oc t => (∃ (r' : Option Value) (w : va_W), oc = .returned r' ∧ Post r' w ∧ va_P D vwCl w t.heap ∧ va_D A w) ∧ va_F A st t) (free := A) hx hb hr (fun t ht hW => hq t ht) hS.2.2 hd
  · subst h1; subst h2
    exact W.iret (v := v) (Qc := fun _ st oc t => (∃ (r' : Option Value) (w : va_W), oc = .returned r' ∧ Post r' w ∧ va_P D vwCl w t.heap ∧ va_D A w) ∧ va_F A st t) (free := A) hx hb hr (fun t ht hW => hq t ht) hS.2.2 hd
  · subst h1; subst h2
    exact W.lret (v := v) (Qc := fun _ st oc t => (∃ (r' : Option Value) (w : va_W), oc = .returned r' ∧ Post r' w ∧ va_P D vwCl w t.heap ∧ va_D A w) ∧ va_F A st t) (free := A) hx hb hr (fun t ht hW => hq t ht) hS.2.2 hd
  · subst h1; subst h2
    exact W.zret (v := v) (Qc := fun _ st oc t => (∃ (r' : Option Value) (w : va_W), oc = .returned r' ∧ Post r' w ∧ va_P D vwCl w t.heap ∧ va_D A w) ∧ va_F A st t) (free := A) hx hb hr h3 (fun t ht hW => hq t ht) hS.2.2 hd
theorem zs_pre {cy : Nat → ClassId} {D : va_G} {b N : Nat} {xs : Nat → Int32} {av : List Value} {s : State} {A : Nat → Prop} {H : Heap} {locs : List Loc} (hK : va_K D vwCl (zT cy) s) (hS : va_S A s.heap H locs) (hX : zX A s s.heap) (hF : ∀ q, va_A [] H.size q → A q) (hs : va_X b N xs s s.heap) (hb : b < s.heap.size) (hbA : ¬ A b) : PreS s H (va_Pc av (fun U => U.heap.size = H.size ∧ va_P D vwCl [] U.heap ∧ va_K D vwCl (zT cy) U ∧ va_D (fun _ => True) [] ∧ zX (va_A [] H.size) U U.heap ∧ va_X b N xs U U.heap ∧ b < H.size)) av := by
  have hk : H[b]? = s.heap[b]? := hS.2.1 b hb hbA
  refine ⟨fun a U g mk q => ?_, fun U hU hW => ⟨rfl, by rw [hU], fun k q h => by simp at h, va_K.moved hW.alike hK, ⟨fun i j p q h => by simp at h, fun k q h => by simp at h⟩, by rw [hU]; exact hX.warm hW (fun a h1 h2 => hS.2.1 a h1 h2) hF, by rw [hU]; exact (va_X.moved hW.alike hs).kept hk, Nat.lt_of_lt_of_le hb hS.1⟩⟩
  obtain ⟨q0, q1, qP, qK, qD, qX, qS, qb⟩ := q
  exact ⟨q0, q1, qP, va_K.moved (u := U) (U := U.calling g mk a) (Vm.Alike.refl U.vm) qK, qD, qX.call, va_X.moved (u := U) (U := U.calling g mk a) (Vm.Alike.refl U.vm) qS, qb⟩
section ZS
variable {E : zE} {cc : ByteArray} {nL : Nat} {own : String} {R : Room} {cy : Nat → ClassId} {l : Launch} {D : va_G} {k n : Nat} {ws : va_W} {pc : Nat} {L : List (Nat × Value)} {st : List Value} {b N : Nat} {xs : Nat → Int32}
theorem zj_callSc (C : zO E cc nL own R cy l D) (hsc : zScr E b N xs) {y : MethodName} {bytes : ByteArray} {maxL index n0 : Nat} {ret : Option FieldType} {rm : Room} {As : List Value} {Post : Option Value → va_W → Prop} {st0 : List Value}
    (hM : zMS l y (zW y bytes maxL ret) rm D cy b N xs As Post) (hcd : Cond.code y bytes maxL ret ∈ zG) (hml : Cond.methodLink own index y ∈ zG) (hsta : Cond.static y ∈ zG) (hini : Cond.initialized y.cls ∈ zG) (hd : y.cls ≠ "java/lang/invoke/MethodHandle" ∧ y.cls ≠ "java/lang/invoke/VarHandle" ∧ (parseMethodDescriptor y.desc).map (fun d => d.parameters.length) = some n0) (hrm : rm.cells = 0 ∧ rm.slots = 0) (hR : rm.frames + 1 ≤ R.frames ∧ 8 + (maxL + 11) + rm.locals ≤ R.locals) (hkn : k ≤ R.cells ∧ n ≤ R.slots)
    (hn : As.length = n0) (hst : st0 = As.reverse ++ st) (hroom : (st.map fun v => v.category).sum ≤ 8)
    (d : decode cc pc = .ok (.invokestatic index, 3)) (kk : ∀ (r : Option Value) (w : va_W), Post r w → zJ E nL k n (ws ++ w) (pc + 3) L (r.toList ++ st)) : zJ E nL k n ws pc L st0 := by
  intro H locs ls hP hD hS hl
  obtain rfl := C.lE
  obtain rfl := C.dD
  obtain rfl := C.rR
  subst hst
  have hF := va_free (wc := []) hD hS C.A [] rfl
  refine zc_callM (va_runS ⟨C.xx, C.bb, C.ml, C.wn, C.ts⟩ (hM H.size)
    ⟨callB_of n0 C.ts (zg_in hcd) rfl hrm.1 hrm.2 (C.ts _ hini) (C.ts _ hml) hd hR, C.ts _ hsta⟩ (zs_pre C.K hS C.X hF hsc.1 hsc.2.1 hsc.2.2) rfl hn hl.1 rfl (lv_room hroom) d hkn) hS (fun q _ h => hF q h) hF (fun r w t H1 locs1 ht hp hB hz1 hk1 hS => ?_)
  obtain ⟨hP1, hD1⟩ := hB
  rw [ht] at hP1
  obtain ⟨hP2, hD2⟩ := zA_join (wr := ws) (wc := []) (by rw [List.append_nil]; exact hP) (by rw [List.append_nil]; exact hD) hk1 hF hP1 hD1
  exact kk r w hp H1 locs1 ls hP2 hD2 hS hl
end ZS
set_option maxHeartbeats 4000000 in
set_option maxRecDepth 100000 in
theorem c_L_cell (l : Launch) (D : va_G) (cy : Nat → ClassId) (b N : Nat) (xs : Nat → Int32) (hN : N ≤ 260) (k : Int) (hk : 0 ≤ k ∧ k ≤ 1000) : zMS l yL_cell (zW yL_cell cL_cell 2 (Option.some Jvm.ClassFile.FieldType.int)) rm_0 D cy b N xs [.ref b, .int (jI k)] (fun r w => ∃ v : Int32, r = some (.int v) ∧ w = []) := by
  refine zMS_of rfl (Nat.le_of_ble_eq_true rfl) (fun E C hsc hret => ?_)
  have C : zO E cL_cell 2 "SwingUnitsLaw" rm_0 cy l D := C
  obtain ⟨j, rfl⟩ := Int.eq_ofNat_of_zero_le hk.1
  show zJ E 2 0 0 [] 0 [(0, .ref b), (1, .int (jI (j : Int)))] []
  refine zj_iload_n C dL_cell_0 1 rfl ?_
  refine zj_aload_n C dL_cell_1 0 rfl ?_
  refine zj_slen C hsc dL_cell_2 ?_
  rw [show nI N = jI (N : Int) from jI_n N]
  refine ij_icmp_ge C 12 dL_cell_3 (by decide) ⟨by omega, by omega⟩ ⟨by omega, by omega⟩ (fun _ => ?_) (fun hb => ?_)
  · refine zj_ldc C dL_cell_12 tgv_340 ?_
    refine zj_iload_n C dL_cell_14 1 rfl ?_
    refine ij_sipush C dL_cell_15 (by decide) ?_
    refine ij_iadd C dL_cell_18 ?_
    refine zj_imul C dL_cell_19 ?_
    exact hret _ _ (some (.int _)) _ ⟨_, rfl, rfl⟩ (zOk_i _) dL_cell_20
  · refine zj_aload_n C dL_cell_6 0 rfl ?_
    refine zj_iload_n C dL_cell_7 1 rfl ?_
    refine zj_sld C hsc j (ncI (by omega)) (by rw [show jI (j : Int) = nI j from (jI_n j).symm]; exact vp_in_nI (by omega) (by omega)) dL_cell_8 ?_
    refine zj_goto C 20 dL_cell_9 (by decide) ?_
    exact hret _ _ (some (.int _)) _ ⟨_, rfl, rfl⟩ (zOk_i _) dL_cell_20
