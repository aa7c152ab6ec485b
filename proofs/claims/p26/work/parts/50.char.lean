/-! characters -/
def zch (x : Int32) : Prop := ∃ j : Nat, j ≤ 65535 ∧ x = nI j
theorem zch_u (n : Nat) : (UInt32.ofNat n).toInt32 = nI n := rfl
theorem zch_n {x : Int32} (h : zch x) : narrow .char (.int x) = .int x := by
  obtain ⟨j, hj, rfl⟩ := h
  show Value.int ((nI j).toUInt32.toUInt16.toUInt32.toInt32) = .int (nI j)
  have h1 : (nI j).toUInt32 = UInt32.ofNat j := rfl
  have h2 : (UInt32.ofNat j).toUInt16.toUInt32 = UInt32.ofNat j := by
    apply UInt32.toNat_inj.mp
    rw [UInt16.toNat_toUInt32, UInt32.toNat_toUInt16, UInt32.toNat_ofNat']
    omega
  rw [h1, h2]
  rfl
theorem zch_f {x : Int32} (h : zch x) : fits .char (.int x) = true := by
  obtain ⟨j, hj, rfl⟩ := h
  show (decide ((0 : Int32) ≤ nI j) && decide (nI j ≤ 65535)) = true
  rw [Bool.and_eq_true, decide_eq_true_eq, decide_eq_true_eq]
  exact ⟨nI_pos' (by omega), (nI_leI (b := 65535) (by omega) (by decide)).mpr hj⟩
theorem zch_v {x : Int32} (h : zch x) : vp_nar .char x = x := by
  unfold vp_nar
  rw [zch_n h]
theorem zch_c (x : Int32) : zch ((x.toUInt32 % 65536).toInt32) := by
  refine ⟨(x.toUInt32 % 65536).toNat, ?_, ?_⟩
  · rw [UInt32.toNat_mod]
    have : (65536 : UInt32).toNat = 65536 := rfl
    rw [this]
    omega
  · have h := congrArg UInt32.toInt32 (UInt32.ofNat_toNat (x := x.toUInt32 % 65536))
    rw [← h]
    exact zch_u _
theorem zch_0 : zch 0 := ⟨0, by omega, rfl⟩
theorem zj_cast {E : zE} {cc : ByteArray} {nL : Nat} {own : String} {R : Room} {cy : Nat → ClassId} {l : Launch} {D : va_G} {k n : Nat} {ws : va_W} {pc : Nat} {L : List (Nat × Value)} {st : List Value} (C : zO E cc nL own R cy l D) (q0 : Nat) {a N : Nat} {f : Nat → Int32} {i : Int32} {x : Int32} {ws' : va_W} (j : Nat) (hj : i.toNatClampNeg = j) (hin : vp_in i N) (hw : ws[q0]? = some (a, .inl (cy 0, N, .inl f))) (hx : zch x) (d : decode cc pc = .ok (.castore, 1)) (hws : ws.set q0 (a, .inl (cy 0, N, .inl (upd f j x))) = ws') (kk : zJ E nL k n ws' (pc + 1) L st) : zJ E nL k n ws pc L (.int x :: .int i :: .ref a :: st) := fun H locs ls hP hD hS hl => va_cast C.xx C.bb C.K hP hD hS q0 0 hw rfl hin d (fun H1 locs1 hP hD hS => kk H1 locs1 ls (by rw [hj, zch_v hx, hws] at hP; exact hP) (by rw [hj, zch_v hx, hws] at hD; exact hD) hS hl)
/-- a method that answers a character -/
theorem zC_ofC {l : Launch} {y : MethodName} {cc : ByteArray} {nL : Nat} {rm : Room} {D : va_G} {cy : Nat → ClassId} {av : List Value} {ws ws' : va_W} {v : Int32}
    (hy : plainName y.cls = true) (hlen : (lg_sl av).length ≤ nL) (hok : zch v)
    (body : ∀ E : zE, zO E cc nL y.cls rm cy l D → zR E cc nL (some (.int v)) ws' → zJ E nL 0 0 ws 0 (lv_args 0 av) []) : zC l y (zW y cc nL (some .char)) rm D cy av ws (some (.int v)) ws' := by
  intro sz
  refine Met.ofW (cc := cc) (maxL := nL) (ret := some .char) hy rfl ?_
  intro p e s m args below meth c s₁ B hml hv
  obtain ⟨rfl, hsz, hP, hK, hD0, hX0⟩ := hv
  subst hsz
  have hx := B.exec
  have hb := B.bytes
  have hr := B.returns
  have hlocks := B.notSynchronized
  have hts := atoms_spec (ws := zW y cc nL (some .char)) B.pre
  have hown : s.vm.findClass y.cls = some m.cls := findClass_of_methodNamed B.named
  have hD := hD0.self (sz := s.heap.size)
  generalize hAe : va_A ws s.heap.size = A at hD hX0 ⊢
  have hA : ∀ q : Nat, s.heap.size ≤ q → A q := fun q h => by rw [← hAe]; exact Or.inr h
  have hS : va_S A s.heap s.heap [] := va_S.rf
  have hl := lv_entry av (n := nL) hlen
  rw [lg_entry_eq]
  refine body ((p, l, e, _, s, m, av.toArray), (below, meth, c, _, A, D)) ⟨hx, hb, hml, hown, fun w hw => hts w (List.mem_cons_of_mem _ hw), hK, hA, rfl, rfl, rfl, hX0⟩ ?_ s.heap [] _ hP hD hS hl
  intro pc L hd H locs ls hP hD hS hl
  have hq : ∀ t : State, t.heap = H → ((Outcome.returned (some (.int v)) = .returned (some (.int v)) ∧ va_P D vwCl ws' t.heap ∧ va_D A ws') ∧ va_F A s t) := fun t ht => ⟨⟨rfl, by rw [ht]; exact hP, hD⟩, hS.F ht⟩
  exact W.zret (v := v) (Qc := fun _ st oc t => (oc = .returned (some (.int v)) ∧ va_P D vwCl ws' t.heap ∧ va_D A ws') ∧ va_F A st t) (free := A) hx hb hr (zch_n hok) (fun t ht hW => hq t ht) hS.2.2 hd
