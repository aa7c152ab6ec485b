/-! zJ: the walk's judgement with the heap and the locals' array hidden; a row an instruction, over the kit's rows. Written by wip/gen/zlib.py -/
/-- the tables' words that may go along through calls -/
def zG : List Cond := lw_tbl.filter goodWord
theorem zG_of {w : Cond} (h : w ∈ lw_tbl) (hg : goodWord w = true) : w ∈ zG := List.mem_filter.mpr ⟨h, hg⟩
def zGf : Nat → Value := fun k => match k with
  | 0 => .int 23
  | 1 => .int 1000
  | 2 => .int 100
  | 3 => .int 1000
  | _ => .int 50
def zHo : MethodName := ⟨"SwingUnits", "isHolder", "(I)Z"⟩
/-- what goes along beside the words: the links of the nest, the static array -/
def zX (A : Nat → Prop) (U : State) (H : Heap) : Prop := va_Nw (.fieldLinkNest "SwingUnits$Trust" 86 "SwingUnits" "GREATEST" "[I" "SwingUnits") U ∧ va_Nw (.methodLinkNest "SwingUnits$Trust" 89 zHo "SwingUnits") U ∧ va_Nw (.methodLinkNest "SwingUnits$Pad" 65 zHo "SwingUnits") U ∧ ∃ t : Nat, va_Z "SwingUnits" "GREATEST" "[I" (.ref t) A U H ∧ va_T .int t 5 zGf A U H
theorem zX.warm {A B : Nat → Prop} {s U : State} {H0 H : Heap} (hW : s.WarmedH U.vm) (hq : ∀ a : Nat, a < H0.size → ¬ A a → H[a]? = H0[a]?) (hAB : ∀ q, B q → A q) (h : zX A s H0) : zX B U H := by
  obtain ⟨h1, h2, h3, t, h4, h5⟩ := h
  exact ⟨va_Nw.warmF hW h1, va_Nw.warmM hW h2, va_Nw.warmM hW h3, t, ((h4.kept hq).narrow hAB).moved hW.alike, ((h5.kept hq).narrow hAB).moved hW.alike⟩
theorem zX.call {A : Nat → Prop} {U : State} {H : Heap} {g : JFrame} {mk : MethodId} {a : Array Value} (h : zX A U H) : zX A (U.calling g mk a) H := by
  obtain ⟨h1, h2, h3, t, h4, h5⟩ := h
  exact ⟨va_Nw.same rfl (u := U) rfl h1, va_Nw.same rfl (u := U) rfl h2, va_Nw.same rfl (u := U) rfl h3, t, h4.moved (Vm.Alike.refl U.vm), h5.moved (Vm.Alike.refl U.vm)⟩
abbrev zE : Type := (Program × Launch × Env × Room × State × MethodId × Array Value) × (List Frame × Method × Code × (State → Prop) × (Nat → Prop) × va_G)
def zJ (E : zE) (nL k n : Nat) (ws : va_W) (pc : Nat) (L : List (Nat × Value)) (st : List Value) : Prop :=
  ∀ (H : Heap) (locs : List Loc) (ls : Array Slot), va_P E.2.2.2.2.2.2 vwCl ws H → va_D E.2.2.2.2.2.1 ws → va_S E.2.2.2.2.2.1 E.1.2.2.2.2.1.heap H locs → lv_has ls nL L →
  W E.1.1 E.1.2.1 E.1.2.2.1 E.1.2.2.2.1 E.1.2.2.2.2.1 E.1.2.2.2.2.2.1 E.1.2.2.2.2.2.2 E.2.1 E.2.2.1 E.2.2.2.1 H locs k n E.2.2.2.2.1 (F0 E.1.2.2.2.2.2.1 pc ls st)
/-- the array classes that a world may hold -/
def zT (cy : Nat → ClassId) : List (ClassId × FieldType) := [(cy 0, .char), (cy 1, .int), (cy 2, .long), (cy 3, .boolean), (cy 4, .object "SwingUnits$Holder"), (cy 5, .object "SwingUnits$Trust")]
/-- what stands fast in a walk -/
def zO (E : zE) (cc : ByteArray) (nL : Nat) (own : String) (R : Room) (cy : Nat → ClassId) (l : Launch) (D : va_G) : Prop :=
  E.1.1.tables.exec = Jvm.exec ∧ E.2.2.2.1.code = cc ∧ E.2.2.2.1.maxLocals = nL ∧ E.1.2.2.2.2.1.vm.findClass own = some E.1.2.2.2.2.2.1.cls ∧ (∀ w ∈ zG, w.before E.1.2.2.2.2.2.2 E.1.2.2.2.2.1 = true) ∧ va_K E.2.2.2.2.2.2 vwCl (zT cy) E.1.2.2.2.2.1 ∧ (∀ q : Nat, E.1.2.2.2.2.1.heap.size ≤ q → E.2.2.2.2.2.1 q) ∧ E.1.2.2.2.1 = R ∧ E.1.2.1 = l ∧ E.2.2.2.2.2.2 = D ∧ zX E.2.2.2.2.2.1 E.1.2.2.2.2.1 E.1.2.2.2.2.1.heap
section ZR
variable {E : zE} {cc : ByteArray} {nL : Nat} {own : String} {R : Room} {cy : Nat → ClassId} {l : Launch} {D : va_G} {k n : Nat} {ws : va_W} {pc : Nat} {L : List (Nat × Value)} {st : List Value}
theorem zO.xx (C : zO E cc nL own R cy l D) : E.1.1.tables.exec = Jvm.exec := C.1
theorem zO.bb (C : zO E cc nL own R cy l D) : E.2.2.2.1.code = cc := C.2.1
theorem zO.ml (C : zO E cc nL own R cy l D) : E.2.2.2.1.maxLocals = nL := C.2.2.1
theorem zO.wn (C : zO E cc nL own R cy l D) : E.1.2.2.2.2.1.vm.findClass own = some E.1.2.2.2.2.2.1.cls := C.2.2.2.1
theorem zO.ts (C : zO E cc nL own R cy l D) : ∀ w ∈ zG, w.before E.1.2.2.2.2.2.2 E.1.2.2.2.2.1 = true := C.2.2.2.2.1
theorem zO.K (C : zO E cc nL own R cy l D) : va_K E.2.2.2.2.2.2 vwCl (zT cy) E.1.2.2.2.2.1 := C.2.2.2.2.2.1
theorem zO.A (C : zO E cc nL own R cy l D) : ∀ q : Nat, E.1.2.2.2.2.1.heap.size ≤ q → E.2.2.2.2.2.1 q := C.2.2.2.2.2.2.1
theorem zO.rR (C : zO E cc nL own R cy l D) : E.1.2.2.2.1 = R := C.2.2.2.2.2.2.2.1
theorem zO.lE (C : zO E cc nL own R cy l D) : E.1.2.1 = l := C.2.2.2.2.2.2.2.2.1
theorem zO.dD (C : zO E cc nL own R cy l D) : E.2.2.2.2.2.2 = D := C.2.2.2.2.2.2.2.2.2.1
theorem zO.X (C : zO E cc nL own R cy l D) : zX E.2.2.2.2.2.1 E.1.2.2.2.2.1 E.1.2.2.2.2.1.heap := C.2.2.2.2.2.2.2.2.2.2
/-- the same place told otherwise -/
theorem zj_eq {ws' : va_W} {L' : List (Nat × Value)} {st' : List Value} {pc' : Nat} (h1 : ws = ws') (h2 : L = L') (h3 : st = st') (h4 : pc = pc') (kk : zJ E nL k n ws' pc' L' st') : zJ E nL k n ws pc L st := by subst h1; subst h2; subst h3; subst h4; exact kk
theorem zj_sub {L' : List (Nat × Value)} (is : List Nat) (h : lv_pick L is = L') (kk : zJ E nL k n ws pc L' st) : zJ E nL k n ws pc L st := fun H locs ls hP hD hS hl => kk H locs ls hP hD hS (lv_sub hl is h)

theorem zj_iconst (C : zO E cc nL own R cy l D) {n0 : Int} {v : Int32} (d : decode cc pc = .ok (.iconst n0, 1)) (hv : Int32.ofInt n0 = v) (kk : zJ E nL k n ws (pc + 1) L (.int v :: st)) : zJ E nL k n ws pc L (st) := fun H locs ls hP hD hS hl => lv_iconst C.xx C.bb d hv (kk H locs ls hP hD hS hl)
theorem zj_bipush (C : zO E cc nL own R cy l D) {n0 : Int} {v : Int32} (d : decode cc pc = .ok (.bipush n0, 2)) (hv : (Int8.ofInt n0).toInt32 = v) (kk : zJ E nL k n ws (pc + 2) L (.int v :: st)) : zJ E nL k n ws pc L (st) := fun H locs ls hP hD hS hl => lv_bipush C.xx C.bb d hv (kk H locs ls hP hD hS hl)
theorem zj_sipush (C : zO E cc nL own R cy l D) {n0 : Int} {v : Int32} (d : decode cc pc = .ok (.sipush n0, 3)) (hv : (Int16.ofInt n0).toInt32 = v) (kk : zJ E nL k n ws (pc + 3) L (.int v :: st)) : zJ E nL k n ws pc L (st) := fun H locs ls hP hD hS hl => lv_sipush C.xx C.bb d hv (kk H locs ls hP hD hS hl)
theorem zj_lconst (C : zO E cc nL own R cy l D) {n0 : Fin 2} {v : Int64} (d : decode cc pc = .ok (.lconst n0, 1)) (hv : Int64.ofNat (n0 : Nat) = v) (kk : zJ E nL k n ws (pc + 1) L (.long v :: st)) : zJ E nL k n ws pc L (st) := fun H locs ls hP hD hS hl => lv_lconst C.xx C.bb d hv (kk H locs ls hP hD hS hl)
theorem zj_iload_n (C : zO E cc nL own R cy l D) {q : Fin 4} {x : Int32} (d : decode cc pc = .ok (.iload_n q, 1)) (j : Nat) (hj : L[j]? = some ((q : Nat), .int x)) (kk : zJ E nL k n ws (pc + 1) L (.int x :: st)) : zJ E nL k n ws pc L (st) := fun H locs ls hP hD hS hl => lv_iload_n C.xx C.bb d rfl (lv_at hl j hj) (kk H locs ls hP hD hS hl)
theorem zj_iload (C : zO E cc nL own R cy l D) {q : Nat} {x : Int32} (d : decode cc pc = .ok (.iload q, 2)) (j : Nat) (hj : L[j]? = some (q, .int x)) (kk : zJ E nL k n ws (pc + 2) L (.int x :: st)) : zJ E nL k n ws pc L (st) := fun H locs ls hP hD hS hl => lv_iload C.xx C.bb d (lv_at hl j hj) (kk H locs ls hP hD hS hl)
theorem zj_lload_n (C : zO E cc nL own R cy l D) {q : Fin 4} {x : Int64} (d : decode cc pc = .ok (.lload_n q, 1)) (j : Nat) (hj : L[j]? = some ((q : Nat), .long x)) (kk : zJ E nL k n ws (pc + 1) L (.long x :: st)) : zJ E nL k n ws pc L (st) := fun H locs ls hP hD hS hl => lv_lload_n C.xx C.bb d rfl (lv_at hl j hj) (kk H locs ls hP hD hS hl)
theorem zj_lload (C : zO E cc nL own R cy l D) {q : Nat} {x : Int64} (d : decode cc pc = .ok (.lload q, 2)) (j : Nat) (hj : L[j]? = some (q, .long x)) (kk : zJ E nL k n ws (pc + 2) L (.long x :: st)) : zJ E nL k n ws pc L (st) := fun H locs ls hP hD hS hl => lv_lload C.xx C.bb d (lv_at hl j hj) (kk H locs ls hP hD hS hl)
theorem zj_aload_n (C : zO E cc nL own R cy l D) {q : Fin 4} {x : Nat} (d : decode cc pc = .ok (.aload_n q, 1)) (j : Nat) (hj : L[j]? = some ((q : Nat), .ref x)) (kk : zJ E nL k n ws (pc + 1) L (.ref x :: st)) : zJ E nL k n ws pc L (st) := fun H locs ls hP hD hS hl => lv_aload_n C.xx C.bb d rfl (lv_at hl j hj) (kk H locs ls hP hD hS hl)
theorem zj_aload (C : zO E cc nL own R cy l D) {q : Nat} {x : Nat} (d : decode cc pc = .ok (.aload q, 2)) (j : Nat) (hj : L[j]? = some (q, .ref x)) (kk : zJ E nL k n ws (pc + 2) L (.ref x :: st)) : zJ E nL k n ws pc L (st) := fun H locs ls hP hD hS hl => lv_aload C.xx C.bb d (lv_at hl j hj) (kk H locs ls hP hD hS hl)
theorem zj_istore_n (C : zO E cc nL own R cy l D) {q0 : Fin 4} {i : Nat} {x : Int32} {L' : List (Nat × Value)} (d : decode cc pc = .ok (.istore_n q0, 1)) (hi : (q0 : Nat) = i) (hn : i < nL) (hL : (i, Value.int x) :: L.filter (fun q => !(q.1 == i) && !(q.1 + 1 == i && q.2.category == 2)) = L') (kk : zJ E nL k n ws (pc + 1) L' st) : zJ E nL k n ws pc L (.int x :: st) := fun H locs ls hP hD hS hl => lv_istore_n C.xx C.bb d hi hl hn hL (fun ls hl => kk H locs ls hP hD hS hl)
theorem zj_istore (C : zO E cc nL own R cy l D) {i : Nat} {x : Int32} {L' : List (Nat × Value)} (d : decode cc pc = .ok (.istore i, 2)) (hn : i < nL) (hL : (i, Value.int x) :: L.filter (fun q => !(q.1 == i) && !(q.1 + 1 == i && q.2.category == 2)) = L') (kk : zJ E nL k n ws (pc + 2) L' st) : zJ E nL k n ws pc L (.int x :: st) := fun H locs ls hP hD hS hl => lv_istore C.xx C.bb d hl hn hL (fun ls hl => kk H locs ls hP hD hS hl)
theorem zj_lstore_n (C : zO E cc nL own R cy l D) {q0 : Fin 4} {i : Nat} {x : Int64} {L' : List (Nat × Value)} (d : decode cc pc = .ok (.lstore_n q0, 1)) (hi : (q0 : Nat) = i) (hn : i + 1 < nL) (hL : (i, Value.long x) :: L.filter (fun q => !(q.1 == i) && (!(q.1 == i + 1) && !(q.1 + 1 == i && q.2.category == 2))) = L') (kk : zJ E nL k n ws (pc + 1) L' st) : zJ E nL k n ws pc L (.long x :: st) := fun H locs ls hP hD hS hl => lv_lstore_n C.xx C.bb d hi hl hn hL (fun ls hl => kk H locs ls hP hD hS hl)
theorem zj_lstore (C : zO E cc nL own R cy l D) {i : Nat} {x : Int64} {L' : List (Nat × Value)} (d : decode cc pc = .ok (.lstore i, 2)) (hn : i + 1 < nL) (hL : (i, Value.long x) :: L.filter (fun q => !(q.1 == i) && (!(q.1 == i + 1) && !(q.1 + 1 == i && q.2.category == 2))) = L') (kk : zJ E nL k n ws (pc + 2) L' st) : zJ E nL k n ws pc L (.long x :: st) := fun H locs ls hP hD hS hl => lv_lstore C.xx C.bb d hl hn hL (fun ls hl => kk H locs ls hP hD hS hl)
theorem zj_astore_n (C : zO E cc nL own R cy l D) {q0 : Fin 4} {i : Nat} {x : Nat} {L' : List (Nat × Value)} (d : decode cc pc = .ok (.astore_n q0, 1)) (hi : (q0 : Nat) = i) (hn : i < nL) (hL : (i, Value.ref x) :: L.filter (fun q => !(q.1 == i) && !(q.1 + 1 == i && q.2.category == 2)) = L') (kk : zJ E nL k n ws (pc + 1) L' st) : zJ E nL k n ws pc L (.ref x :: st) := fun H locs ls hP hD hS hl => lv_astore_n C.xx C.bb d hi hl hn hL (fun ls hl => kk H locs ls hP hD hS hl)
theorem zj_astore (C : zO E cc nL own R cy l D) {i : Nat} {x : Nat} {L' : List (Nat × Value)} (d : decode cc pc = .ok (.astore i, 2)) (hn : i < nL) (hL : (i, Value.ref x) :: L.filter (fun q => !(q.1 == i) && !(q.1 + 1 == i && q.2.category == 2)) = L') (kk : zJ E nL k n ws (pc + 2) L' st) : zJ E nL k n ws pc L (.ref x :: st) := fun H locs ls hP hD hS hl => lv_astore C.xx C.bb d hl hn hL (fun ls hl => kk H locs ls hP hD hS hl)
theorem zj_iinc (C : zO E cc nL own R cy l D) {i j : Nat} {n0 : Int} {x v : Int32} {L' : List (Nat × Value)} (d : decode cc pc = .ok (.iinc i n0, 3)) (hj : L[j]? = some (i, .int x)) (hv : x + Int32.ofInt n0 = v) (hn : i < nL) (hL : (i, Value.int v) :: L.filter (fun q => !(q.1 == i) && !(q.1 + 1 == i && q.2.category == 2)) = L') (kk : zJ E nL k n ws (pc + 3) L' st) : zJ E nL k n ws pc L st := fun H locs ls hP hD hS hl => lv_iinc C.xx C.bb d hl hj hv hn hL (fun ls hl => kk H locs ls hP hD hS hl)
theorem zj_iadd (C : zO E cc nL own R cy l D) {x y : Int32} (d : decode cc pc = .ok (.iadd, 1))  (kk : zJ E nL k n ws (pc + 1) L (.int (x + y) :: st)) : zJ E nL k n ws pc L (.int y :: .int x :: st) := fun H locs ls hP hD hS hl => lv_iadd C.xx C.bb d (kk H locs ls hP hD hS hl)
theorem zj_isub (C : zO E cc nL own R cy l D) {x y : Int32} (d : decode cc pc = .ok (.isub, 1))  (kk : zJ E nL k n ws (pc + 1) L (.int (x - y) :: st)) : zJ E nL k n ws pc L (.int y :: .int x :: st) := fun H locs ls hP hD hS hl => lv_isub C.xx C.bb d (kk H locs ls hP hD hS hl)
theorem zj_imul (C : zO E cc nL own R cy l D) {x y : Int32} (d : decode cc pc = .ok (.imul, 1))  (kk : zJ E nL k n ws (pc + 1) L (.int (x * y) :: st)) : zJ E nL k n ws pc L (.int y :: .int x :: st) := fun H locs ls hP hD hS hl => lv_imul C.xx C.bb d (kk H locs ls hP hD hS hl)
theorem zj_iand (C : zO E cc nL own R cy l D) {x y : Int32} (d : decode cc pc = .ok (.iand, 1))  (kk : zJ E nL k n ws (pc + 1) L (.int (x &&& y) :: st)) : zJ E nL k n ws pc L (.int y :: .int x :: st) := fun H locs ls hP hD hS hl => lv_iand C.xx C.bb d (kk H locs ls hP hD hS hl)
theorem zj_ladd (C : zO E cc nL own R cy l D) {x y : Int64} (d : decode cc pc = .ok (.ladd, 1))  (kk : zJ E nL k n ws (pc + 1) L (.long (x + y) :: st)) : zJ E nL k n ws pc L (.long y :: .long x :: st) := fun H locs ls hP hD hS hl => lv_ladd C.xx C.bb d (kk H locs ls hP hD hS hl)
theorem zj_lsub (C : zO E cc nL own R cy l D) {x y : Int64} (d : decode cc pc = .ok (.lsub, 1))  (kk : zJ E nL k n ws (pc + 1) L (.long (x - y) :: st)) : zJ E nL k n ws pc L (.long y :: .long x :: st) := fun H locs ls hP hD hS hl => lv_lsub C.xx C.bb d (kk H locs ls hP hD hS hl)
theorem zj_lmul (C : zO E cc nL own R cy l D) {x y : Int64} (d : decode cc pc = .ok (.lmul, 1))  (kk : zJ E nL k n ws (pc + 1) L (.long (x * y) :: st)) : zJ E nL k n ws pc L (.long y :: .long x :: st) := fun H locs ls hP hD hS hl => lv_lmul C.xx C.bb d (kk H locs ls hP hD hS hl)
theorem zj_land (C : zO E cc nL own R cy l D) {x y : Int64} (d : decode cc pc = .ok (.land, 1))  (kk : zJ E nL k n ws (pc + 1) L (.long (x &&& y) :: st)) : zJ E nL k n ws pc L (.long y :: .long x :: st) := fun H locs ls hP hD hS hl => lv_land C.xx C.bb d (kk H locs ls hP hD hS hl)
theorem zj_lor (C : zO E cc nL own R cy l D) {x y : Int64} (d : decode cc pc = .ok (.lor, 1))  (kk : zJ E nL k n ws (pc + 1) L (.long (x ||| y) :: st)) : zJ E nL k n ws pc L (.long y :: .long x :: st) := fun H locs ls hP hD hS hl => lv_lor C.xx C.bb d (kk H locs ls hP hD hS hl)
theorem zj_ldiv (C : zO E cc nL own R cy l D) {x y : Int64} (d : decode cc pc = .ok (.ldiv, 1)) (hne : ¬ y = 0) (kk : zJ E nL k n ws (pc + 1) L (.long (x / y) :: st)) : zJ E nL k n ws pc L (.long y :: .long x :: st) := fun H locs ls hP hD hS hl => lv_ldiv C.xx C.bb d hne (kk H locs ls hP hD hS hl)
theorem zj_irem (C : zO E cc nL own R cy l D) {x y : Int32} (d : decode cc pc = .ok (.irem, 1)) (hne : ¬ y = 0) (kk : zJ E nL k n ws (pc + 1) L (.int (x - x / y * y) :: st)) : zJ E nL k n ws pc L (.int y :: .int x :: st) := fun H locs ls hP hD hS hl => lv_irem C.xx C.bb d hne (kk H locs ls hP hD hS hl)
theorem zj_ineg (C : zO E cc nL own R cy l D) {x : Int32} (d : decode cc pc = .ok (.ineg, 1))  (kk : zJ E nL k n ws (pc + 1) L (.int (-x) :: st)) : zJ E nL k n ws pc L (.int x :: st) := fun H locs ls hP hD hS hl => lv_ineg C.xx C.bb d (kk H locs ls hP hD hS hl)
theorem zj_lneg (C : zO E cc nL own R cy l D) {x : Int64} (d : decode cc pc = .ok (.lneg, 1))  (kk : zJ E nL k n ws (pc + 1) L (.long (-x) :: st)) : zJ E nL k n ws pc L (.long x :: st) := fun H locs ls hP hD hS hl => lv_lneg C.xx C.bb d (kk H locs ls hP hD hS hl)
theorem zj_i2l (C : zO E cc nL own R cy l D) {x : Int32} (d : decode cc pc = .ok (.i2l, 1))  (kk : zJ E nL k n ws (pc + 1) L (.long (x.toInt64) :: st)) : zJ E nL k n ws pc L (.int x :: st) := fun H locs ls hP hD hS hl => lv_i2l C.xx C.bb d rfl (kk H locs ls hP hD hS hl)
theorem zj_l2i (C : zO E cc nL own R cy l D) {x : Int64} (d : decode cc pc = .ok (.l2i, 1))  (kk : zJ E nL k n ws (pc + 1) L (.int (x.toInt32) :: st)) : zJ E nL k n ws pc L (.long x :: st) := fun H locs ls hP hD hS hl => lv_l2i C.xx C.bb d rfl (kk H locs ls hP hD hS hl)
theorem zj_i2c (C : zO E cc nL own R cy l D) {x : Int32} (d : decode cc pc = .ok (.i2c, 1))  (kk : zJ E nL k n ws (pc + 1) L (.int ((x.toUInt32 % 65536).toInt32) :: st)) : zJ E nL k n ws pc L (.int x :: st) := fun H locs ls hP hD hS hl => lv_i2c C.xx C.bb d rfl (kk H locs ls hP hD hS hl)
theorem zj_lushr (C : zO E cc nL own R cy l D) {x v : Int64} {y : Int32} (d : decode cc pc = .ok (.lushr, 1)) (hv : (x.toUInt64 >>> (y.toInt64.toUInt64 &&& Int64.toUInt64 63)).toInt64 = v) (kk : zJ E nL k n ws (pc + 1) L (.long v :: st)) : zJ E nL k n ws pc L (.int y :: .long x :: st) := fun H locs ls hP hD hS hl => lv_lushr C.xx C.bb d hv (kk H locs ls hP hD hS hl)
theorem zj_lshl (C : zO E cc nL own R cy l D) {x v : Int64} {y : Int32} (d : decode cc pc = .ok (.lshl, 1)) (hv : x <<< (y.toInt64 &&& 63) = v) (kk : zJ E nL k n ws (pc + 1) L (.long v :: st)) : zJ E nL k n ws pc L (.int y :: .long x :: st) := fun H locs ls hP hD hS hl => lv_lshl C.xx C.bb d hv (kk H locs ls hP hD hS hl)
theorem zj_lshr (C : zO E cc nL own R cy l D) {x v : Int64} {y : Int32} (d : decode cc pc = .ok (.lshr, 1)) (hv : x >>> (y.toInt64 &&& 63) = v) (kk : zJ E nL k n ws (pc + 1) L (.long v :: st)) : zJ E nL k n ws pc L (.int y :: .long x :: st) := fun H locs ls hP hD hS hl => lv_lshr C.xx C.bb d hv (kk H locs ls hP hD hS hl)
theorem zj_dup (C : zO E cc nL own R cy l D) {va : Value} (d : decode cc pc = .ok (.dup, 1)) (hva : va.category = 1) (kk : zJ E nL k n ws (pc + 1) L (va :: va :: st)) : zJ E nL k n ws pc L (va :: st) := fun H locs ls hP hD hS hl => lv_dup C.xx C.bb d hva (kk H locs ls hP hD hS hl)
theorem zj_pop (C : zO E cc nL own R cy l D) {va : Value} (d : decode cc pc = .ok (.pop, 1)) (hva : va.category = 1) (kk : zJ E nL k n ws (pc + 1) L (st)) : zJ E nL k n ws pc L (va :: st) := fun H locs ls hP hD hS hl => lv_pop C.xx C.bb d hva (kk H locs ls hP hD hS hl)
theorem zj_dup2 (C : zO E cc nL own R cy l D) {va vb : Value} (d : decode cc pc = .ok (.dup2, 1)) (hva : va.category = 1) (hvb : vb.category = 1) (kk : zJ E nL k n ws (pc + 1) L (va :: vb :: va :: vb :: st)) : zJ E nL k n ws pc L (va :: vb :: st) := fun H locs ls hP hD hS hl => lv_dup2_11 C.xx C.bb d hva hvb (kk H locs ls hP hD hS hl)
theorem zj_topi {x : Int32} (y : Int32) (h : x = y) (kk : zJ E nL k n ws pc L (.int y :: st)) : zJ E nL k n ws pc L (.int x :: st) := h ▸ kk
theorem zj_topig {x : Int32} (kk : ∀ y : Int32, y = x → zJ E nL k n ws pc L (.int y :: st)) : zJ E nL k n ws pc L (.int x :: st) := kk x rfl
theorem zj_topl {x : Int64} (y : Int64) (h : x = y) (kk : zJ E nL k n ws pc L (.long y :: st)) : zJ E nL k n ws pc L (.long x :: st) := h ▸ kk
theorem zj_toplg {x : Int64} (kk : ∀ y : Int64, y = x → zJ E nL k n ws pc L (.long y :: st)) : zJ E nL k n ws pc L (.long x :: st) := kk x rfl
theorem zj_if_eq (C : zO E cc nL own R cy l D) {x : Int32} {off : Int} (tgt : Nat) (d : decode cc pc = .ok (.ifCond .eq off, 3)) (ht : (pc : Int) + off = (tgt : Int)) (kt : x = 0 → zJ E nL k n ws tgt L st) (kf : ¬ (x = 0) → zJ E nL k n ws (pc + 3) L st) : zJ E nL k n ws pc L (.int x :: st) := fun H locs ls hP hD hS hl => lv_if_eq C.xx C.bb d ht (fun h => kt (by first | exact h | simpa using h) H locs ls hP hD hS hl) (fun h => kf (by first | exact h | simpa using h) H locs ls hP hD hS hl)
theorem zj_icmp_eq (C : zO E cc nL own R cy l D) {x y : Int32} {off : Int} (tgt : Nat) (d : decode cc pc = .ok (.if_icmp .eq off, 3)) (ht : (pc : Int) + off = (tgt : Int)) (kt : x = y → zJ E nL k n ws tgt L st) (kf : ¬ (x = y) → zJ E nL k n ws (pc + 3) L st) : zJ E nL k n ws pc L (.int y :: .int x :: st) := fun H locs ls hP hD hS hl => lv_icmp_eq C.xx C.bb d ht (fun h => kt (by first | exact h | simpa using h) H locs ls hP hD hS hl) (fun h => kf (by first | exact h | simpa using h) H locs ls hP hD hS hl)
theorem zj_if_ne (C : zO E cc nL own R cy l D) {x : Int32} {off : Int} (tgt : Nat) (d : decode cc pc = .ok (.ifCond .ne off, 3)) (ht : (pc : Int) + off = (tgt : Int)) (kt : ¬ x = 0 → zJ E nL k n ws tgt L st) (kf : ¬ (¬ x = 0) → zJ E nL k n ws (pc + 3) L st) : zJ E nL k n ws pc L (.int x :: st) := fun H locs ls hP hD hS hl => lv_if_ne C.xx C.bb d ht (fun h => kt (by first | exact h | simpa using h) H locs ls hP hD hS hl) (fun h => kf (by first | exact h | simpa using h) H locs ls hP hD hS hl)
theorem zj_icmp_ne (C : zO E cc nL own R cy l D) {x y : Int32} {off : Int} (tgt : Nat) (d : decode cc pc = .ok (.if_icmp .ne off, 3)) (ht : (pc : Int) + off = (tgt : Int)) (kt : ¬ x = y → zJ E nL k n ws tgt L st) (kf : ¬ (¬ x = y) → zJ E nL k n ws (pc + 3) L st) : zJ E nL k n ws pc L (.int y :: .int x :: st) := fun H locs ls hP hD hS hl => lv_icmp_ne C.xx C.bb d ht (fun h => kt (by first | exact h | simpa using h) H locs ls hP hD hS hl) (fun h => kf (by first | exact h | simpa using h) H locs ls hP hD hS hl)
theorem zj_if_lt (C : zO E cc nL own R cy l D) {x : Int32} {off : Int} (tgt : Nat) (d : decode cc pc = .ok (.ifCond .lt off, 3)) (ht : (pc : Int) + off = (tgt : Int)) (kt : x < 0 → zJ E nL k n ws tgt L st) (kf : ¬ (x < 0) → zJ E nL k n ws (pc + 3) L st) : zJ E nL k n ws pc L (.int x :: st) := fun H locs ls hP hD hS hl => lv_if_lt C.xx C.bb d ht (fun h => kt (by first | exact h | simpa using h) H locs ls hP hD hS hl) (fun h => kf (by first | exact h | simpa using h) H locs ls hP hD hS hl)
theorem zj_icmp_lt (C : zO E cc nL own R cy l D) {x y : Int32} {off : Int} (tgt : Nat) (d : decode cc pc = .ok (.if_icmp .lt off, 3)) (ht : (pc : Int) + off = (tgt : Int)) (kt : x < y → zJ E nL k n ws tgt L st) (kf : ¬ (x < y) → zJ E nL k n ws (pc + 3) L st) : zJ E nL k n ws pc L (.int y :: .int x :: st) := fun H locs ls hP hD hS hl => lv_icmp_lt C.xx C.bb d ht (fun h => kt (by first | exact h | simpa using h) H locs ls hP hD hS hl) (fun h => kf (by first | exact h | simpa using h) H locs ls hP hD hS hl)
theorem zj_if_ge (C : zO E cc nL own R cy l D) {x : Int32} {off : Int} (tgt : Nat) (d : decode cc pc = .ok (.ifCond .ge off, 3)) (ht : (pc : Int) + off = (tgt : Int)) (kt : 0 ≤ x → zJ E nL k n ws tgt L st) (kf : ¬ (0 ≤ x) → zJ E nL k n ws (pc + 3) L st) : zJ E nL k n ws pc L (.int x :: st) := fun H locs ls hP hD hS hl => lv_if_ge C.xx C.bb d ht (fun h => kt (by first | exact h | simpa using h) H locs ls hP hD hS hl) (fun h => kf (by first | exact h | simpa using h) H locs ls hP hD hS hl)
theorem zj_icmp_ge (C : zO E cc nL own R cy l D) {x y : Int32} {off : Int} (tgt : Nat) (d : decode cc pc = .ok (.if_icmp .ge off, 3)) (ht : (pc : Int) + off = (tgt : Int)) (kt : y ≤ x → zJ E nL k n ws tgt L st) (kf : ¬ (y ≤ x) → zJ E nL k n ws (pc + 3) L st) : zJ E nL k n ws pc L (.int y :: .int x :: st) := fun H locs ls hP hD hS hl => lv_icmp_ge C.xx C.bb d ht (fun h => kt (by first | exact h | simpa using h) H locs ls hP hD hS hl) (fun h => kf (by first | exact h | simpa using h) H locs ls hP hD hS hl)
theorem zj_if_gt (C : zO E cc nL own R cy l D) {x : Int32} {off : Int} (tgt : Nat) (d : decode cc pc = .ok (.ifCond .gt off, 3)) (ht : (pc : Int) + off = (tgt : Int)) (kt : 0 < x → zJ E nL k n ws tgt L st) (kf : ¬ (0 < x) → zJ E nL k n ws (pc + 3) L st) : zJ E nL k n ws pc L (.int x :: st) := fun H locs ls hP hD hS hl => lv_if_gt C.xx C.bb d ht (fun h => kt (by first | exact h | simpa using h) H locs ls hP hD hS hl) (fun h => kf (by first | exact h | simpa using h) H locs ls hP hD hS hl)
theorem zj_icmp_gt (C : zO E cc nL own R cy l D) {x y : Int32} {off : Int} (tgt : Nat) (d : decode cc pc = .ok (.if_icmp .gt off, 3)) (ht : (pc : Int) + off = (tgt : Int)) (kt : y < x → zJ E nL k n ws tgt L st) (kf : ¬ (y < x) → zJ E nL k n ws (pc + 3) L st) : zJ E nL k n ws pc L (.int y :: .int x :: st) := fun H locs ls hP hD hS hl => lv_icmp_gt C.xx C.bb d ht (fun h => kt (by first | exact h | simpa using h) H locs ls hP hD hS hl) (fun h => kf (by first | exact h | simpa using h) H locs ls hP hD hS hl)
theorem zj_if_le (C : zO E cc nL own R cy l D) {x : Int32} {off : Int} (tgt : Nat) (d : decode cc pc = .ok (.ifCond .le off, 3)) (ht : (pc : Int) + off = (tgt : Int)) (kt : x ≤ 0 → zJ E nL k n ws tgt L st) (kf : ¬ (x ≤ 0) → zJ E nL k n ws (pc + 3) L st) : zJ E nL k n ws pc L (.int x :: st) := fun H locs ls hP hD hS hl => lv_if_le C.xx C.bb d ht (fun h => kt (by first | exact h | simpa using h) H locs ls hP hD hS hl) (fun h => kf (by first | exact h | simpa using h) H locs ls hP hD hS hl)
theorem zj_icmp_le (C : zO E cc nL own R cy l D) {x y : Int32} {off : Int} (tgt : Nat) (d : decode cc pc = .ok (.if_icmp .le off, 3)) (ht : (pc : Int) + off = (tgt : Int)) (kt : x ≤ y → zJ E nL k n ws tgt L st) (kf : ¬ (x ≤ y) → zJ E nL k n ws (pc + 3) L st) : zJ E nL k n ws pc L (.int y :: .int x :: st) := fun H locs ls hP hD hS hl => lv_icmp_le C.xx C.bb d ht (fun h => kt (by first | exact h | simpa using h) H locs ls hP hD hS hl) (fun h => kf (by first | exact h | simpa using h) H locs ls hP hD hS hl)
theorem zg_ge (x y : Int64) : (0 ≤ lg_cmp x y) ↔ y ≤ x := by rw [← Int32.not_lt, lg_cmp_lt, Int64.not_lt]
theorem zg_le (x y : Int64) : (lg_cmp x y ≤ 0) ↔ x ≤ y := by rw [← Int32.not_lt, lg_cmp_gt, Int64.not_lt]
theorem zg_ne (x y : Int64) : (¬ lg_cmp x y = 0) ↔ ¬ x = y := not_congr (lg_cmp_eq x y)
theorem zj_lcmp_eq (C : zO E cc nL own R cy l D) {x y : Int64} {off : Int} (tgt : Nat) (d0 : decode cc pc = .ok (.lcmp, 1)) (d : decode cc (pc + 1) = .ok (.ifCond .eq off, 3)) (ht : ((pc + 1 : Nat) : Int) + off = (tgt : Int)) (kt : x = y → zJ E nL k n ws tgt L st) (kf : ¬ (x = y) → zJ E nL k n ws (pc + 1 + 3) L st) : zJ E nL k n ws pc L (.long y :: .long x :: st) := fun H locs ls hP hD hS hl => W.lcmp C.xx C.bb d0 ((zj_if_eq C tgt d ht (fun h => kt ((lg_cmp_eq x y).mp h)) (fun h => kf (fun q => h ((lg_cmp_eq x y).mpr q)))) H locs ls hP hD hS hl)
theorem zj_lcmp_ne (C : zO E cc nL own R cy l D) {x y : Int64} {off : Int} (tgt : Nat) (d0 : decode cc pc = .ok (.lcmp, 1)) (d : decode cc (pc + 1) = .ok (.ifCond .ne off, 3)) (ht : ((pc + 1 : Nat) : Int) + off = (tgt : Int)) (kt : ¬ x = y → zJ E nL k n ws tgt L st) (kf : ¬ (¬ x = y) → zJ E nL k n ws (pc + 1 + 3) L st) : zJ E nL k n ws pc L (.long y :: .long x :: st) := fun H locs ls hP hD hS hl => W.lcmp C.xx C.bb d0 ((zj_if_ne C tgt d ht (fun h => kt ((zg_ne x y).mp h)) (fun h => kf (fun q => h ((zg_ne x y).mpr q)))) H locs ls hP hD hS hl)
theorem zj_lcmp_lt (C : zO E cc nL own R cy l D) {x y : Int64} {off : Int} (tgt : Nat) (d0 : decode cc pc = .ok (.lcmp, 1)) (d : decode cc (pc + 1) = .ok (.ifCond .lt off, 3)) (ht : ((pc + 1 : Nat) : Int) + off = (tgt : Int)) (kt : x < y → zJ E nL k n ws tgt L st) (kf : ¬ (x < y) → zJ E nL k n ws (pc + 1 + 3) L st) : zJ E nL k n ws pc L (.long y :: .long x :: st) := fun H locs ls hP hD hS hl => W.lcmp C.xx C.bb d0 ((zj_if_lt C tgt d ht (fun h => kt ((lg_cmp_lt x y).mp h)) (fun h => kf (fun q => h ((lg_cmp_lt x y).mpr q)))) H locs ls hP hD hS hl)
theorem zj_lcmp_ge (C : zO E cc nL own R cy l D) {x y : Int64} {off : Int} (tgt : Nat) (d0 : decode cc pc = .ok (.lcmp, 1)) (d : decode cc (pc + 1) = .ok (.ifCond .ge off, 3)) (ht : ((pc + 1 : Nat) : Int) + off = (tgt : Int)) (kt : y ≤ x → zJ E nL k n ws tgt L st) (kf : ¬ (y ≤ x) → zJ E nL k n ws (pc + 1 + 3) L st) : zJ E nL k n ws pc L (.long y :: .long x :: st) := fun H locs ls hP hD hS hl => W.lcmp C.xx C.bb d0 ((zj_if_ge C tgt d ht (fun h => kt ((zg_ge x y).mp h)) (fun h => kf (fun q => h ((zg_ge x y).mpr q)))) H locs ls hP hD hS hl)
theorem zj_lcmp_gt (C : zO E cc nL own R cy l D) {x y : Int64} {off : Int} (tgt : Nat) (d0 : decode cc pc = .ok (.lcmp, 1)) (d : decode cc (pc + 1) = .ok (.ifCond .gt off, 3)) (ht : ((pc + 1 : Nat) : Int) + off = (tgt : Int)) (kt : y < x → zJ E nL k n ws tgt L st) (kf : ¬ (y < x) → zJ E nL k n ws (pc + 1 + 3) L st) : zJ E nL k n ws pc L (.long y :: .long x :: st) := fun H locs ls hP hD hS hl => W.lcmp C.xx C.bb d0 ((zj_if_gt C tgt d ht (fun h => kt ((lg_cmp_gt x y).mp h)) (fun h => kf (fun q => h ((lg_cmp_gt x y).mpr q)))) H locs ls hP hD hS hl)
theorem zj_lcmp_le (C : zO E cc nL own R cy l D) {x y : Int64} {off : Int} (tgt : Nat) (d0 : decode cc pc = .ok (.lcmp, 1)) (d : decode cc (pc + 1) = .ok (.ifCond .le off, 3)) (ht : ((pc + 1 : Nat) : Int) + off = (tgt : Int)) (kt : x ≤ y → zJ E nL k n ws tgt L st) (kf : ¬ (x ≤ y) → zJ E nL k n ws (pc + 1 + 3) L st) : zJ E nL k n ws pc L (.long y :: .long x :: st) := fun H locs ls hP hD hS hl => W.lcmp C.xx C.bb d0 ((zj_if_le C tgt d ht (fun h => kt ((zg_le x y).mp h)) (fun h => kf (fun q => h ((zg_le x y).mpr q)))) H locs ls hP hD hS hl)
theorem zj_goto (C : zO E cc nL own R cy l D) {off : Int} (tgt : Nat) (d : decode cc pc = .ok (.goto off, 3)) (ht : (pc : Int) + off = (tgt : Int)) (kk : zJ E nL k n ws tgt L st) : zJ E nL k n ws pc L st := fun H locs ls hP hD hS hl => lv_goto C.xx C.bb d ht (kk H locs ls hP hD hS hl)
theorem zj_ldc (C : zO E cc nL own R cy l D) {index : Nat} {v : Int32} (d : decode cc pc = .ok (.ldc index, 2)) (hc : Jvm.Cond.constant own index v ∈ zG) (kk : zJ E nL k n ws (pc + 2) L (.int v :: st)) : zJ E nL k n ws pc L st := fun H locs ls hP hD hS hl => lv_ldc C.xx C.bb C.wn (C.ts _ hc) d (kk H locs ls hP hD hS hl)
theorem zj_ldc2 (C : zO E cc nL own R cy l D) {index : Nat} {v : Int64} (d : decode cc pc = .ok (.ldc2_w index, 3)) (hc : Jvm.Cond.constantLong own index v ∈ zG) (kk : zJ E nL k n ws (pc + 3) L (.long v :: st)) : zJ E nL k n ws pc L st := fun H locs ls hP hD hS hl => lv_ldc2 C.xx C.bb C.wn (C.ts _ hc) d (kk H locs ls hP hD hS hl)
theorem zj_tout (C : zO E cc nL own R cy l D) {dflt lo hi : Int} {offs : Array Int} {len : Nat} {x : Int32} (tgt : Nat) (d : decode cc pc = .ok (.tableswitch dflt lo hi offs, len)) (h : x.toInt < lo ∨ hi < x.toInt) (ht : (pc : Int) + dflt = (tgt : Int)) (kk : zJ E nL k n ws tgt L st) : zJ E nL k n ws pc L (.int x :: st) := fun H locs ls hP hD hS hl => lv_tableOut C.xx C.bb d h ht (kk H locs ls hP hD hS hl)
theorem zj_tin (C : zO E cc nL own R cy l D) {dflt lo hi : Int} {offs : Array Int} {len : Nat} {x : Int32} {off : Int} (tgt : Nat) (d : decode cc pc = .ok (.tableswitch dflt lo hi offs, len)) (h1 : ¬ x.toInt < lo) (h2 : ¬ hi < x.toInt) (ho : offs[(x.toInt - lo).toNat]? = some off) (ht : (pc : Int) + off = (tgt : Int)) (kk : zJ E nL k n ws tgt L st) : zJ E nL k n ws pc L (.int x :: st) := fun H locs ls hP hD hS hl => lv_tableIn C.xx C.bb d h1 h2 ho ht (kk H locs ls hP hD hS hl)
theorem zj_look (C : zO E cc nL own R cy l D) {dflt : Int} {ps : Array (Int × Int)} {len : Nat} {x : Int32} {off : Int} (tgt : Nat) (d : decode cc pc = .ok (.lookupswitch dflt ps, len)) (hp : (ps.toList.zip (ps.toList.drop 1)).all (fun (a, next) => a.1 < next.1) = true) (ho : Op.lookupswitch.offset ps.toList dflt x.toInt = off) (ht : (pc : Int) + off = (tgt : Int)) (kk : zJ E nL k n ws tgt L st) : zJ E nL k n ws pc L (.int x :: st) := fun H locs ls hP hD hS hl => lv_lookup C.xx C.bb d hp ho ht (kk H locs ls hP hD hS hl)
theorem zj_get (C : zO E cc nL own R cy l D) {index : Nat} (q0 ci k0 : Nat) {Cn : String} {T : u_T} {N a : Nat} {fs : List Value} {v : Value} (hin : ∀ w ∈ u_ws Cn T N, w ∈ zG) (hw : ws[q0]? = some (a, .inr (ci, fs))) (hc : vwCl[ci]? = some (Cn, T, N)) (hk : k0 < N) (hlink : Cond.fieldLink own index (T k0).1 (T k0).2.1 (T k0).2.2.1 ∈ zG) (hv : fs[k0]? = some v) (d : decode cc pc = .ok (.getfield index, 3)) (kk : zJ E nL k n ws (pc + 3) L (v :: st)) : zJ E nL k n ws pc L (.ref a :: st) := fun H locs ls hP hD hS hl => va_get C.xx C.bb C.ts hin C.wn C.K hP q0 hw hc k0 hk (C.ts _ hlink) (fun _ h => h) hv d (kk H locs ls hP hD hS hl)
theorem zj_put (C : zO E cc nL own R cy l D) {index : Nat} (q0 ci k0 : Nat) {Cn : String} {T : u_T} {N a : Nat} {fs : List Value} {v : Value} {ws' : va_W} (ty0 : Nat → FieldType) (hty : ∀ k, k < N → parseFieldDescriptor (T k).2.2.1 = some (ty0 k)) (hnm : ∀ a, a < N → ∀ b, b < N → a ≠ b → (T a).2.1 ≠ (T b).2.1) (hin : ∀ w ∈ u_ws Cn T N, w ∈ zG) (hw : ws[q0]? = some (a, .inr (ci, fs))) (hc : vwCl[ci]? = some (Cn, T, N)) (hk : k0 < N) (hlink : Cond.fieldLink own index (T k0).1 (T k0).2.1 (T k0).2.2.1 ∈ zG) (hfin : (T k0).2.2.2 = false) (hn : narrow (ty0 k0) v = v) (hfit : fits (ty0 k0) v = true) (hl0 : k0 < fs.length) (d : decode cc pc = .ok (.putfield index, 3)) (hws : ws.set q0 (a, .inr (ci, fs.set k0 v)) = ws') (kk : zJ E nL k n ws' (pc + 3) L st) : zJ E nL k n ws pc L (v :: .ref a :: st) := fun H locs ls hP hD hS hl => va_put C.xx C.bb C.ts hin ty0 hty hnm C.wn C.K hP hD hS q0 hw hc k0 hk (C.ts _ hlink) (fun _ h => h) hfin (hty k0 hk) hn hfit hl0 d (fun H1 locs1 hP hD hS => kk H1 locs1 ls (hws ▸ hP) (hws ▸ hD) hS hl)
theorem zj_iald (C : zO E cc nL own R cy l D) (q0 : Nat) {a N : Nat} {f : Nat → Int32} {i : Int32} (j : Nat) (hj : i.toNatClampNeg = j) (hin : vp_in i N) (hw : ws[q0]? = some (a, .inl (cy 1, N, .inl f))) (d : decode cc pc = .ok (.iaload, 1)) (kk : zJ E nL k n ws (pc + 1) L (.int (f j) :: st)) : zJ E nL k n ws pc L (.int i :: .ref a :: st) := fun H locs ls hP hD hS hl => va_iald C.xx C.bb C.K hP q0 1 hw rfl hin d (by rw [hj]; exact kk H locs ls hP hD hS hl)
theorem zj_lald (C : zO E cc nL own R cy l D) (q0 : Nat) {a N : Nat} {f : Nat → Int64} {i : Int32} (j : Nat) (hj : i.toNatClampNeg = j) (hin : vp_in i N) (hw : ws[q0]? = some (a, .inl (cy 2, N, .inr (.inl f)))) (d : decode cc pc = .ok (.laload, 1)) (kk : zJ E nL k n ws (pc + 1) L (.long (f j) :: st)) : zJ E nL k n ws pc L (.int i :: .ref a :: st) := fun H locs ls hP hD hS hl => va_lald C.xx C.bb C.K hP q0 2 hw rfl hin d (by rw [hj]; exact kk H locs ls hP hD hS hl)
theorem zj_cald (C : zO E cc nL own R cy l D) (q0 : Nat) {a N : Nat} {f : Nat → Int32} {i : Int32} (j : Nat) (hj : i.toNatClampNeg = j) (hin : vp_in i N) (hw : ws[q0]? = some (a, .inl (cy 0, N, .inl f))) (d : decode cc pc = .ok (.caload, 1)) (kk : zJ E nL k n ws (pc + 1) L (.int (f j) :: st)) : zJ E nL k n ws pc L (.int i :: .ref a :: st) := fun H locs ls hP hD hS hl => va_cald C.xx C.bb C.K hP q0 0 hw rfl hin d (by rw [hj]; exact kk H locs ls hP hD hS hl)
theorem zj_zald (C : zO E cc nL own R cy l D) (q0 : Nat) {a N : Nat} {f : Nat → Int32} {i : Int32} (j : Nat) (hj : i.toNatClampNeg = j) (hin : vp_in i N) (hw : ws[q0]? = some (a, .inl (cy 3, N, .inl f))) (d : decode cc pc = .ok (.baload, 1)) (kk : zJ E nL k n ws (pc + 1) L (.int (f j) :: st)) : zJ E nL k n ws pc L (.int i :: .ref a :: st) := fun H locs ls hP hD hS hl => va_zald C.xx C.bb C.K hP q0 3 hw rfl hin d (by rw [hj]; exact kk H locs ls hP hD hS hl)
theorem zj_aald (C : zO E cc nL own R cy l D) (q0 t0 : Nat) {Cn : String} {a N : Nat} {cA : ClassId} {f : Nat → Option Nat} {i : Int32} {b : Nat} (j : Nat) (hj : i.toNatClampNeg = j) (hin : vp_in i N) (hw : ws[q0]? = some (a, .inl (cA, N, .inr (.inr (.inr (.inr f)))))) (ht : (zT cy)[t0]? = some (cA, .object Cn)) (hb : f j = some b) (d : decode cc pc = .ok (.aaload, 1)) (kk : zJ E nL k n ws (pc + 1) L (.ref b :: st)) : zJ E nL k n ws pc L (.int i :: .ref a :: st) := fun H locs ls hP hD hS hl => va_aldq C.xx C.bb C.K hP q0 t0 hw ht hin d (by rw [hj, hb]; exact kk H locs ls hP hD hS hl)
theorem zj_iast (C : zO E cc nL own R cy l D) (q0 : Nat) {a N : Nat} {f : Nat → Int32} {i : Int32} {x : Int32} {ws' : va_W} (j : Nat) (hj : i.toNatClampNeg = j) (hin : vp_in i N) (hw : ws[q0]? = some (a, .inl (cy 1, N, .inl f))) (d : decode cc pc = .ok (.iastore, 1)) (hws : ws.set q0 (a, .inl (cy 1, N, .inl (upd f j x))) = ws') (kk : zJ E nL k n ws' (pc + 1) L st) : zJ E nL k n ws pc L (.int x :: .int i :: .ref a :: st) := fun H locs ls hP hD hS hl => va_iast C.xx C.bb C.K hP hD hS q0 1 hw rfl hin d (fun H1 locs1 hP hD hS => kk H1 locs1 ls (by rw [hj, hws] at hP; exact hP) (by rw [hj, hws] at hD; exact hD) hS hl)
theorem zj_last (C : zO E cc nL own R cy l D) (q0 : Nat) {a N : Nat} {f : Nat → Int64} {i : Int32} {x : Int64} {ws' : va_W} (j : Nat) (hj : i.toNatClampNeg = j) (hin : vp_in i N) (hw : ws[q0]? = some (a, .inl (cy 2, N, .inr (.inl f)))) (d : decode cc pc = .ok (.lastore, 1)) (hws : ws.set q0 (a, .inl (cy 2, N, .inr (.inl (vp_updL f j x)))) = ws') (kk : zJ E nL k n ws' (pc + 1) L st) : zJ E nL k n ws pc L (.long x :: .int i :: .ref a :: st) := fun H locs ls hP hD hS hl => va_last C.xx C.bb C.K hP hD hS q0 2 hw rfl hin d (fun H1 locs1 hP hD hS => kk H1 locs1 ls (by rw [hj, hws] at hP; exact hP) (by rw [hj, hws] at hD; exact hD) hS hl)
end ZR
/-! contracts: a method that makes nothing, from its arguments and a world to an answer and a world -/
def zW (y : MethodName) (cc : ByteArray) (nL : Nat) (ret : Option FieldType) : List Cond := .code y cc nL ret :: zG
def zC (l : Launch) (y : MethodName) (wd : List Cond) (rm : Room) (D : va_G) (cy : Nat → ClassId) (av : List Value) (ws : va_W) (r : Option Value) (ws' : va_W) : Prop :=
  ∀ sz : Nat, Met l y wd rm (va_Pc av (fun U => U.heap.size = sz ∧ va_P D vwCl ws U.heap ∧ va_K D vwCl (zT cy) U ∧ va_D (fun _ => True) ws ∧ zX (va_A ws sz) U U.heap)) (fun _ st oc t => (oc = .returned r ∧ va_P D vwCl ws' t.heap ∧ va_D (va_A ws sz) ws') ∧ va_F (va_A ws sz) st t) 0 0 (va_A ws sz)
def zRop : Option Value → Instr
  | none => .return_
  | some (.int _) => .ireturn
  | some (.long _) => .lreturn
  | _ => .areturn
/-- a method's end: with its answer on the stack, and its world -/
def zR (E : zE) (cc : ByteArray) (nL : Nat) (r : Option Value) (ws' : va_W) : Prop := ∀ (pc : Nat) (L : List (Nat × Value)), decode cc pc = .ok (zRop r, 1) → zJ E nL 0 0 ws' pc L r.toList
def zOk (ret : Option FieldType) (r : Option Value) : Prop := (ret = none ∧ r = none) ∨ (∃ v, ret = some .int ∧ r = some (.int v)) ∨ (∃ v, ret = some .long ∧ r = some (.long v)) ∨ (∃ v, ret = some .boolean ∧ r = some (.int v) ∧ narrow .boolean (.int v) = .int v)
theorem zOk_v : zOk none none := Or.inl ⟨rfl, rfl⟩
theorem zOk_i (v : Int32) : zOk (some .int) (some (.int v)) := Or.inr (Or.inl ⟨v, rfl, rfl⟩)
theorem zOk_l (v : Int64) : zOk (some .long) (some (.long v)) := Or.inr (Or.inr (Or.inl ⟨v, rfl, rfl⟩))
theorem zOk_z {v : Int32} (h : v = 0 ∨ v = 1) : zOk (some .boolean) (some (.int v)) := Or.inr (Or.inr (Or.inr ⟨v, rfl, rfl, by rcases h with rfl | rfl <;> rfl⟩))
theorem zC_of {l : Launch} {y : MethodName} {cc : ByteArray} {nL : Nat} {ret : Option FieldType} {rm : Room} {D : va_G} {cy : Nat → ClassId} {av : List Value} {ws ws' : va_W} {r : Option Value}
    (hy : plainName y.cls = true) (hlen : (lg_sl av).length ≤ nL) (hok : zOk ret r)
    (body : ∀ E : zE, zO E cc nL y.cls rm cy l D → zR E cc nL r ws' → zJ E nL 0 0 ws 0 (lv_args 0 av) []) : zC l y (zW y cc nL ret) rm D cy av ws r ws' := by
  intro sz
  refine Met.ofW (cc := cc) (maxL := nL) (ret := ret) hy rfl ?_
  intro p e s m args below meth c s₁ B hml hv
  obtain ⟨rfl, hsz, hP, hK, hD0, hX0⟩ := hv
  subst hsz
  have hx := B.exec
  have hb := B.bytes
  have hr := B.returns
  have hlocks := B.notSynchronized
  have hts := atoms_spec (ws := zW y cc nL ret) B.pre
  have hown : s.vm.findClass y.cls = some m.cls := findClass_of_methodNamed B.named
  have hD := hD0.self (sz := s.heap.size)
  generalize hAe : va_A ws s.heap.size = A at hD hX0 ⊢
  have hA : ∀ q : Nat, s.heap.size ≤ q → A q := fun q h => by rw [← hAe]; exact Or.inr h
  have hS : va_S A s.heap s.heap [] := va_S.rf
  have hl := lv_entry av (n := nL) hlen
  rw [lg_entry_eq]
  refine body ((p, l, e, _, s, m, av.toArray), (below, meth, c, _, A, D)) ⟨hx, hb, hml, hown, fun w hw => hts w (List.mem_cons_of_mem _ hw), hK, hA, rfl, rfl, rfl, hX0⟩ ?_ s.heap [] _ hP hD hS hl
  intro pc L hd H locs ls hP hD hS hl
  have hq : ∀ t : State, t.heap = H → ((Outcome.returned r = .returned r ∧ va_P D vwCl ws' t.heap ∧ va_D A ws') ∧ va_F A s t) := fun t ht => ⟨⟨rfl, by rw [ht]; exact hP, hD⟩, hS.F ht⟩
  rcases hok with ⟨h1, h2⟩ | ⟨v, h1, h2⟩ | ⟨v, h1, h2⟩ | ⟨v, h1, h2, h3⟩
  · subst h1; subst h2
    exact W.vret (Qc := fun _ st oc t => (oc = .returned none ∧ va_P D vwCl ws' t.heap ∧ va_D A ws') ∧ va_F A st t) (free := A) hx hb hr (fun t ht hW => hq t ht) hS.2.2 hd
  · subst h1; subst h2
    exact W.iret (v := v) (Qc := fun _ st oc t => (oc = .returned (some (.int v)) ∧ va_P D vwCl ws' t.heap ∧ va_D A ws') ∧ va_F A st t) (free := A) hx hb hr (fun t ht hW => hq t ht) hS.2.2 hd
  · subst h1; subst h2
    exact W.lret (v := v) (Qc := fun _ st oc t => (oc = .returned (some (.long v)) ∧ va_P D vwCl ws' t.heap ∧ va_D A ws') ∧ va_F A st t) (free := A) hx hb hr (fun t ht hW => hq t ht) hS.2.2 hd
  · subst h1; subst h2
    exact W.zret (v := v) (Qc := fun _ st oc t => (oc = .returned (some (.int v)) ∧ va_P D vwCl ws' t.heap ∧ va_D A ws') ∧ va_F A st t) (free := A) hx hb hr h3 (fun t ht hW => hq t ht) hS.2.2 hd
/-! calls: the callee's cells are told by their places; they are changed in place -/
def zS : va_W → List Nat → va_W → va_W
  | ws, i :: is, c :: cs => zS (ws.set i c) is cs
  | ws, _, _ => ws
theorem zS_at : ∀ (is : List Nat) (cs : va_W) (ws : va_W) (k : Nat) (q : Nat × va_E), is.length = cs.length → (zS ws is cs)[k]? = some q → (k ∉ is ∧ ws[k]? = some q) ∨ ∃ j : Nat, is[j]? = some k ∧ cs[j]? = some q
  | [], cs, ws, k, q, h, e => by
    cases cs with
    | nil => exact Or.inl ⟨List.not_mem_nil, e⟩
    | cons c cs => simp at h
  | i :: is, [], ws, k, q, h, e => by simp at h
  | i :: is, c :: cs, ws, k, q, h, e => by
    rcases zS_at is cs (ws.set i c) k q (by simpa using h) e with ⟨h1, h2⟩ | ⟨j, h1, h2⟩
    · by_cases hk : i = k
      · subst hk
        rw [List.getElem?_set] at h2
        by_cases hl : i < ws.length
        · rw [if_pos rfl, if_pos hl] at h2
          exact Or.inr ⟨0, rfl, h2⟩
        · rw [if_pos rfl, if_neg hl] at h2
          cases h2
      · rw [List.getElem?_set_ne hk] at h2
        exact Or.inl ⟨fun m => by rcases List.mem_cons.mp m with m | m; exact hk m.symm; exact h1 m, h2⟩
    · exact Or.inr ⟨j + 1, h1, h2⟩
theorem zS_join {A0 : Nat → Prop} {D : va_G} {cl : List vw_C} {ws wc w1 : va_W} {H H1 : Heap} (hP : va_P D cl ws H) (hD : va_D A0 ws) (isC : List Nat) (hC : isC.map (fun i => ws[i]?) = wc.map some) (hlen : wc.length = w1.length)
    (hk : ∀ q : Nat, q < H.size → ¬ va_A wc H.size q → H1[q]? = H[q]?) (hF : ∀ q, va_A wc H.size q → A0 q) (hP1 : va_P D cl w1 H1) (hD1 : va_D (va_A wc H.size) w1) : va_P D cl (zS ws isC w1) H1 ∧ va_D A0 (zS ws isC w1) := by
  have hlc : isC.length = w1.length := by rw [← hlen]; have := congrArg List.length hC; simpa using this
  have at' : ∀ (k : Nat) (q : Nat × va_E), wc[k]? = some q → ∃ i, isC[k]? = some i ∧ ws[i]? = some q := by
    intro k q hq
    have h1 : (isC.map (fun i => ws[i]?))[k]? = some (some q) := by rw [hC, List.getElem?_map, hq]; rfl
    rw [List.getElem?_map] at h1
    cases hi : isC[k]? with
    | none => rw [hi] at h1; cases h1
    | some i => rw [hi] at h1; exact ⟨i, rfl, Option.some.inj h1⟩
  have apart : ∀ (k : Nat) (q : Nat × va_E), k ∉ isC → ws[k]? = some q → q.1 < H.size ∧ ¬ va_A wc H.size q.1 := by
    intro k q hn hq
    have hl := (hP k q hq).lt
    refine ⟨hl, fun h => ?_⟩
    rcases h with ⟨k2, e, h⟩ | h
    · obtain ⟨j, h3, h4⟩ := at' k2 (q.1, e) h
      have hij := hD.1 k j q (q.1, e) hq h4 rfl
      subst hij
      exact hn (List.mem_of_getElem? h3)
    · omega
  refine ⟨fun k q hq => ?_, fun i j x y hx hy hxy => ?_, fun k q hq => ?_⟩
  · rcases zS_at isC w1 ws k q hlc hq with ⟨h1, h2⟩ | ⟨j, h1, h2⟩
    · obtain ⟨g1, g2⟩ := apart k q h1 h2
      exact (hP k q h2).kept (hk q.1 g1 g2)
    · exact hP1 j q h2
  · rcases zS_at isC w1 ws i x hlc hx with ⟨h1, h2⟩ | ⟨a, h1, h2⟩ <;> rcases zS_at isC w1 ws j y hlc hy with ⟨g1, g2⟩ | ⟨b, g1, g2⟩
    · exact hD.1 i j x y h2 g2 hxy
    · exact absurd (hxy ▸ hD1.2 b y g2) (apart i x h1 h2).2
    · exact absurd (hxy ▸ hD1.2 a x h2) (apart j y g1 g2).2
    · have := hD1.1 a b x y h2 g2 hxy
      subst this
      rw [h1] at g1
      exact Option.some.inj g1
  · rcases zS_at isC w1 ws k q hlc hq with ⟨h1, h2⟩ | ⟨j, h1, h2⟩
    · exact hD.2 k q h2
    · exact hF _ (hD1.2 j q h2)
theorem zg_in {y : MethodName} {cc : ByteArray} {nL : Nat} {ret : Option FieldType} (h : Cond.code y cc nL ret ∈ zG) : GoodIn zG (zW y cc nL ret) := fun w hw => by
  rcases List.mem_cons.mp hw with rfl | hw
  · exact ⟨h, good_of_word (List.mem_filter.mp h).2⟩
  · exact ⟨hw, good_of_word (List.mem_filter.mp hw).2⟩
theorem zg_V {own : String} {idx : Nat} {Cn : String} {y : MethodName} {cc : ByteArray} {nL : Nat} {ret : Option FieldType} (h : Cond.code y cc nL ret ∈ zG) (h1 : Cond.methodLink own idx y ∈ zG) (h2 : Cond.instanceMethod y ∈ zG) (h3 : Cond.selects Cn y y ∈ zG) (h4 : Cond.initialized Cn ∈ zG) : GoodIn zG (wsV own idx Cn y (zW y cc nL ret)) := fun w hw => by
  rcases List.mem_append.mp hw with hw | hw
  · have : w ∈ zG := by
      simp only [List.mem_cons, List.not_mem_nil, or_false] at hw
      rcases hw with rfl | rfl | rfl | rfl <;> assumption
    exact ⟨this, good_of_word (List.mem_filter.mp this).2⟩
  · exact zg_in h w hw
theorem zc_call {p : Program} {l : Launch} {e : Env} {R : Room} {s : State} {m : MethodId} {args : Array Value} {below : List Frame} {meth : Method} {c : Code} {H : Heap} {locs : List Loc} {k n : Nat} {Q : State → Prop} {pc : Nat} {ls : Array Slot} {rest st0 : List Value} {A0 A1 : Nat → Prop} {H0 : Heap} {free : Addr → Prop} {r : Option Value} {B : State → Prop}
    (hr : va_Run p l e R s m args below meth c H locs k n 0 0 (F0 m pc ls st0) rest (fun st oc t => (oc = .returned r ∧ B t) ∧ va_F A1 st t) free) (hS : va_S A0 H0 H locs) (hA : ∀ q, q < H.size → A1 q → A0 q) (hf : ∀ q, free q → A0 q)
    (kk : ∀ (t : State) (H1 : Heap) (locs1 : List Loc), t.heap = H1 → B t → H.size ≤ H1.size → (∀ q : Nat, q < H.size → ¬ A1 q → H1[q]? = H[q]?) → va_S A0 H0 H1 locs1 → W p l e R s m args below meth c H1 locs1 k n Q (F0 m (pc + 3) ls (r.toList ++ rest))) : W p l e R s m args below meth c H locs k n Q (F0 m pc ls st0) := by
  intro T hT X
  obtain ⟨v, st₀, t, T', L, h0, X', hL, e1, e2, ⟨⟨hv, hb⟩, hz, hk⟩, st⟩ := hr T hT X
  cases hv
  rw [h0] at hz hk
  obtain ⟨t2, a1, b1⟩ := kk t T'.heap (locs ++ L) e1.symm hb (by rw [e1]; exact hz) (fun q h1 h2 => by rw [e1]; exact hk q h1 h2)
    ⟨Nat.le_trans hS.1 (by rw [e1]; exact hz), fun q h1 h2 => by rw [e1, hk q (Nat.lt_of_lt_of_le h1 hS.1) (fun z => h2 (hA q (Nat.lt_of_lt_of_le h1 hS.1) z))]; exact hS.2.1 q h1 h2, fun q hq => by
      rcases List.mem_append.mp hq with h | h
      · exact hS.2.2 q h
      · exact hf _ (hL q h)⟩ T' rfl X'
  exact ⟨t2, st t2 a1, b1⟩
/-- what a callee is given -/
theorem zc_pre {cy : Nat → ClassId} {D : va_G} {ws wc : va_W} {av : List Value} {s : State} {A : Nat → Prop} {H : Heap} {locs : List Loc} (hK : va_K D vwCl (zT cy) s) (hP : va_P D vwCl ws H) (hD : va_D A ws) (hS : va_S A s.heap H locs) (hX : zX A s s.heap) (hF : ∀ q, va_A wc H.size q → A q) (isC : List Nat) (hC : isC.map (fun i => ws[i]?) = wc.map some) (hnd : va_nd isC = true) : PreS s H (va_Pc av (fun U => U.heap.size = H.size ∧ va_P D vwCl wc U.heap ∧ va_K D vwCl (zT cy) U ∧ va_D (fun _ => True) wc ∧ zX (va_A wc H.size) U U.heap)) av := by
  have hPc : va_P D vwCl wc H := by
    intro k q hq
    have h1 : (isC.map (fun i => ws[i]?))[k]? = some (some q) := by rw [hC, List.getElem?_map, hq]; rfl
    rw [List.getElem?_map] at h1
    cases hi : isC[k]? with
    | none => rw [hi] at h1; cases h1
    | some i => rw [hi] at h1; exact hP i q (Option.some.inj h1)
  have hDc := (hD.sub isC hnd hC).weaken (B := fun _ => True) (fun _ _ _ _ => trivial)
  refine ⟨fun a U g mk q => ?_, fun U hU hW => ⟨rfl, by rw [hU], by rw [hU]; exact hPc, va_K.moved hW.alike hK, hDc, by rw [hU]; exact hX.warm hW (fun a h1 h2 => hS.2.1 a h1 h2) hF⟩⟩
  obtain ⟨q0, q1, qP, qK, qD, qX⟩ := q
  exact ⟨q0, q1, qP, va_K.moved (u := U) (U := U.calling g mk a) (Vm.Alike.refl U.vm) qK, qD, qX.call⟩
theorem zj_callV {l : Launch} {D : va_G} {cc : ByteArray} {own : String} {E : zE} {nL : Nat} {R : Room} {cy : Nat → ClassId} {ws : va_W} {pc : Nat} {L : List (Nat × Value)} {st : List Value} (C : zO E cc nL own R cy l D) {y : MethodName} {bytes : ByteArray} {maxL index n0 : Nat} {ret : Option FieldType} {rm : Room} {wc wc' ws' : va_W} {As : List Value} {r : Option Value} {st0 st1 : List Value} {nn : Nat} {b N : Nat} {Cn : String} {T : u_T} {fs : List Value} (q0 ci : Nat) (isC : List Nat)
    (hM : zC l y (zW y bytes maxL ret) rm D cy (.ref b :: As) wc r wc') (hG : GoodIn zG (wsV own index Cn y (zW y bytes maxL ret))) (hd : y.cls = Cn ∧ y.cls ≠ "java/lang/invoke/MethodHandle" ∧ y.cls ≠ "java/lang/invoke/VarHandle" ∧ (parseMethodDescriptor y.desc).map (fun d => d.parameters.length) = some n0) (hrm : rm.cells = 0 ∧ rm.slots = 0) (hR : rm.frames + 1 ≤ R.frames ∧ 8 + (maxL + 11) + rm.locals ≤ R.locals)
    (hw : ws[q0]? = some (b, .inr (ci, fs))) (hc : vwCl[ci]? = some (Cn, T, N)) (hC : isC.map (fun i => ws[i]?) = wc.map some) (hnd : va_nd isC = true) (hlen : wc.length = nn ∧ wc'.length = nn) (hn : As.length = n0) (hst : st0 = As.reverse ++ .ref b :: st) (hroom : (st.map fun v => v.category).sum ≤ 8)
    (d : decode cc pc = .ok (.invokevirtual index, 3)) (hws : zS ws isC wc' = ws') (hs1 : r.toList ++ st = st1) (kk : zJ E nL 0 0 ws' (pc + 3) L st1) : zJ E nL 0 0 ws pc L st0 := by
  intro H locs ls hP hD hS hl
  obtain rfl := C.lE
  obtain rfl := C.dD
  obtain rfl := C.rR
  subst hst
  subst hs1
  have hF := va_free (wc := wc) hD hS C.A isC hC
  refine zc_call (va_runV ⟨C.xx, C.bb, C.ml, C.wn, C.ts⟩ (hM H.size)
    (cwV n0 C.ts hG rfl hrm.1 hrm.2 hd hR) ⟨(zc_pre C.K hP hD hS C.X hF isC hC hnd).1, va_recv C.K hP hc hw, (zc_pre C.K hP hD hS C.X hF isC hC hnd).2⟩ rfl hn hl.1 rfl (lv_room hroom) d ⟨Nat.zero_le _, Nat.zero_le _⟩) hS (fun q _ h => hF q h) hF (fun t H1 locs1 ht hB hz1 hk1 hS => ?_)
  obtain ⟨hP1, hD1⟩ := hB
  rw [ht] at hP1
  obtain ⟨hP2, hD2⟩ := zS_join hP hD isC hC (hlen.1.trans hlen.2.symm) hk1 hF hP1 hD1
  exact kk H1 locs1 ls (hws ▸ hP2) (hws ▸ hD2) hS hl
theorem zj_callS {l : Launch} {D : va_G} {cc : ByteArray} {own : String} {E : zE} {nL : Nat} {R : Room} {cy : Nat → ClassId} {ws : va_W} {pc : Nat} {L : List (Nat × Value)} {st : List Value} (C : zO E cc nL own R cy l D) {y : MethodName} {bytes : ByteArray} {maxL index n0 : Nat} {ret : Option FieldType} {rm : Room} {wc wc' ws' : va_W} {As : List Value} {r : Option Value} {st0 st1 : List Value} {nn : Nat}  (isC : List Nat)
    (hM : zC l y (zW y bytes maxL ret) rm D cy As wc r wc') (hcd : Cond.code y bytes maxL ret ∈ zG) (hml : Cond.methodLink own index y ∈ zG) (hsta : Cond.static y ∈ zG) (hini : Cond.initialized y.cls ∈ zG) (hd : y.cls ≠ "java/lang/invoke/MethodHandle" ∧ y.cls ≠ "java/lang/invoke/VarHandle" ∧ (parseMethodDescriptor y.desc).map (fun d => d.parameters.length) = some n0) (hrm : rm.cells = 0 ∧ rm.slots = 0) (hR : rm.frames + 1 ≤ R.frames ∧ 8 + (maxL + 11) + rm.locals ≤ R.locals)
     (hC : isC.map (fun i => ws[i]?) = wc.map some) (hnd : va_nd isC = true) (hlen : wc.length = nn ∧ wc'.length = nn) (hn : As.length = n0) (hst : st0 = As.reverse ++ st) (hroom : (st.map fun v => v.category).sum ≤ 8)
    (d : decode cc pc = .ok (.invokestatic index, 3)) (hws : zS ws isC wc' = ws') (hs1 : r.toList ++ st = st1) (kk : zJ E nL 0 0 ws' (pc + 3) L st1) : zJ E nL 0 0 ws pc L st0 := by
  intro H locs ls hP hD hS hl
  obtain rfl := C.lE
  obtain rfl := C.dD
  obtain rfl := C.rR
  subst hst
  subst hs1
  have hF := va_free (wc := wc) hD hS C.A isC hC
  refine zc_call (va_runS ⟨C.xx, C.bb, C.ml, C.wn, C.ts⟩ (hM H.size)
    ⟨callB_of n0 C.ts (zg_in hcd) rfl hrm.1 hrm.2 (C.ts _ hini) (C.ts _ hml) hd hR, C.ts _ hsta⟩ (zc_pre C.K hP hD hS C.X hF isC hC hnd) rfl hn hl.1 rfl (lv_room hroom) d ⟨Nat.zero_le _, Nat.zero_le _⟩) hS (fun q _ h => hF q h) hF (fun t H1 locs1 ht hB hz1 hk1 hS => ?_)
  obtain ⟨hP1, hD1⟩ := hB
  rw [ht] at hP1
  obtain ⟨hP2, hD2⟩ := zS_join hP hD isC hC (hlen.1.trans hlen.2.symm) hk1 hF hP1 hD1
  exact kk H1 locs1 ls (hws ▸ hP2) (hws ▸ hD2) hS hl
theorem zj_callSN {l : Launch} {D : va_G} {cc : ByteArray} {own : String} {E : zE} {nL : Nat} {R : Room} {cy : Nat → ClassId} {ws : va_W} {pc : Nat} {L : List (Nat × Value)} {st : List Value} (C : zO E cc nL own R cy l D) {y : MethodName} {bytes : ByteArray} {maxL index n0 : Nat} {ret : Option FieldType} {rm : Room} {wc wc' ws' : va_W} {As : List Value} {r : Option Value} {st0 st1 : List Value} {nn : Nat} {host : String} (isC : List Nat)
    (hM : zC l y (zW y bytes maxL ret) rm D cy As wc r wc') (hcd : Cond.code y bytes maxL ret ∈ zG) (hml : ∀ (A : Nat → Prop) (U : State) (H : Heap), zX A U H → va_Nw (.methodLinkNest own index y host) U) (hsta : Cond.static y ∈ zG) (hini : Cond.initialized y.cls ∈ zG) (hd : y.cls ≠ "java/lang/invoke/MethodHandle" ∧ y.cls ≠ "java/lang/invoke/VarHandle" ∧ (parseMethodDescriptor y.desc).map (fun d => d.parameters.length) = some n0) (hrm : rm.cells = 0 ∧ rm.slots = 0) (hR : rm.frames + 1 ≤ R.frames ∧ 8 + (maxL + 11) + rm.locals ≤ R.locals)
     (hC : isC.map (fun i => ws[i]?) = wc.map some) (hnd : va_nd isC = true) (hlen : wc.length = nn ∧ wc'.length = nn) (hn : As.length = n0) (hst : st0 = As.reverse ++ st) (hroom : (st.map fun v => v.category).sum ≤ 8)
    (d : decode cc pc = .ok (.invokestatic index, 3)) (hws : zS ws isC wc' = ws') (hs1 : r.toList ++ st = st1) (kk : zJ E nL 0 0 ws' (pc + 3) L st1) : zJ E nL 0 0 ws pc L st0 := by
  intro H locs ls hP hD hS hl
  obtain rfl := C.lE
  obtain rfl := C.dD
  obtain rfl := C.rR
  subst hst
  subst hs1
  have hF := va_free (wc := wc) hD hS C.A isC hC
  refine zc_call (va_runSN ⟨C.xx, C.bb, C.ml, C.wn, C.ts⟩ (hM H.size)
    ⟨va_cnB n0 C.ts (zg_in hcd) rfl hrm.1 hrm.2 (hml _ _ _ C.X) (C.ts _ hini) hd hR, C.ts _ hsta, trivial⟩ (zc_pre C.K hP hD hS C.X hF isC hC hnd) rfl hn hl.1 rfl (lv_room hroom) d ⟨Nat.zero_le _, Nat.zero_le _⟩) hS (fun q _ h => hF q h) hF (fun t H1 locs1 ht hB hz1 hk1 hS => ?_)
  obtain ⟨hP1, hD1⟩ := hB
  rw [ht] at hP1
  obtain ⟨hP2, hD2⟩ := zS_join hP hD isC hC (hlen.1.trans hlen.2.symm) hk1 hF hP1 hD1
  exact kk H1 locs1 ls (hws ▸ hP2) (hws ▸ hD2) hS hl

theorem zm_st : Cond.static Lib.MathLoose.min_long.x ∈ zG := zG_of tw_412 rfl
theorem zx_st : Cond.static Lib.MathLoose.max_long.x ∈ zG := zG_of tw_415 rfl
theorem zm_in : Cond.initialized "java/lang/Math" ∈ zG := zG_of tw_10 rfl
theorem zm_cd : Cond.code Lib.MathLoose.min_long.x Lib.MathLoose.min_long.code 4 (some .long) ∈ zG := zG_of tw_413 rfl
theorem zx_cd : Cond.code Lib.MathLoose.max_long.x Lib.MathLoose.max_long.code 4 (some .long) ∈ zG := zG_of tw_416 rfl
/-! small rows -/
def zB (b : Bool) : Int32 := if b then 1 else 0
theorem zB_01 (b : Bool) : zB b = 0 ∨ zB b = 1 := by cases b; exact Or.inl rfl; exact Or.inr rfl
theorem zB_n (b : Bool) : narrow .boolean (.int (zB b)) = .int (zB b) := by cases b <;> rfl
theorem zB_f (b : Bool) : fits .boolean (.int (zB b)) = true := by cases b <;> rfl
theorem zB_eq {b : Bool} (h : zB b = 0) : b = false := by cases b; rfl; exact absurd h (by decide)
theorem zB_neq {b : Bool} (h : ¬ zB b = 0) : ¬ b = false := by cases b; exact absurd rfl h; decide
theorem zB_ne {b : Bool} (h : ¬ zB b = 0) : b = true := by cases b; exact absurd rfl h; rfl
theorem zB_nne {b : Bool} (h : ¬ ¬ zB b = 0) : ¬ b = true := by cases b; decide; exact absurd (by decide) h
theorem zn_eq0 {n : Nat} (h : n < 2 ^ 31) : nI n = 0 ↔ n = 0 := by rw [show (0 : Int32) = nI 0 from rfl, nI_eq h (by decide)]
theorem zn_ne0 {n : Nat} (h : n < 2 ^ 31) : (¬ nI n = 0) ↔ ¬ n = 0 := not_congr (zn_eq0 h)
theorem zn_gt0 {n : Nat} (h : n < 2 ^ 31) : 0 < nI n ↔ 0 < n := by rw [show (0 : Int32) = nI 0 from rfl, nI_ltI (by decide) h]
theorem zn_le0 {n : Nat} (h : n < 2 ^ 31) : nI n ≤ 0 ↔ n = 0 := by rw [show (0 : Int32) = nI 0 from rfl, nI_leI h (by decide)]; omega
theorem zI_pred {n m : Nat} (h : n = m + 1) : nI n + -1 = nI m := by subst h; exact pk_m1 m
section ZM
variable {E : zE} {cc : ByteArray} {nL : Nat} {own : String} {R : Room} {cy : Nat → ClassId} {l : Launch} {D : va_G} {ws : va_W} {pc : Nat} {L : List (Nat × Value)} {st : List Value}
theorem zj_mmin (C : zO E cc nL own R cy l D) {index : Nat} {x y : Int64} (hl : Cond.methodLink own index Lib.MathLoose.min_long.x ∈ zG) (hR : 1 ≤ R.frames ∧ (st.map fun v => v.category).sum + 15 ≤ R.locals) (d : decode cc pc = .ok (.invokestatic index, 3)) (kk : zJ E nL 0 0 ws (pc + 3) L (.long (if y < x then y else x) :: st)) : zJ E nL 0 0 ws pc L (.long y :: .long x :: st) := fun H locs ls hP hD hS hl0 => by
  have hRr := C.rR
  exact va_mmin_long C.xx C.bb (C.ml.trans hl0.1.symm) C.wn (C.ts _ hl) (C.ts _ zm_st) (C.ts _ zm_in) (C.ts _ zm_cd) (by rw [hRr]; exact hR.1) (by rw [hRr]; exact hR.2) (Nat.zero_le _) (Nat.zero_le _) d (kk H locs ls hP hD hS hl0)
theorem zj_mmax (C : zO E cc nL own R cy l D) {index : Nat} {x y : Int64} (hl : Cond.methodLink own index Lib.MathLoose.max_long.x ∈ zG) (hR : 1 ≤ R.frames ∧ (st.map fun v => v.category).sum + 15 ≤ R.locals) (d : decode cc pc = .ok (.invokestatic index, 3)) (kk : zJ E nL 0 0 ws (pc + 3) L (.long (if y < x then x else y) :: st)) : zJ E nL 0 0 ws pc L (.long y :: .long x :: st) := fun H locs ls hP hD hS hl0 => by
  have hRr := C.rR
  exact va_mmax_long C.xx C.bb (C.ml.trans hl0.1.symm) C.wn (C.ts _ hl) (C.ts _ zx_st) (C.ts _ zm_in) (C.ts _ zx_cd) (by rw [hRr]; exact hR.1) (by rw [hRr]; exact hR.2) (Nat.zero_le _) (Nat.zero_le _) d (kk H locs ls hP hD hS hl0)
end ZM
