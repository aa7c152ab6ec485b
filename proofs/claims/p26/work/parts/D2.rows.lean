/-! rows over integers: machine numbers as the images of integers. Written by wip/p26/rows.py -/
abbrev jI (x : Int) : Int32 := Int32.ofInt x
abbrev jL (x : Int) : Int64 := Int64.ofInt x
abbrev r32 (x : Int) : Prop := -2147483648 ≤ x ∧ x < 2147483648
abbrev r64 (x : Int) : Prop := -9223372036854775808 ≤ x ∧ x < 9223372036854775808
theorem jI_t {x : Int} (h : r32 x) : (jI x).toInt = x := Int32.toInt_ofInt_of_le (by have := h.1; omega) (by have := h.2; omega)
theorem jL_t {x : Int} (h : r64 x) : (jL x).toInt = x := Int64.toInt_ofInt_of_le (by have := h.1; omega) (by have := h.2; omega)
theorem jI_of (v : Int32) : v = jI v.toInt := (Int32.ofInt_toInt v).symm
theorem jL_of (v : Int64) : v = jL v.toInt := (Int64.ofInt_toInt v).symm
theorem jI_is {v : Int32} {x : Int} (h : v.toInt = x) : v = jI x := by rw [← h]; exact jI_of v
theorem jL_is {v : Int64} {x : Int} (h : v.toInt = x) : v = jL x := by rw [← h]; exact jL_of v
theorem r32_t (v : Int32) : r32 v.toInt := ⟨i32_ge, i32_lt⟩
theorem r64_t (v : Int64) : r64 v.toInt := ⟨i64_ge, i64_lt⟩
theorem r32_64 {x : Int} (h : r32 x) : r64 x := by obtain ⟨h1, h2⟩ := h; exact ⟨by omega, by omega⟩
theorem jI_l {x : Int} (h : r32 x) : (jI x).toInt64 = jL x := jL_is (by rw [i32_l, jI_t h])
theorem jL_i (x : Int) : (jL x).toInt32 = jI x := Int64.toInt32_ofInt
theorem jL_il {v : Int64} {x : Int} (h : v.toInt = x) : v.toInt32 = jI x := by rw [jL_is h, jL_i]
theorem jI_eq {x y : Int} (hx : r32 x) (hy : r32 y) : jI x = jI y ↔ x = y := ⟨fun h => by rw [← jI_t hx, h, jI_t hy], fun h => by rw [h]⟩
theorem jL_eq {x y : Int} (hx : r64 x) (hy : r64 y) : jL x = jL y ↔ x = y := ⟨fun h => by rw [← jL_t hx, h, jL_t hy], fun h => by rw [h]⟩
theorem jI_lt {x y : Int} (hx : r32 x) (hy : r32 y) : jI x < jI y ↔ x < y := by rw [i32_lt_iff, jI_t hx, jI_t hy]
theorem jL_lt {x y : Int} (hx : r64 x) (hy : r64 y) : jL x < jL y ↔ x < y := by rw [i64_lt_iff, jL_t hx, jL_t hy]
theorem jI_le {x y : Int} (hx : r32 x) (hy : r32 y) : jI x ≤ jI y ↔ x ≤ y := by rw [i32_le_iff, jI_t hx, jI_t hy]
theorem jL_le {x y : Int} (hx : r64 x) (hy : r64 y) : jL x ≤ jL y ↔ x ≤ y := by rw [i64_le_iff, jL_t hx, jL_t hy]
theorem jI_0 : (0 : Int32) = jI 0 := by decide
theorem jL_0 : (0 : Int64) = jL 0 := by decide
theorem jI_n (n : Nat) : nI n = jI (n : Int) := Int32.ofInt_eq_ofNat.symm
theorem jI_div {x y : Int} (hx : 0 ≤ x ∧ x < 2147483648) (hy : 0 < y ∧ y < 2147483648) : jI x / jI y = jI (x / y) := by
  have ey : (jI y).toInt = y := jI_t ⟨by omega, by omega⟩
  have h := Int32.toInt_div_of_ne_right (jI x) (jI y) (fun e => by rw [e] at ey; have : (-1 : Int32).toInt = -1 := rfl; omega)
  refine jI_is ?_
  rw [h, jI_t ⟨by omega, by omega⟩, ey]
  exact Int.tdiv_eq_ediv_of_nonneg hx.1
theorem jL_div {x y : Int} (hx : 0 ≤ x ∧ x < 9223372036854775808) (hy : 0 < y ∧ y < 9223372036854775808) : jL x / jL y = jL (x / y) := jL_is (i64_div (jL_t ⟨by omega, by omega⟩) (jL_t ⟨by omega, by omega⟩) hx.1 hy.1)
theorem jI_mod {x y : Int} (hx : 0 ≤ x ∧ x < 2147483648) (hy : 0 < y ∧ y < 2147483648) : jI x - jI x / jI y * jI y = jI (x % y) := by
  rw [jI_div hx hy, ← Int32.ofInt_mul, ← Int32.ofInt_sub]
  congr 1
  have := Int.mul_ediv_add_emod x y
  have e : x / y * y = y * (x / y) := Int.mul_comm _ _
  omega
/-- a row of integers told anew at one place -/
def iup (f : Nat → Int) (j : Nat) (v : Int) : Nat → Int := fun i => if i = j then v else f i
theorem iup_at (f : Nat → Int) (j : Nat) (v : Int) (i : Nat) : iup f j v i = if i = j then v else f i := rfl
theorem iup_s (f : Nat → Int) (j : Nat) (v : Int) : iup f j v j = v := if_pos rfl
theorem iup_n (f : Nat → Int) {j i : Nat} (v : Int) (h : i ≠ j) : iup f j v i = f i := if_neg h
theorem iup_L (f : Nat → Int) (j : Nat) (v : Int) : vp_updL (fun i => jL (f i)) j (jL v) = fun i => jL (iup f j v i) := by
  funext i
  rw [vp_updL_at]
  unfold iup
  by_cases h : i = j
  · rw [if_pos h, if_pos h]
  · rw [if_neg h, if_neg h]
theorem iup_I (f : Nat → Int) (j : Nat) (v : Int) : upd (fun i => jI (f i)) j (jI v) = fun i => jI (iup f j v i) := by
  funext i
  rw [upd_at]
  unfold iup
  by_cases h : i = j
  · rw [if_pos h, if_pos h]
  · rw [if_neg h, if_neg h]
/-- the law's own rows of numbers -/
abbrev LA (cy : Nat → ClassId) (q N : Nat) (f : Nat → Int) : va_W := [(q, .inl (cy 2, N, .inr (.inl (fun i => jL (f i)))))]
abbrev IA (cy : Nat → ClassId) (q N : Nat) (f : Nat → Int) : va_W := [(q, .inl (cy 1, N, .inl (fun i => jI (f i))))]
section IJ
variable {E : zE} {cc : ByteArray} {nL : Nat} {own : String} {R : Room} {cy : Nat → ClassId} {l : Launch} {D : va_G} {k n : Nat} {ws : va_W} {pc : Nat} {L : List (Nat × Value)} {st : List Value}
theorem ij_i (x : Int) {v : Int32} (h : v = jI x) (kk : zJ E nL k n ws pc L (.int (jI x) :: st)) : zJ E nL k n ws pc L (.int v :: st) := h ▸ kk
theorem ij_l (x : Int) {v : Int64} (h : v = jL x) (kk : zJ E nL k n ws pc L (.long (jL x) :: st)) : zJ E nL k n ws pc L (.long v :: st) := h ▸ kk
theorem ij_ei {x : Int} (y : Int) (h : x = y) (kk : zJ E nL k n ws pc L (.int (jI y) :: st)) : zJ E nL k n ws pc L (.int (jI x) :: st) := h ▸ kk
theorem ij_el {x : Int} (y : Int) (h : x = y) (kk : zJ E nL k n ws pc L (.long (jL y) :: st)) : zJ E nL k n ws pc L (.long (jL x) :: st) := h ▸ kk
theorem ij_gi {x : Int} (kk : ∀ y : Int, y = x → zJ E nL k n ws pc L (.int (jI y) :: st)) : zJ E nL k n ws pc L (.int (jI x) :: st) := kk x rfl
theorem ij_gl {x : Int} (kk : ∀ y : Int, y = x → zJ E nL k n ws pc L (.long (jL y) :: st)) : zJ E nL k n ws pc L (.long (jL x) :: st) := kk x rfl
theorem zj_idiv (C : zO E cc nL own R cy l D) {x y : Int32} (d : decode cc pc = .ok (.idiv, 1)) (hne : ¬ y = 0) (kk : zJ E nL k n ws (pc + 1) L (.int (x / y) :: st)) : zJ E nL k n ws pc L (.int y :: .int x :: st) := fun H locs ls hP hD hS hl => lv_idiv C.xx C.bb d hne (kk H locs ls hP hD hS hl)
theorem zj_ishr (C : zO E cc nL own R cy l D) {x y : Int32} (d : decode cc pc = .ok (.ishr, 1)) (kk : ∀ v : Int32, zJ E nL k n ws (pc + 1) L (.int v :: st)) : zJ E nL k n ws pc L (.int y :: .int x :: st) := fun H locs ls hP hD hS hl => lv_ishr C.xx C.bb d (kk _ H locs ls hP hD hS hl)
theorem ij_iconst (C : zO E cc nL own R cy l D) {x : Int} (d : decode cc pc = .ok (.iconst x, 1)) (kk : zJ E nL k n ws (pc + 1) L (.int (jI x) :: st)) : zJ E nL k n ws pc L st := zj_iconst C d rfl kk
theorem ij_bipush (C : zO E cc nL own R cy l D) {x : Int} (d : decode cc pc = .ok (.bipush x, 2)) (hv : (Int8.ofInt x).toInt32 = jI x) (kk : zJ E nL k n ws (pc + 2) L (.int (jI x) :: st)) : zJ E nL k n ws pc L st := zj_bipush C d hv kk
theorem ij_sipush (C : zO E cc nL own R cy l D) {x : Int} (d : decode cc pc = .ok (.sipush x, 3)) (hv : (Int16.ofInt x).toInt32 = jI x) (kk : zJ E nL k n ws (pc + 3) L (.int (jI x) :: st)) : zJ E nL k n ws pc L st := zj_sipush C d hv kk
theorem ij_iadd (C : zO E cc nL own R cy l D) {x y : Int} (d : decode cc pc = .ok (.iadd, 1)) (kk : zJ E nL k n ws (pc + 1) L (.int (jI (x + y)) :: st)) : zJ E nL k n ws pc L (.int (jI y) :: .int (jI x) :: st) := zj_iadd C d (by rw [← Int32.ofInt_add]; exact kk)
theorem ij_isub (C : zO E cc nL own R cy l D) {x y : Int} (d : decode cc pc = .ok (.isub, 1)) (kk : zJ E nL k n ws (pc + 1) L (.int (jI (x - y)) :: st)) : zJ E nL k n ws pc L (.int (jI y) :: .int (jI x) :: st) := zj_isub C d (by rw [← Int32.ofInt_sub]; exact kk)
theorem ij_imul (C : zO E cc nL own R cy l D) {x y : Int} (d : decode cc pc = .ok (.imul, 1)) (kk : zJ E nL k n ws (pc + 1) L (.int (jI (x * y)) :: st)) : zJ E nL k n ws pc L (.int (jI y) :: .int (jI x) :: st) := zj_imul C d (by rw [← Int32.ofInt_mul]; exact kk)
theorem ij_ladd (C : zO E cc nL own R cy l D) {x y : Int} (d : decode cc pc = .ok (.ladd, 1)) (kk : zJ E nL k n ws (pc + 1) L (.long (jL (x + y)) :: st)) : zJ E nL k n ws pc L (.long (jL y) :: .long (jL x) :: st) := zj_ladd C d (by rw [← Int64.ofInt_add]; exact kk)
theorem ij_lsub (C : zO E cc nL own R cy l D) {x y : Int} (d : decode cc pc = .ok (.lsub, 1)) (kk : zJ E nL k n ws (pc + 1) L (.long (jL (x - y)) :: st)) : zJ E nL k n ws pc L (.long (jL y) :: .long (jL x) :: st) := zj_lsub C d (by rw [← Int64.ofInt_sub]; exact kk)
theorem ij_lmul (C : zO E cc nL own R cy l D) {x y : Int} (d : decode cc pc = .ok (.lmul, 1)) (kk : zJ E nL k n ws (pc + 1) L (.long (jL (x * y)) :: st)) : zJ E nL k n ws pc L (.long (jL y) :: .long (jL x) :: st) := zj_lmul C d (by rw [← Int64.ofInt_mul]; exact kk)
theorem ij_ineg (C : zO E cc nL own R cy l D) {x : Int} (d : decode cc pc = .ok (.ineg, 1)) (kk : zJ E nL k n ws (pc + 1) L (.int (jI (-x)) :: st)) : zJ E nL k n ws pc L (.int (jI x) :: st) := zj_ineg C d (by rw [← Int32.ofInt_neg]; exact kk)
theorem ij_lneg (C : zO E cc nL own R cy l D) {x : Int} (d : decode cc pc = .ok (.lneg, 1)) (kk : zJ E nL k n ws (pc + 1) L (.long (jL (-x)) :: st)) : zJ E nL k n ws pc L (.long (jL x) :: st) := zj_lneg C d (by rw [← Int64.ofInt_neg]; exact kk)
theorem ij_i2l (C : zO E cc nL own R cy l D) {x : Int} (h : r32 x) (d : decode cc pc = .ok (.i2l, 1)) (kk : zJ E nL k n ws (pc + 1) L (.long (jL x) :: st)) : zJ E nL k n ws pc L (.int (jI x) :: st) := zj_i2l C d (by rw [jI_l h]; exact kk)
theorem ij_idiv (C : zO E cc nL own R cy l D) {x y : Int} (hx : 0 ≤ x ∧ x < 2147483648) (hy : 0 < y ∧ y < 2147483648) (d : decode cc pc = .ok (.idiv, 1)) (kk : zJ E nL k n ws (pc + 1) L (.int (jI (x / y)) :: st)) : zJ E nL k n ws pc L (.int (jI y) :: .int (jI x) :: st) := zj_idiv C d (fun e => by rw [jI_0, jI_eq ⟨by omega, by omega⟩ ⟨by omega, by omega⟩] at e; omega) (by rw [jI_div hx hy]; exact kk)
theorem ij_irem (C : zO E cc nL own R cy l D) {x y : Int} (hx : 0 ≤ x ∧ x < 2147483648) (hy : 0 < y ∧ y < 2147483648) (d : decode cc pc = .ok (.irem, 1)) (kk : zJ E nL k n ws (pc + 1) L (.int (jI (x % y)) :: st)) : zJ E nL k n ws pc L (.int (jI y) :: .int (jI x) :: st) := zj_irem C d (fun e => by rw [jI_0, jI_eq ⟨by omega, by omega⟩ ⟨by omega, by omega⟩] at e; omega) (by rw [jI_mod hx hy]; exact kk)
theorem ij_ldiv (C : zO E cc nL own R cy l D) {x y : Int} (hx : 0 ≤ x ∧ x < 9223372036854775808) (hy : 0 < y ∧ y < 9223372036854775808) (d : decode cc pc = .ok (.ldiv, 1)) (kk : zJ E nL k n ws (pc + 1) L (.long (jL (x / y)) :: st)) : zJ E nL k n ws pc L (.long (jL y) :: .long (jL x) :: st) := zj_ldiv C d (fun e => by rw [jL_0, jL_eq ⟨by omega, by omega⟩ ⟨by omega, by omega⟩] at e; omega) (by rw [jL_div hx hy]; exact kk)
theorem ij_iinc (C : zO E cc nL own R cy l D) {i j : Nat} {m x : Int} {L2 : List (Nat × Value)} (y : Int) (hy : x + m = y) (d : decode cc pc = .ok (.iinc i m, 3)) (hj : L[j]? = some (i, .int (jI x))) (hn : i < nL) (hL : (i, Value.int (jI y)) :: L.filter (fun q => !(q.1 == i) && !(q.1 + 1 == i && q.2.category == 2)) = L2) (kk : zJ E nL k n ws (pc + 3) L2 st) : zJ E nL k n ws pc L st := zj_iinc C d hj (by subst hy; exact (Int32.ofInt_add x m).symm) hn hL kk
theorem ij_icmp_eq (C : zO E cc nL own R cy l D) {x y : Int} {off : Int} (tgt : Nat) (d : decode cc pc = .ok (.if_icmp .eq off, 3)) (ht : (pc : Int) + off = (tgt : Int)) (hx : r32 x) (hy : r32 y) (kt : x = y → zJ E nL k n ws tgt L st) (kf : ¬ (x = y) → zJ E nL k n ws (pc + 3) L st) : zJ E nL k n ws pc L (.int (jI y) :: .int (jI x) :: st) := zj_icmp_eq C tgt d ht (fun h => kt ((jI_eq hx hy).mp h)) (fun h => kf (fun e => h ((jI_eq hx hy).mpr e)))
theorem ij_if_eq (C : zO E cc nL own R cy l D) {x : Int} {off : Int} (tgt : Nat) (d : decode cc pc = .ok (.ifCond .eq off, 3)) (ht : (pc : Int) + off = (tgt : Int)) (hx : r32 x) (kt : x = 0 → zJ E nL k n ws tgt L st) (kf : ¬ (x = 0) → zJ E nL k n ws (pc + 3) L st) : zJ E nL k n ws pc L (.int (jI x) :: st) := zj_if_eq C tgt d ht (fun h => kt ((jI_eq hx ⟨by decide, by decide⟩).mp (by rw [← jI_0]; exact h))) (fun h => kf (fun e => h (by rw [jI_0]; exact (jI_eq hx ⟨by decide, by decide⟩).mpr e)))
theorem ij_lcmp_eq (C : zO E cc nL own R cy l D) {x y : Int} {off : Int} (tgt : Nat) (d0 : decode cc pc = .ok (.lcmp, 1)) (d : decode cc (pc + 1) = .ok (.ifCond .eq off, 3)) (ht : ((pc + 1 : Nat) : Int) + off = (tgt : Int)) (hx : r64 x) (hy : r64 y) (kt : x = y → zJ E nL k n ws tgt L st) (kf : ¬ (x = y) → zJ E nL k n ws (pc + 1 + 3) L st) : zJ E nL k n ws pc L (.long (jL y) :: .long (jL x) :: st) := zj_lcmp_eq C tgt d0 d ht (fun h => kt ((jL_eq hx hy).mp h)) (fun h => kf (fun e => h ((jL_eq hx hy).mpr e)))
theorem ij_icmp_ne (C : zO E cc nL own R cy l D) {x y : Int} {off : Int} (tgt : Nat) (d : decode cc pc = .ok (.if_icmp .ne off, 3)) (ht : (pc : Int) + off = (tgt : Int)) (hx : r32 x) (hy : r32 y) (kt : ¬ x = y → zJ E nL k n ws tgt L st) (kf : ¬ (¬ x = y) → zJ E nL k n ws (pc + 3) L st) : zJ E nL k n ws pc L (.int (jI y) :: .int (jI x) :: st) := zj_icmp_ne C tgt d ht (fun h => kt (fun e => h ((jI_eq hx hy).mpr e))) (fun h => kf (fun e => h (fun g => e ((jI_eq hx hy).mp g))))
theorem ij_if_ne (C : zO E cc nL own R cy l D) {x : Int} {off : Int} (tgt : Nat) (d : decode cc pc = .ok (.ifCond .ne off, 3)) (ht : (pc : Int) + off = (tgt : Int)) (hx : r32 x) (kt : ¬ x = 0 → zJ E nL k n ws tgt L st) (kf : ¬ (¬ x = 0) → zJ E nL k n ws (pc + 3) L st) : zJ E nL k n ws pc L (.int (jI x) :: st) := zj_if_ne C tgt d ht (fun h => kt (fun e => h (by rw [jI_0]; exact (jI_eq hx ⟨by decide, by decide⟩).mpr e))) (fun h => kf (fun e => h (fun g => e ((jI_eq hx ⟨by decide, by decide⟩).mp (by rw [← jI_0]; exact g)))))
theorem ij_lcmp_ne (C : zO E cc nL own R cy l D) {x y : Int} {off : Int} (tgt : Nat) (d0 : decode cc pc = .ok (.lcmp, 1)) (d : decode cc (pc + 1) = .ok (.ifCond .ne off, 3)) (ht : ((pc + 1 : Nat) : Int) + off = (tgt : Int)) (hx : r64 x) (hy : r64 y) (kt : ¬ x = y → zJ E nL k n ws tgt L st) (kf : ¬ (¬ x = y) → zJ E nL k n ws (pc + 1 + 3) L st) : zJ E nL k n ws pc L (.long (jL y) :: .long (jL x) :: st) := zj_lcmp_ne C tgt d0 d ht (fun h => kt (fun e => h ((jL_eq hx hy).mpr e))) (fun h => kf (fun e => h (fun g => e ((jL_eq hx hy).mp g))))
theorem ij_icmp_lt (C : zO E cc nL own R cy l D) {x y : Int} {off : Int} (tgt : Nat) (d : decode cc pc = .ok (.if_icmp .lt off, 3)) (ht : (pc : Int) + off = (tgt : Int)) (hx : r32 x) (hy : r32 y) (kt : x < y → zJ E nL k n ws tgt L st) (kf : ¬ (x < y) → zJ E nL k n ws (pc + 3) L st) : zJ E nL k n ws pc L (.int (jI y) :: .int (jI x) :: st) := zj_icmp_lt C tgt d ht (fun h => kt ((jI_lt hx hy).mp h)) (fun h => kf (fun e => h ((jI_lt hx hy).mpr e)))
theorem ij_if_lt (C : zO E cc nL own R cy l D) {x : Int} {off : Int} (tgt : Nat) (d : decode cc pc = .ok (.ifCond .lt off, 3)) (ht : (pc : Int) + off = (tgt : Int)) (hx : r32 x) (kt : x < 0 → zJ E nL k n ws tgt L st) (kf : ¬ (x < 0) → zJ E nL k n ws (pc + 3) L st) : zJ E nL k n ws pc L (.int (jI x) :: st) := zj_if_lt C tgt d ht (fun h => kt ((jI_lt hx ⟨by decide, by decide⟩).mp (by rw [← jI_0]; exact h))) (fun h => kf (fun e => h (by rw [jI_0]; exact (jI_lt hx ⟨by decide, by decide⟩).mpr e)))
theorem ij_lcmp_lt (C : zO E cc nL own R cy l D) {x y : Int} {off : Int} (tgt : Nat) (d0 : decode cc pc = .ok (.lcmp, 1)) (d : decode cc (pc + 1) = .ok (.ifCond .lt off, 3)) (ht : ((pc + 1 : Nat) : Int) + off = (tgt : Int)) (hx : r64 x) (hy : r64 y) (kt : x < y → zJ E nL k n ws tgt L st) (kf : ¬ (x < y) → zJ E nL k n ws (pc + 1 + 3) L st) : zJ E nL k n ws pc L (.long (jL y) :: .long (jL x) :: st) := zj_lcmp_lt C tgt d0 d ht (fun h => kt ((jL_lt hx hy).mp h)) (fun h => kf (fun e => h ((jL_lt hx hy).mpr e)))
theorem ij_icmp_ge (C : zO E cc nL own R cy l D) {x y : Int} {off : Int} (tgt : Nat) (d : decode cc pc = .ok (.if_icmp .ge off, 3)) (ht : (pc : Int) + off = (tgt : Int)) (hx : r32 x) (hy : r32 y) (kt : y ≤ x → zJ E nL k n ws tgt L st) (kf : ¬ (y ≤ x) → zJ E nL k n ws (pc + 3) L st) : zJ E nL k n ws pc L (.int (jI y) :: .int (jI x) :: st) := zj_icmp_ge C tgt d ht (fun h => kt ((jI_le hy hx).mp h)) (fun h => kf (fun e => h ((jI_le hy hx).mpr e)))
theorem ij_if_ge (C : zO E cc nL own R cy l D) {x : Int} {off : Int} (tgt : Nat) (d : decode cc pc = .ok (.ifCond .ge off, 3)) (ht : (pc : Int) + off = (tgt : Int)) (hx : r32 x) (kt : 0 ≤ x → zJ E nL k n ws tgt L st) (kf : ¬ (0 ≤ x) → zJ E nL k n ws (pc + 3) L st) : zJ E nL k n ws pc L (.int (jI x) :: st) := zj_if_ge C tgt d ht (fun h => kt ((jI_le ⟨by decide, by decide⟩ hx).mp (by rw [← jI_0]; exact h))) (fun h => kf (fun e => h (by rw [jI_0]; exact (jI_le ⟨by decide, by decide⟩ hx).mpr e)))
theorem ij_lcmp_ge (C : zO E cc nL own R cy l D) {x y : Int} {off : Int} (tgt : Nat) (d0 : decode cc pc = .ok (.lcmp, 1)) (d : decode cc (pc + 1) = .ok (.ifCond .ge off, 3)) (ht : ((pc + 1 : Nat) : Int) + off = (tgt : Int)) (hx : r64 x) (hy : r64 y) (kt : y ≤ x → zJ E nL k n ws tgt L st) (kf : ¬ (y ≤ x) → zJ E nL k n ws (pc + 1 + 3) L st) : zJ E nL k n ws pc L (.long (jL y) :: .long (jL x) :: st) := zj_lcmp_ge C tgt d0 d ht (fun h => kt ((jL_le hy hx).mp h)) (fun h => kf (fun e => h ((jL_le hy hx).mpr e)))
theorem ij_icmp_gt (C : zO E cc nL own R cy l D) {x y : Int} {off : Int} (tgt : Nat) (d : decode cc pc = .ok (.if_icmp .gt off, 3)) (ht : (pc : Int) + off = (tgt : Int)) (hx : r32 x) (hy : r32 y) (kt : y < x → zJ E nL k n ws tgt L st) (kf : ¬ (y < x) → zJ E nL k n ws (pc + 3) L st) : zJ E nL k n ws pc L (.int (jI y) :: .int (jI x) :: st) := zj_icmp_gt C tgt d ht (fun h => kt ((jI_lt hy hx).mp h)) (fun h => kf (fun e => h ((jI_lt hy hx).mpr e)))
theorem ij_if_gt (C : zO E cc nL own R cy l D) {x : Int} {off : Int} (tgt : Nat) (d : decode cc pc = .ok (.ifCond .gt off, 3)) (ht : (pc : Int) + off = (tgt : Int)) (hx : r32 x) (kt : 0 < x → zJ E nL k n ws tgt L st) (kf : ¬ (0 < x) → zJ E nL k n ws (pc + 3) L st) : zJ E nL k n ws pc L (.int (jI x) :: st) := zj_if_gt C tgt d ht (fun h => kt ((jI_lt ⟨by decide, by decide⟩ hx).mp (by rw [← jI_0]; exact h))) (fun h => kf (fun e => h (by rw [jI_0]; exact (jI_lt ⟨by decide, by decide⟩ hx).mpr e)))
theorem ij_lcmp_gt (C : zO E cc nL own R cy l D) {x y : Int} {off : Int} (tgt : Nat) (d0 : decode cc pc = .ok (.lcmp, 1)) (d : decode cc (pc + 1) = .ok (.ifCond .gt off, 3)) (ht : ((pc + 1 : Nat) : Int) + off = (tgt : Int)) (hx : r64 x) (hy : r64 y) (kt : y < x → zJ E nL k n ws tgt L st) (kf : ¬ (y < x) → zJ E nL k n ws (pc + 1 + 3) L st) : zJ E nL k n ws pc L (.long (jL y) :: .long (jL x) :: st) := zj_lcmp_gt C tgt d0 d ht (fun h => kt ((jL_lt hy hx).mp h)) (fun h => kf (fun e => h ((jL_lt hy hx).mpr e)))
theorem ij_icmp_le (C : zO E cc nL own R cy l D) {x y : Int} {off : Int} (tgt : Nat) (d : decode cc pc = .ok (.if_icmp .le off, 3)) (ht : (pc : Int) + off = (tgt : Int)) (hx : r32 x) (hy : r32 y) (kt : x ≤ y → zJ E nL k n ws tgt L st) (kf : ¬ (x ≤ y) → zJ E nL k n ws (pc + 3) L st) : zJ E nL k n ws pc L (.int (jI y) :: .int (jI x) :: st) := zj_icmp_le C tgt d ht (fun h => kt ((jI_le hx hy).mp h)) (fun h => kf (fun e => h ((jI_le hx hy).mpr e)))
theorem ij_if_le (C : zO E cc nL own R cy l D) {x : Int} {off : Int} (tgt : Nat) (d : decode cc pc = .ok (.ifCond .le off, 3)) (ht : (pc : Int) + off = (tgt : Int)) (hx : r32 x) (kt : x ≤ 0 → zJ E nL k n ws tgt L st) (kf : ¬ (x ≤ 0) → zJ E nL k n ws (pc + 3) L st) : zJ E nL k n ws pc L (.int (jI x) :: st) := zj_if_le C tgt d ht (fun h => kt ((jI_le hx ⟨by decide, by decide⟩).mp (by rw [← jI_0]; exact h))) (fun h => kf (fun e => h (by rw [jI_0]; exact (jI_le hx ⟨by decide, by decide⟩).mpr e)))
theorem ij_lcmp_le (C : zO E cc nL own R cy l D) {x y : Int} {off : Int} (tgt : Nat) (d0 : decode cc pc = .ok (.lcmp, 1)) (d : decode cc (pc + 1) = .ok (.ifCond .le off, 3)) (ht : ((pc + 1 : Nat) : Int) + off = (tgt : Int)) (hx : r64 x) (hy : r64 y) (kt : x ≤ y → zJ E nL k n ws tgt L st) (kf : ¬ (x ≤ y) → zJ E nL k n ws (pc + 1 + 3) L st) : zJ E nL k n ws pc L (.long (jL y) :: .long (jL x) :: st) := zj_lcmp_le C tgt d0 d ht (fun h => kt ((jL_le hx hy).mp h)) (fun h => kf (fun e => h ((jL_le hx hy).mpr e)))
theorem ij_laload (C : zO E cc nL own R cy l D) (q0 : Nat) {q N : Nat} {f : Nat → Int} {e : Int} (j : Nat) (he : e = (j : Int)) (hj : j < N) (hN : N ≤ 1000) (hw : ws[q0]? = some (q, .inl (cy 2, N, .inr (.inl (fun i => jL (f i)))))) (d : decode cc pc = .ok (.laload, 1)) (kk : zJ E nL k n ws (pc + 1) L (.long (jL (f j)) :: st)) : zJ E nL k n ws pc L (.int (jI e) :: .ref q :: st) := by
  subst he
  rw [← jI_n]
  exact zj_lald C q0 j (nI_clamp (by omega)) (vp_in_nI hj (by omega)) hw d kk
theorem ij_iaload (C : zO E cc nL own R cy l D) (q0 : Nat) {q N : Nat} {f : Nat → Int} {e : Int} (j : Nat) (he : e = (j : Int)) (hj : j < N) (hN : N ≤ 1000) (hw : ws[q0]? = some (q, .inl (cy 1, N, .inl (fun i => jI (f i))))) (d : decode cc pc = .ok (.iaload, 1)) (kk : zJ E nL k n ws (pc + 1) L (.int (jI (f j)) :: st)) : zJ E nL k n ws pc L (.int (jI e) :: .ref q :: st) := by
  subst he
  rw [← jI_n]
  exact zj_iald C q0 j (nI_clamp (by omega)) (vp_in_nI hj (by omega)) hw d kk
theorem ij_lastore (C : zO E cc nL own R cy l D) (q0 : Nat) {q N : Nat} {f : Nat → Int} {e v : Int} {ws' : va_W} (j : Nat) (he : e = (j : Int)) (hj : j < N) (hN : N ≤ 1000) (hw : ws[q0]? = some (q, .inl (cy 2, N, .inr (.inl (fun i => jL (f i)))))) (d : decode cc pc = .ok (.lastore, 1)) (hws : ws.set q0 (q, .inl (cy 2, N, .inr (.inl (fun i => jL (iup f j v i))))) = ws') (kk : zJ E nL k n ws' (pc + 1) L st) : zJ E nL k n ws pc L (.long (jL v) :: .int (jI e) :: .ref q :: st) := by
  subst he
  rw [← jI_n]
  exact zj_last C q0 j (nI_clamp (by omega)) (vp_in_nI hj (by omega)) hw d (by rw [iup_L]; exact hws) kk
theorem ij_iastore (C : zO E cc nL own R cy l D) (q0 : Nat) {q N : Nat} {f : Nat → Int} {e v : Int} {ws' : va_W} (j : Nat) (he : e = (j : Int)) (hj : j < N) (hN : N ≤ 1000) (hw : ws[q0]? = some (q, .inl (cy 1, N, .inl (fun i => jI (f i))))) (d : decode cc pc = .ok (.iastore, 1)) (hws : ws.set q0 (q, .inl (cy 1, N, .inl (fun i => jI (iup f j v i)))) = ws') (kk : zJ E nL k n ws' (pc + 1) L st) : zJ E nL k n ws pc L (.int (jI v) :: .int (jI e) :: .ref q :: st) := by
  subst he
  rw [← jI_n]
  exact zj_iast C q0 j (nI_clamp (by omega)) (vp_in_nI hj (by omega)) hw d (by rw [iup_I]; exact hws) kk
theorem ij_newl (C : zO E cc nL own R cy l D) {Bs : List va_W} {e : Int} (N : Nat) (he : e = (N : Int)) (hN : N ≤ 1000) (hk : k + 1 ≤ R.cells ∧ n + N ≤ R.slots) (d : decode cc pc = .ok (.newarray .long, 2)) (kk : ∀ q : Nat, zJ E nL (k + 1) (n + N) (LA cy q N (fun _ => 0) :: Bs).flatten (pc + 2) L (.ref q :: st)) : zJ E nL k n Bs.flatten pc L (.int (jI e) :: st) := by
  subst he
  rw [← jI_n]
  have h0 : ¬ nI N < 0 := nI_pos (by omega)
  refine zj_newa C (atype := .long) (N' := N) (a0 := (N, .inr (.inl (fun _ => jL 0)))) 2 rfl rfl tg_222 (fun _ => rfl) h0 (nI_clamp (by omega)) (by show N * 8 ≤ _; omega) hk d (fun q => ?_)
  exact zj_perm (List.perm_append_comm (l₁ := Bs.flatten) (l₂ := LA cy q N (fun _ => 0))) (kk q)
theorem ij_newi (C : zO E cc nL own R cy l D) {Bs : List va_W} {e : Int} (N : Nat) (he : e = (N : Int)) (hN : N ≤ 1000) (hk : k + 1 ≤ R.cells ∧ n + N ≤ R.slots) (d : decode cc pc = .ok (.newarray .int, 2)) (kk : ∀ q : Nat, zJ E nL (k + 1) (n + N) (IA cy q N (fun _ => 0) :: Bs).flatten (pc + 2) L (.ref q :: st)) : zJ E nL k n Bs.flatten pc L (.int (jI e) :: st) := by
  subst he
  rw [← jI_n]
  have h0 : ¬ nI N < 0 := nI_pos (by omega)
  refine zj_newa C (atype := .int) (N' := N) (a0 := (N, .inl (fun _ => jI 0))) 1 rfl rfl tg_68 (fun _ => rfl) h0 (nI_clamp (by omega)) (by show N * 4 ≤ _; omega) hk d (fun q => ?_)
  exact zj_perm (List.perm_append_comm (l₁ := Bs.flatten) (l₂ := IA cy q N (fun _ => 0))) (kk q)
end IJ
