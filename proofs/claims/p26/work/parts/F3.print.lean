/-! calls of the law's own methods; print. Written by wip/p26/law3.py -/
abbrev rm_2 : Room := { frames := 9, cells := 0, slots := 0, locals := 230 }
section CM
variable {E : zE} {cc : ByteArray} {nL : Nat} {R : Room} {cy : Nat → ClassId} {l : Launch} {D : va_G} {k n : Nat} {pc : Nat} {L : List (Nat × Value)} {st : List Value} {x0 x1 x2 d0 d1 p0 p1 h0 h1 : Nat} {a b : Nat → Nat} {hs sl : Nat → Nat → Nat} {T U : zTr} {x : zDd} {z : zPd} {y : zHs} {s : zSl} {Dd c : Int}
theorem zj_callMX (C : zO E cc nL "SwingUnitsLaw" R cy l D) {y : MethodName} {bytes : ByteArray} {maxL index n0 mc ms : Nat} {ret : Option FieldType} {rm : Room} (X Bs : List va_W) {As : List Value} {Post : Option Value → va_W → Prop} {st0 : List Value}
    (hM : zM l y (zW y bytes maxL ret) rm D cy As Bs.flatten Post mc ms) (hcd : Cond.code y bytes maxL ret ∈ zG) (hml : Cond.methodLink "SwingUnitsLaw" index y ∈ zG) (hsta : Cond.static y ∈ zG) (hini : Cond.initialized y.cls ∈ zG) (hd : y.cls ≠ "java/lang/invoke/MethodHandle" ∧ y.cls ≠ "java/lang/invoke/VarHandle" ∧ (parseMethodDescriptor y.desc).map (fun d => d.parameters.length) = some n0) (hrm : rm.cells = mc ∧ rm.slots = ms) (hR : rm.frames + 1 ≤ R.frames ∧ 8 + (maxL + 11) + rm.locals ≤ R.locals) (hkn : k + mc ≤ R.cells ∧ n + ms ≤ R.slots)
    (hn : As.length = n0) (hst : st0 = As.reverse ++ st) (hroom : (st.map fun v => v.category).sum ≤ 8)
    (d : decode cc pc = .ok (.invokestatic index, 3)) (kk : ∀ (r : Option Value) (w : va_W), Post r w → zJ E nL (k + mc) (n + ms) (X.flatten ++ w) (pc + 3) L (r.toList ++ st)) : zJ E nL k n (X ++ Bs).flatten pc L st0 := by
  rw [List.flatten_append]
  exact zj_callM C hM hcd hml hsta hini hd hrm hR hkn rfl hn hst hroom d kk
set_option maxHeartbeats 4000000 in
set_option maxRecDepth 100000 in
theorem ls_up (C : zO E cc nL "SwingUnitsLaw" R cy l D) (hkn : k ≤ R.cells ∧ n ≤ R.slots) (hR : 8 ≤ R.frames ∧ 192 ≤ R.locals) {ws : va_W} {v : Int32} {e : Int} (he : 0 < e ∧ e < 2147483648) (hroom : (st.map fun v => v.category).sum ≤ 8) (d : decode cc pc = .ok (.invokestatic 22, 3)) (kk : ∀ u : Int, 0 ≤ u → u < e → zJ E nL k n ws (pc + 3) L (.int (jI u) :: st)) : zJ E nL k n ws pc L (.int (jI e) :: .int v :: st) := by
  refine zj_eq (List.append_nil ws).symm rfl rfl rfl ?_
  refine zj_callM C (wr := ws) (wc := []) (mc := 0) (ms := 0) (st := st) (c_L_up l D cy v e he) tgv_343 tgv_341 tgv_342 tg_0 hdZ_L_up ⟨rfl, rfl⟩ ⟨Nat.le_trans (Nat.le_of_ble_eq_true rfl) hR.1, Nat.le_trans (Nat.le_of_ble_eq_true rfl) hR.2⟩ hkn rfl rfl rfl hroom d (fun r w h => ?_)
  obtain ⟨u, h1, h2, rfl, rfl⟩ := h
  exact zj_eq (List.append_nil ws) rfl rfl rfl (kk u h1 h2)
set_option maxHeartbeats 4000000 in
set_option maxRecDepth 100000 in
theorem ls_cost (C : zO E cc nL "SwingUnitsLaw" R cy l D) (hkn : k ≤ R.cells ∧ n ≤ R.slots) (hR : 9 ≤ R.frames ∧ 230 ≤ R.locals) (hG : GI Dd c T) (hO : LO T z y s) (X : List va_W)  (hroom : (st.map fun v => v.category).sum ≤ 8) (d : decode cc pc = .ok (.invokestatic 90, 3)) (kk : zJ E nL k n (X ++ LB cy x0 x1 x2 d0 d1 p0 p1 h0 h1 a b hs sl T U x z y s).flatten (pc + 3) L (.long (jL (feI T)) :: st)) : zJ E nL k n (X ++ LB cy x0 x1 x2 d0 d1 p0 p1 h0 h1 a b hs sl T U x z y s).flatten pc L (.ref x0 :: st) := by
  refine zj_callMX C X _ (mc := 0) (ms := 0) (st := st) (c_L_cost l D cy x0 x1 x2 d0 d1 p0 p1 h0 h1 a b hs sl T U x z y s hG hO) tgv_469 tgv_467 tgv_468 tg_0 hdZ_L_cost ⟨rfl, rfl⟩ ⟨Nat.le_trans (Nat.le_of_ble_eq_true rfl) hR.1, Nat.le_trans (Nat.le_of_ble_eq_true rfl) hR.2⟩ hkn rfl rfl hroom d (fun r w h => ?_)
  obtain ⟨rfl, rfl⟩ := h
  rw [← List.flatten_append]
  exact kk
set_option maxHeartbeats 4000000 in
set_option maxRecDepth 100000 in
theorem ls_free (C : zO E cc nL "SwingUnitsLaw" R cy l D) (hkn : k ≤ R.cells ∧ n ≤ R.slots) (hR : 9 ≤ R.frames ∧ 230 ≤ R.locals) (hG : GI Dd c T) (hO : LO T z y s) (X : List va_W) (i : Nat) (hi : i < 6) (hroom : (st.map fun v => v.category).sum ≤ 8) (d : decode cc pc = .ok (.invokestatic 77, 3)) (kk : zJ E nL k n (X ++ LB cy x0 x1 x2 d0 d1 p0 p1 h0 h1 a b hs sl T U x z y s).flatten (pc + 3) L (.int (jI (uU T i - hS (gTr_le T) i)) :: st)) : zJ E nL k n (X ++ LB cy x0 x1 x2 d0 d1 p0 p1 h0 h1 a b hs sl T U x z y s).flatten pc L (.int (jI (i : Int)) :: .ref x0 :: st) := by
  refine zj_callMX C X _ (mc := 0) (ms := 0) (st := st) (c_L_free l D cy x0 x1 x2 d0 d1 p0 p1 h0 h1 a b hs sl T U x z y s hG hO i hi) tgv_410 tgv_408 tgv_409 tg_0 hdZ_L_free ⟨rfl, rfl⟩ ⟨Nat.le_trans (Nat.le_of_ble_eq_true rfl) hR.1, Nat.le_trans (Nat.le_of_ble_eq_true rfl) hR.2⟩ hkn rfl rfl hroom d (fun r w h => ?_)
  obtain ⟨rfl, rfl⟩ := h
  rw [← List.flatten_append]
  exact kk
set_option maxHeartbeats 4000000 in
set_option maxRecDepth 100000 in
theorem ls_has0 (C : zO E cc nL "SwingUnitsLaw" R cy l D) (hkn : k ≤ R.cells ∧ n ≤ R.slots) (hR : 9 ≤ R.frames ∧ 230 ≤ R.locals) (hG : GI Dd c T) (hO : LO T z y s) (X : List va_W) (p : Nat) (hi mu dy : Int) (hp : p < gOd_n (gTr_bu T) ∧ oH (gTr_bu T) p = hi ∧ oS (gTr_bu T) p = mu ∧ oD (gTr_bu T) p = dy ∧ ∀ i, p < i → i < gOd_n (gTr_bu T) → dy < oD (gTr_bu T) i) (hdy : r32 dy) (hroom : (st.map fun v => v.category).sum ≤ 8) (d : decode cc pc = .ok (.invokestatic 73, 3)) (kk : zJ E nL k n (X ++ LB cy x0 x1 x2 d0 d1 p0 p1 h0 h1 a b hs sl T U x z y s).flatten (pc + 3) L (.int (jI 1) :: st)) : zJ E nL k n (X ++ LB cy x0 x1 x2 d0 d1 p0 p1 h0 h1 a b hs sl T U x z y s).flatten pc L (.int (jI dy) :: .int (jI mu) :: .int (jI hi) :: .int (jI 0) :: .ref x0 :: st) := by
  refine zj_callMX C X _ (mc := 0) (ms := 0) (st := st) (c_L_has0 l D cy x0 x1 x2 d0 d1 p0 p1 h0 h1 a b hs sl T U x z y s hG hO p hi mu dy hp hdy) tgv_403 tgv_401 tgv_402 tg_0 hdZ_L_has ⟨rfl, rfl⟩ ⟨Nat.le_trans (Nat.le_of_ble_eq_true rfl) hR.1, Nat.le_trans (Nat.le_of_ble_eq_true rfl) hR.2⟩ hkn rfl rfl hroom d (fun r w h => ?_)
  obtain ⟨rfl, rfl⟩ := h
  rw [← List.flatten_append]
  exact kk
set_option maxHeartbeats 4000000 in
set_option maxRecDepth 100000 in
theorem ls_has1 (C : zO E cc nL "SwingUnitsLaw" R cy l D) (hkn : k ≤ R.cells ∧ n ≤ R.slots) (hR : 9 ≤ R.frames ∧ 230 ≤ R.locals) (hG : GI Dd c T) (hO : LO T z y s) (X : List va_W) (p : Nat) (hi mu dy : Int) (hp : p < gOd_n (gTr_le T) ∧ oH (gTr_le T) p = hi ∧ oS (gTr_le T) p = mu ∧ oD (gTr_le T) p = dy ∧ ∀ i, p < i → i < gOd_n (gTr_le T) → dy < oD (gTr_le T) i) (hdy : r32 dy) (hroom : (st.map fun v => v.category).sum ≤ 8) (d : decode cc pc = .ok (.invokestatic 73, 3)) (kk : zJ E nL k n (X ++ LB cy x0 x1 x2 d0 d1 p0 p1 h0 h1 a b hs sl T U x z y s).flatten (pc + 3) L (.int (jI 1) :: st)) : zJ E nL k n (X ++ LB cy x0 x1 x2 d0 d1 p0 p1 h0 h1 a b hs sl T U x z y s).flatten pc L (.int (jI dy) :: .int (jI mu) :: .int (jI hi) :: .int (jI 1) :: .ref x0 :: st) := by
  refine zj_callMX C X _ (mc := 0) (ms := 0) (st := st) (c_L_has1 l D cy x0 x1 x2 d0 d1 p0 p1 h0 h1 a b hs sl T U x z y s hG hO p hi mu dy hp hdy) tgv_403 tgv_401 tgv_402 tg_0 hdZ_L_has ⟨rfl, rfl⟩ ⟨Nat.le_trans (Nat.le_of_ble_eq_true rfl) hR.1, Nat.le_trans (Nat.le_of_ble_eq_true rfl) hR.2⟩ hkn rfl rfl hroom d (fun r w h => ?_)
  obtain ⟨rfl, rfl⟩ := h
  rw [← List.flatten_append]
  exact kk
end CM
/-- a row of steps -/
def zfold (g : Nat → Int64 → Int64) : Nat → Int64 → Int64
  | 0, h => h
  | n + 1, h => g n (zfold g n h)
theorem zfold_congr {f g : Nat → Int64 → Int64} : ∀ (n : Nat) (h : Int64), (∀ i, i < n → ∀ h, f i h = g i h) → zfold f n h = zfold g n h
  | 0, _, _ => rfl
  | n + 1, h, e => by
    show f n (zfold f n h) = g n (zfold g n h)
    rw [zfold_congr n h (fun i hi => e i (by omega)), e n (by omega)]
noncomputable def prA (T : zTr) (k : Nat) : Nat → Int64 → Int64 := fun w h => 31 * h + (f_X7_ofHolder T (jI (k : Int)) (jI (w : Int))).toInt64
noncomputable def prB (T : zTr) : Nat → Int64 → Int64 := fun k h => zfold (prA T k) 9 h
noncomputable def prC (T : zTr) (k n : Nat) : Nat → Int64 → Int64 := fun w h => 31 * h + (f_X7_order T (jI (k : Int)) (jI (n : Int)) (jI (w : Int))).toInt64
noncomputable def prD (T : zTr) (k : Nat) : Nat → Int64 → Int64 := fun n h => zfold (prC T k n) 3 h
noncomputable def cntV (T : zTr) (k : Nat) : Int32 := f_X7_count T (0, fun _ => 0, 0, 0, 0, 0, 0) (0, 0, fun _ => T) (jI (k : Int))
noncomputable def prE (T : zTr) : Nat → Int64 → Int64 := fun k h => 31 * h + (cntV T k).toInt64
noncomputable def prF (T : zTr) : Nat → Int64 → Int64 := fun k h => 31 * h + (f_X7_lastDay T (jI (k : Int))).toInt64
noncomputable def priV (T : zTr) (k : Nat) : Int64 := (f_X7_price T (0, 0, 0, 0, 0, 0, fun _ => 0) (jI (k : Int))).1
noncomputable def prG (T : zTr) : Nat → Int64 → Int64 := fun k h => 31 * h + priV T k
noncomputable def pr2 (T : zTr) : Int64 := zfold (prB T) 6 7
noncomputable def pr3 (T : zTr) : Int64 := zfold (prD T 1) (gOd_n (gTr_le T)) (zfold (prD T 0) (gOd_n (gTr_bu T)) (pr2 T))
noncomputable def pr4 (T : zTr) : Int64 := zfold (prE T) 17 (pr3 T)
noncomputable def pr5 (T : zTr) : Int64 := zfold (prF T) 6 (pr4 T)
/-- what print answers -/
noncomputable def prt (T : zTr) : Int64 := zfold (prG T) 4 (pr5 T)
theorem cntV_e (T : zTr) (z : zPd) (y : zHs) {k : Nat} (hk : k < 17) : f_X7_count T z y (jI (k : Int)) = cntV T k := by
  rcases (show k = 0 ∨ k = 1 ∨ k = 2 ∨ k = 3 ∨ k = 4 ∨ k = 5 ∨ k = 6 ∨ k = 7 ∨ k = 8 ∨ k = 9 ∨ k = 10 ∨ k = 11 ∨ k = 12 ∨ k = 13 ∨ k = 14 ∨ k = 15 ∨ k = 16 by omega) with rfl | rfl | rfl | rfl | rfl | rfl | rfl | rfl | rfl | rfl | rfl | rfl | rfl | rfl | rfl | rfl | rfl <;> rfl
theorem priV_e (T : zTr) (x : zDd) {k : Nat} (hk : k < 4) : (f_X7_price T x (jI (k : Int))).1 = priV T k := by
  rcases (show k = 0 ∨ k = 1 ∨ k = 2 ∨ k = 3 by omega) with rfl | rfl | rfl | rfl <;> rfl
section PRINT
variable {E : zE} {cy : Nat → ClassId} {l : Launch} {D : va_G} {x0 x1 x2 d0 d1 p0 p1 h0 h1 : Nat} {a b : Nat → Nat} {hs sl : Nat → Nat → Nat} {T U : zTr} {x : zDd} {z : zPd} {y : zHs} {s : zSl} {Dd c : Int}
set_option maxHeartbeats 4000000 in
set_option maxRecDepth 100000 in
theorem pr_w (C : zO E cL_print 6 "SwingUnitsLaw" rm_q cy l D) (hO : LO T z y s) (k : Nat) (h : Int64) (kk : ∀ v : Int64, v = zfold (prA T k) 9 h → zJ E 6 0 0 (([] : List va_W) ++ LB cy x0 x1 x2 d0 d1 p0 p1 h0 h1 a b hs sl T U x z y s).flatten 43 [(4, .int (jI ((9 : Nat) : Int))), (3, .int (jI (k : Int))), (1, .long v), (0, .ref x0)] []) : ∀ m w : Nat, w + m = 9 → zJ E 6 0 0 (([] : List va_W) ++ LB cy x0 x1 x2 d0 d1 p0 p1 h0 h1 a b hs sl T U x z y s).flatten 15 [(4, .int (jI (w : Int))), (3, .int (jI (k : Int))), (1, .long (zfold (prA T k) w h)), (0, .ref x0)] [] := by
  intro m
  induction m with
  | zero =>
    intro w hk
    have e : w = 9 := by omega
    subst e
    refine zj_iload C dL_print_15 0 rfl ?_
    refine ij_bipush C dL_print_17 (by decide) ?_
    refine ij_icmp_ge C 43 dL_print_19 (by decide) ⟨by omega, by omega⟩ ⟨by decide, by decide⟩ (fun _ => ?_) (fun h => False.elim (by omega))
    exact kk _ rfl
  | succ m ih =>
    intro w hk
    refine zj_iload C dL_print_15 0 rfl ?_
    refine ij_bipush C dL_print_17 (by decide) ?_
    refine ij_icmp_ge C 43 dL_print_19 (by decide) ⟨by omega, by omega⟩ ⟨by decide, by decide⟩ (fun h => False.elim (by omega)) (fun _ => ?_)
    refine zj_ldc2 C dL_print_22 tgv_664 ?_
    refine zj_lload_n C dL_print_25 2 rfl ?_
    refine zj_lmul C dL_print_26 ?_
    refine zj_aload_n C dL_print_27 3 rfl ?_
    refine zj_iload_n C dL_print_28 1 rfl ?_
    refine zj_iload C dL_print_29 0 rfl ?_
    refine lc_ofHolder C ⟨Nat.le_of_ble_eq_true rfl, Nat.le_of_ble_eq_true rfl⟩ ⟨Nat.le_of_ble_eq_true rfl, Nat.le_of_ble_eq_true rfl⟩ hO ([] : List va_W) (jI (k : Int)) (jI (w : Int)) (Nat.le_of_ble_eq_true rfl) dL_print_31 rfl ?_
    refine zj_i2l C dL_print_34 ?_
    refine zj_ladd C dL_print_35 ?_
    refine zj_lstore_n C (L' := [(1, .long ((31 * (zfold (prA T k) w h)) + ((f_X7_ofHolder T (jI (k : Int)) (jI (w : Int))).toInt64))), (4, .int (jI (w : Int))), (3, .int (jI (k : Int))), (0, .ref x0)]) dL_print_36 rfl (by decide) rfl ?_
    refine ij_iinc C (j := 1) (L2 := [(4, .int (jI ((w + 1 : Nat) : Int))), (1, .long ((31 * (zfold (prA T k) w h)) + ((f_X7_ofHolder T (jI (k : Int)) (jI (w : Int))).toInt64))), (3, .int (jI (k : Int))), (0, .ref x0)]) ((w + 1 : Nat) : Int) (by omega) dL_print_37 rfl (by decide) rfl ?_
    refine zj_goto C 15 dL_print_40 (by decide) ?_
    refine zj_sub (L' := [(4, .int (jI ((w + 1 : Nat) : Int))), (3, .int (jI (k : Int))), (1, .long ((31 * (zfold (prA T k) w h)) + ((f_X7_ofHolder T (jI (k : Int)) (jI (w : Int))).toInt64))), (0, .ref x0)]) [0, 2, 1, 3] rfl ?_
    exact ih (w + 1) (by omega)
theorem pr_wS (C : zO E cL_print 6 "SwingUnitsLaw" rm_q cy l D) (hO : LO T z y s) (k : Nat) (h : Int64) (kk : ∀ v : Int64, v = zfold (prA T k) 9 h → zJ E 6 0 0 (([] : List va_W) ++ LB cy x0 x1 x2 d0 d1 p0 p1 h0 h1 a b hs sl T U x z y s).flatten 43 [(4, .int (jI ((9 : Nat) : Int))), (3, .int (jI (k : Int))), (1, .long v), (0, .ref x0)] []) : zJ E 6 0 0 (([] : List va_W) ++ LB cy x0 x1 x2 d0 d1 p0 p1 h0 h1 a b hs sl T U x z y s).flatten 15 [(4, .int (jI 0)), (3, .int (jI (k : Int))), (1, .long h), (0, .ref x0)] [] := pr_w C hO k h kk 9 0 (by omega)
set_option maxHeartbeats 4000000 in
set_option maxRecDepth 100000 in
theorem pr_k (C : zO E cL_print 6 "SwingUnitsLaw" rm_q cy l D) (hO : LO T z y s) (h : Int64) (kk : ∀ v : Int64, v = zfold (prB T) 6 h → zJ E 6 0 0 (([] : List va_W) ++ LB cy x0 x1 x2 d0 d1 p0 p1 h0 h1 a b hs sl T U x z y s).flatten 49 [(3, .int (jI ((6 : Nat) : Int))), (1, .long v), (0, .ref x0)] []) : ∀ m k : Nat, k + m = 6 → zJ E 6 0 0 (([] : List va_W) ++ LB cy x0 x1 x2 d0 d1 p0 p1 h0 h1 a b hs sl T U x z y s).flatten 6 [(3, .int (jI (k : Int))), (1, .long (zfold (prB T) k h)), (0, .ref x0)] [] := by
  intro m
  induction m with
  | zero =>
    intro k hk
    have e : k = 6 := by omega
    subst e
    refine zj_iload_n C dL_print_6 0 rfl ?_
    refine ij_bipush C dL_print_7 (by decide) ?_
    refine ij_icmp_ge C 49 dL_print_9 (by decide) ⟨by omega, by omega⟩ ⟨by decide, by decide⟩ (fun _ => ?_) (fun h => False.elim (by omega))
    exact kk _ rfl
  | succ m ih =>
    intro k hk
    refine zj_iload_n C dL_print_6 0 rfl ?_
    refine ij_bipush C dL_print_7 (by decide) ?_
    refine ij_icmp_ge C 49 dL_print_9 (by decide) ⟨by omega, by omega⟩ ⟨by decide, by decide⟩ (fun h => False.elim (by omega)) (fun _ => ?_)
    refine ij_iconst C dL_print_12 ?_
    refine zj_istore C (L' := [(4, .int (jI 0)), (3, .int (jI (k : Int))), (1, .long (zfold (prB T) k h)), (0, .ref x0)]) dL_print_13 (by decide) rfl ?_
    refine zj_sub (L' := [(4, .int (jI 0)), (3, .int (jI (k : Int))), (1, .long (zfold (prB T) k h)), (0, .ref x0)]) [0, 1, 2, 3] rfl ?_
    refine pr_wS C hO k _ (fun v hv => ?_)
    refine ij_iinc C (j := 1) (L2 := [(3, .int (jI ((k + 1 : Nat) : Int))), (4, .int (jI ((9 : Nat) : Int))), (1, .long v), (0, .ref x0)]) ((k + 1 : Nat) : Int) (by omega) dL_print_43 rfl (by decide) rfl ?_
    refine zj_goto C 6 dL_print_46 (by decide) ?_
    refine zj_sub (L' := [(3, .int (jI ((k + 1 : Nat) : Int))), (1, .long v), (0, .ref x0)]) [0, 2, 3] rfl ?_
    rw [hv]
    exact ih (k + 1) (by omega)
theorem pr_kS (C : zO E cL_print 6 "SwingUnitsLaw" rm_q cy l D) (hO : LO T z y s) (h : Int64) (kk : ∀ v : Int64, v = zfold (prB T) 6 h → zJ E 6 0 0 (([] : List va_W) ++ LB cy x0 x1 x2 d0 d1 p0 p1 h0 h1 a b hs sl T U x z y s).flatten 49 [(3, .int (jI ((6 : Nat) : Int))), (1, .long v), (0, .ref x0)] []) : zJ E 6 0 0 (([] : List va_W) ++ LB cy x0 x1 x2 d0 d1 p0 p1 h0 h1 a b hs sl T U x z y s).flatten 6 [(3, .int (jI 0)), (1, .long h), (0, .ref x0)] [] := pr_k C hO h kk 6 0 (by omega)
set_option maxHeartbeats 4000000 in
set_option maxRecDepth 100000 in
theorem pr_o0 (C : zO E cL_print 6 "SwingUnitsLaw" rm_q cy l D) (hO : LO T z y s) (k : Nat) (h : Int64) (kk : ∀ v : Int64, v = zfold (prC T 0 k) 3 h → zJ E 6 0 0 (([] : List va_W) ++ LB cy x0 x1 x2 d0 d1 p0 p1 h0 h1 a b hs sl T U x z y s).flatten 104 [(5, .int (jI ((3 : Nat) : Int))), (4, .int (jI (k : Int))), (3, .int (jI 0)), (1, .long v), (0, .ref x0)] []) : ∀ m w : Nat, w + m = 3 → zJ E 6 0 0 (([] : List va_W) ++ LB cy x0 x1 x2 d0 d1 p0 p1 h0 h1 a b hs sl T U x z y s).flatten 75 [(5, .int (jI (w : Int))), (4, .int (jI (k : Int))), (3, .int (jI 0)), (1, .long (zfold (prC T 0 k) w h)), (0, .ref x0)] [] := by
  intro m
  induction m with
  | zero =>
    intro w hk
    have e : w = 3 := by omega
    subst e
    refine zj_iload C dL_print_75 0 rfl ?_
    refine ij_iconst C dL_print_77 ?_
    refine ij_icmp_ge C 104 dL_print_78 (by decide) ⟨by omega, by omega⟩ ⟨by decide, by decide⟩ (fun _ => ?_) (fun h => False.elim (by omega))
    exact kk _ rfl
  | succ m ih =>
    intro w hk
    refine zj_iload C dL_print_75 0 rfl ?_
    refine ij_iconst C dL_print_77 ?_
    refine ij_icmp_ge C 104 dL_print_78 (by decide) ⟨by omega, by omega⟩ ⟨by decide, by decide⟩ (fun h => False.elim (by omega)) (fun _ => ?_)
    refine zj_ldc2 C dL_print_81 tgv_664 ?_
    refine zj_lload_n C dL_print_84 3 rfl ?_
    refine zj_lmul C dL_print_85 ?_
    refine zj_aload_n C dL_print_86 4 rfl ?_
    refine zj_iload_n C dL_print_87 2 rfl ?_
    refine zj_iload C dL_print_88 1 rfl ?_
    refine zj_iload C dL_print_90 0 rfl ?_
    refine lc_order C ⟨Nat.le_of_ble_eq_true rfl, Nat.le_of_ble_eq_true rfl⟩ ⟨Nat.le_of_ble_eq_true rfl, Nat.le_of_ble_eq_true rfl⟩ hO ([] : List va_W) (jI 0) (jI (k : Int)) (jI (w : Int)) (Nat.le_of_ble_eq_true rfl) dL_print_92 rfl ?_
    refine zj_i2l C dL_print_95 ?_
    refine zj_ladd C dL_print_96 ?_
    refine zj_lstore_n C (L' := [(1, .long ((31 * (zfold (prC T 0 k) w h)) + ((f_X7_order T (jI 0) (jI (k : Int)) (jI (w : Int))).toInt64))), (5, .int (jI (w : Int))), (4, .int (jI (k : Int))), (3, .int (jI 0)), (0, .ref x0)]) dL_print_97 rfl (by decide) rfl ?_
    refine ij_iinc C (j := 1) (L2 := [(5, .int (jI ((w + 1 : Nat) : Int))), (1, .long ((31 * (zfold (prC T 0 k) w h)) + ((f_X7_order T (jI 0) (jI (k : Int)) (jI (w : Int))).toInt64))), (4, .int (jI (k : Int))), (3, .int (jI 0)), (0, .ref x0)]) ((w + 1 : Nat) : Int) (by omega) dL_print_98 rfl (by decide) rfl ?_
    refine zj_goto C 75 dL_print_101 (by decide) ?_
    refine zj_sub (L' := [(5, .int (jI ((w + 1 : Nat) : Int))), (4, .int (jI (k : Int))), (3, .int (jI 0)), (1, .long ((31 * (zfold (prC T 0 k) w h)) + ((f_X7_order T (jI 0) (jI (k : Int)) (jI (w : Int))).toInt64))), (0, .ref x0)]) [0, 2, 3, 1, 4] rfl ?_
    exact ih (w + 1) (by omega)
theorem pr_o0S (C : zO E cL_print 6 "SwingUnitsLaw" rm_q cy l D) (hO : LO T z y s) (k : Nat) (h : Int64) (kk : ∀ v : Int64, v = zfold (prC T 0 k) 3 h → zJ E 6 0 0 (([] : List va_W) ++ LB cy x0 x1 x2 d0 d1 p0 p1 h0 h1 a b hs sl T U x z y s).flatten 104 [(5, .int (jI ((3 : Nat) : Int))), (4, .int (jI (k : Int))), (3, .int (jI 0)), (1, .long v), (0, .ref x0)] []) : zJ E 6 0 0 (([] : List va_W) ++ LB cy x0 x1 x2 d0 d1 p0 p1 h0 h1 a b hs sl T U x z y s).flatten 75 [(5, .int (jI 0)), (4, .int (jI (k : Int))), (3, .int (jI 0)), (1, .long h), (0, .ref x0)] [] := pr_o0 C hO k h kk 3 0 (by omega)
set_option maxHeartbeats 4000000 in
set_option maxRecDepth 100000 in
theorem pr_n0 (C : zO E cL_print 6 "SwingUnitsLaw" rm_q cy l D) (hO : LO T z y s) (hG : GI Dd c T) (h : Int64) (kk : ∀ v : Int64, v = zfold (prD T 0) (gOd_n (gTr_bu T)) h → zJ E 6 0 0 (([] : List va_W) ++ LB cy x0 x1 x2 d0 d1 p0 p1 h0 h1 a b hs sl T U x z y s).flatten 110 [(4, .int (jI (gOd_n (gTr_bu T) : Int))), (3, .int (jI 0)), (1, .long v), (0, .ref x0)] []) : ∀ m k : Nat, k + m = (gOd_n (gTr_bu T)) → zJ E 6 0 0 (([] : List va_W) ++ LB cy x0 x1 x2 d0 d1 p0 p1 h0 h1 a b hs sl T U x z y s).flatten 59 [(4, .int (jI (k : Int))), (3, .int (jI 0)), (1, .long (zfold (prD T 0) k h)), (0, .ref x0)] [] := by
  have rnb := (GI_r hG).2.2.2.2.2.2.2.2.2.1
  have rnl := (GI_r hG).2.2.2.2.2.2.2.2.2.2.1
  intro m
  induction m with
  | zero =>
    intro k hk
    have e : k = (gOd_n (gTr_bu T)) := by omega
    subst e
    refine zj_iload C dL_print_59 0 rfl ?_
    refine zj_aload_n C dL_print_61 3 rfl ?_
    refine ij_bipush C dL_print_62 (by decide) ?_
    refine zj_iload_n C dL_print_64 1 rfl ?_
    refine ij_iadd C dL_print_65 ?_
    refine ij_ei 9 rfl ?_
    refine lc_count C ⟨Nat.le_of_ble_eq_true rfl, Nat.le_of_ble_eq_true rfl⟩ ⟨Nat.le_of_ble_eq_true rfl, Nat.le_of_ble_eq_true rfl⟩ hO ([] : List va_W) (jI 9) (Nat.le_of_ble_eq_true rfl) dL_print_66 (vc_9 hG z y) ?_
    refine ij_icmp_ge C 110 dL_print_69 (by decide) ⟨by omega, by omega⟩ ⟨by omega, by omega⟩ (fun _ => ?_) (fun h => False.elim (by omega))
    exact kk _ rfl
  | succ m ih =>
    intro k hk
    refine zj_iload C dL_print_59 0 rfl ?_
    refine zj_aload_n C dL_print_61 3 rfl ?_
    refine ij_bipush C dL_print_62 (by decide) ?_
    refine zj_iload_n C dL_print_64 1 rfl ?_
    refine ij_iadd C dL_print_65 ?_
    refine ij_ei 9 rfl ?_
    refine lc_count C ⟨Nat.le_of_ble_eq_true rfl, Nat.le_of_ble_eq_true rfl⟩ ⟨Nat.le_of_ble_eq_true rfl, Nat.le_of_ble_eq_true rfl⟩ hO ([] : List va_W) (jI 9) (Nat.le_of_ble_eq_true rfl) dL_print_66 (vc_9 hG z y) ?_
    refine ij_icmp_ge C 110 dL_print_69 (by decide) ⟨by omega, by omega⟩ ⟨by omega, by omega⟩ (fun h => False.elim (by omega)) (fun _ => ?_)
    refine ij_iconst C dL_print_72 ?_
    refine zj_istore C (L' := [(5, .int (jI 0)), (4, .int (jI (k : Int))), (3, .int (jI 0)), (1, .long (zfold (prD T 0) k h)), (0, .ref x0)]) dL_print_73 (by decide) rfl ?_
    refine zj_sub (L' := [(5, .int (jI 0)), (4, .int (jI (k : Int))), (3, .int (jI 0)), (1, .long (zfold (prD T 0) k h)), (0, .ref x0)]) [0, 1, 2, 3, 4] rfl ?_
    refine pr_o0S C hO k _ (fun v hv => ?_)
    refine ij_iinc C (j := 1) (L2 := [(4, .int (jI ((k + 1 : Nat) : Int))), (5, .int (jI ((3 : Nat) : Int))), (3, .int (jI 0)), (1, .long v), (0, .ref x0)]) ((k + 1 : Nat) : Int) (by omega) dL_print_104 rfl (by decide) rfl ?_
    refine zj_goto C 59 dL_print_107 (by decide) ?_
    refine zj_sub (L' := [(4, .int (jI ((k + 1 : Nat) : Int))), (3, .int (jI 0)), (1, .long v), (0, .ref x0)]) [0, 2, 3, 4] rfl ?_
    rw [hv]
    exact ih (k + 1) (by omega)
theorem pr_n0S (C : zO E cL_print 6 "SwingUnitsLaw" rm_q cy l D) (hO : LO T z y s) (hG : GI Dd c T) (h : Int64) (kk : ∀ v : Int64, v = zfold (prD T 0) (gOd_n (gTr_bu T)) h → zJ E 6 0 0 (([] : List va_W) ++ LB cy x0 x1 x2 d0 d1 p0 p1 h0 h1 a b hs sl T U x z y s).flatten 110 [(4, .int (jI (gOd_n (gTr_bu T) : Int))), (3, .int (jI 0)), (1, .long v), (0, .ref x0)] []) : zJ E 6 0 0 (([] : List va_W) ++ LB cy x0 x1 x2 d0 d1 p0 p1 h0 h1 a b hs sl T U x z y s).flatten 59 [(4, .int (jI 0)), (3, .int (jI 0)), (1, .long h), (0, .ref x0)] [] := pr_n0 C hO hG h kk (gOd_n (gTr_bu T)) 0 (by omega)
set_option maxHeartbeats 4000000 in
set_option maxRecDepth 100000 in
theorem pr_o1 (C : zO E cL_print 6 "SwingUnitsLaw" rm_q cy l D) (hO : LO T z y s) (k : Nat) (h : Int64) (kk : ∀ v : Int64, v = zfold (prC T 1 k) 3 h → zJ E 6 0 0 (([] : List va_W) ++ LB cy x0 x1 x2 d0 d1 p0 p1 h0 h1 a b hs sl T U x z y s).flatten 104 [(5, .int (jI ((3 : Nat) : Int))), (4, .int (jI (k : Int))), (3, .int (jI 1)), (1, .long v), (0, .ref x0)] []) : ∀ m w : Nat, w + m = 3 → zJ E 6 0 0 (([] : List va_W) ++ LB cy x0 x1 x2 d0 d1 p0 p1 h0 h1 a b hs sl T U x z y s).flatten 75 [(5, .int (jI (w : Int))), (4, .int (jI (k : Int))), (3, .int (jI 1)), (1, .long (zfold (prC T 1 k) w h)), (0, .ref x0)] [] := by
  intro m
  induction m with
  | zero =>
    intro w hk
    have e : w = 3 := by omega
    subst e
    refine zj_iload C dL_print_75 0 rfl ?_
    refine ij_iconst C dL_print_77 ?_
    refine ij_icmp_ge C 104 dL_print_78 (by decide) ⟨by omega, by omega⟩ ⟨by decide, by decide⟩ (fun _ => ?_) (fun h => False.elim (by omega))
    exact kk _ rfl
  | succ m ih =>
    intro w hk
    refine zj_iload C dL_print_75 0 rfl ?_
    refine ij_iconst C dL_print_77 ?_
    refine ij_icmp_ge C 104 dL_print_78 (by decide) ⟨by omega, by omega⟩ ⟨by decide, by decide⟩ (fun h => False.elim (by omega)) (fun _ => ?_)
    refine zj_ldc2 C dL_print_81 tgv_664 ?_
    refine zj_lload_n C dL_print_84 3 rfl ?_
    refine zj_lmul C dL_print_85 ?_
    refine zj_aload_n C dL_print_86 4 rfl ?_
    refine zj_iload_n C dL_print_87 2 rfl ?_
    refine zj_iload C dL_print_88 1 rfl ?_
    refine zj_iload C dL_print_90 0 rfl ?_
    refine lc_order C ⟨Nat.le_of_ble_eq_true rfl, Nat.le_of_ble_eq_true rfl⟩ ⟨Nat.le_of_ble_eq_true rfl, Nat.le_of_ble_eq_true rfl⟩ hO ([] : List va_W) (jI 1) (jI (k : Int)) (jI (w : Int)) (Nat.le_of_ble_eq_true rfl) dL_print_92 rfl ?_
    refine zj_i2l C dL_print_95 ?_
    refine zj_ladd C dL_print_96 ?_
    refine zj_lstore_n C (L' := [(1, .long ((31 * (zfold (prC T 1 k) w h)) + ((f_X7_order T (jI 1) (jI (k : Int)) (jI (w : Int))).toInt64))), (5, .int (jI (w : Int))), (4, .int (jI (k : Int))), (3, .int (jI 1)), (0, .ref x0)]) dL_print_97 rfl (by decide) rfl ?_
    refine ij_iinc C (j := 1) (L2 := [(5, .int (jI ((w + 1 : Nat) : Int))), (1, .long ((31 * (zfold (prC T 1 k) w h)) + ((f_X7_order T (jI 1) (jI (k : Int)) (jI (w : Int))).toInt64))), (4, .int (jI (k : Int))), (3, .int (jI 1)), (0, .ref x0)]) ((w + 1 : Nat) : Int) (by omega) dL_print_98 rfl (by decide) rfl ?_
    refine zj_goto C 75 dL_print_101 (by decide) ?_
    refine zj_sub (L' := [(5, .int (jI ((w + 1 : Nat) : Int))), (4, .int (jI (k : Int))), (3, .int (jI 1)), (1, .long ((31 * (zfold (prC T 1 k) w h)) + ((f_X7_order T (jI 1) (jI (k : Int)) (jI (w : Int))).toInt64))), (0, .ref x0)]) [0, 2, 3, 1, 4] rfl ?_
    exact ih (w + 1) (by omega)
theorem pr_o1S (C : zO E cL_print 6 "SwingUnitsLaw" rm_q cy l D) (hO : LO T z y s) (k : Nat) (h : Int64) (kk : ∀ v : Int64, v = zfold (prC T 1 k) 3 h → zJ E 6 0 0 (([] : List va_W) ++ LB cy x0 x1 x2 d0 d1 p0 p1 h0 h1 a b hs sl T U x z y s).flatten 104 [(5, .int (jI ((3 : Nat) : Int))), (4, .int (jI (k : Int))), (3, .int (jI 1)), (1, .long v), (0, .ref x0)] []) : zJ E 6 0 0 (([] : List va_W) ++ LB cy x0 x1 x2 d0 d1 p0 p1 h0 h1 a b hs sl T U x z y s).flatten 75 [(5, .int (jI 0)), (4, .int (jI (k : Int))), (3, .int (jI 1)), (1, .long h), (0, .ref x0)] [] := pr_o1 C hO k h kk 3 0 (by omega)
set_option maxHeartbeats 4000000 in
set_option maxRecDepth 100000 in
theorem pr_n1 (C : zO E cL_print 6 "SwingUnitsLaw" rm_q cy l D) (hO : LO T z y s) (hG : GI Dd c T) (h : Int64) (kk : ∀ v : Int64, v = zfold (prD T 1) (gOd_n (gTr_le T)) h → zJ E 6 0 0 (([] : List va_W) ++ LB cy x0 x1 x2 d0 d1 p0 p1 h0 h1 a b hs sl T U x z y s).flatten 110 [(4, .int (jI (gOd_n (gTr_le T) : Int))), (3, .int (jI 1)), (1, .long v), (0, .ref x0)] []) : ∀ m k : Nat, k + m = (gOd_n (gTr_le T)) → zJ E 6 0 0 (([] : List va_W) ++ LB cy x0 x1 x2 d0 d1 p0 p1 h0 h1 a b hs sl T U x z y s).flatten 59 [(4, .int (jI (k : Int))), (3, .int (jI 1)), (1, .long (zfold (prD T 1) k h)), (0, .ref x0)] [] := by
  have rnb := (GI_r hG).2.2.2.2.2.2.2.2.2.1
  have rnl := (GI_r hG).2.2.2.2.2.2.2.2.2.2.1
  intro m
  induction m with
  | zero =>
    intro k hk
    have e : k = (gOd_n (gTr_le T)) := by omega
    subst e
    refine zj_iload C dL_print_59 0 rfl ?_
    refine zj_aload_n C dL_print_61 3 rfl ?_
    refine ij_bipush C dL_print_62 (by decide) ?_
    refine zj_iload_n C dL_print_64 1 rfl ?_
    refine ij_iadd C dL_print_65 ?_
    refine ij_ei 10 rfl ?_
    refine lc_count C ⟨Nat.le_of_ble_eq_true rfl, Nat.le_of_ble_eq_true rfl⟩ ⟨Nat.le_of_ble_eq_true rfl, Nat.le_of_ble_eq_true rfl⟩ hO ([] : List va_W) (jI 10) (Nat.le_of_ble_eq_true rfl) dL_print_66 (vc_10 hG z y) ?_
    refine ij_icmp_ge C 110 dL_print_69 (by decide) ⟨by omega, by omega⟩ ⟨by omega, by omega⟩ (fun _ => ?_) (fun h => False.elim (by omega))
    exact kk _ rfl
  | succ m ih =>
    intro k hk
    refine zj_iload C dL_print_59 0 rfl ?_
    refine zj_aload_n C dL_print_61 3 rfl ?_
    refine ij_bipush C dL_print_62 (by decide) ?_
    refine zj_iload_n C dL_print_64 1 rfl ?_
    refine ij_iadd C dL_print_65 ?_
    refine ij_ei 10 rfl ?_
    refine lc_count C ⟨Nat.le_of_ble_eq_true rfl, Nat.le_of_ble_eq_true rfl⟩ ⟨Nat.le_of_ble_eq_true rfl, Nat.le_of_ble_eq_true rfl⟩ hO ([] : List va_W) (jI 10) (Nat.le_of_ble_eq_true rfl) dL_print_66 (vc_10 hG z y) ?_
    refine ij_icmp_ge C 110 dL_print_69 (by decide) ⟨by omega, by omega⟩ ⟨by omega, by omega⟩ (fun h => False.elim (by omega)) (fun _ => ?_)
    refine ij_iconst C dL_print_72 ?_
    refine zj_istore C (L' := [(5, .int (jI 0)), (4, .int (jI (k : Int))), (3, .int (jI 1)), (1, .long (zfold (prD T 1) k h)), (0, .ref x0)]) dL_print_73 (by decide) rfl ?_
    refine zj_sub (L' := [(5, .int (jI 0)), (4, .int (jI (k : Int))), (3, .int (jI 1)), (1, .long (zfold (prD T 1) k h)), (0, .ref x0)]) [0, 1, 2, 3, 4] rfl ?_
    refine pr_o1S C hO k _ (fun v hv => ?_)
    refine ij_iinc C (j := 1) (L2 := [(4, .int (jI ((k + 1 : Nat) : Int))), (5, .int (jI ((3 : Nat) : Int))), (3, .int (jI 1)), (1, .long v), (0, .ref x0)]) ((k + 1 : Nat) : Int) (by omega) dL_print_104 rfl (by decide) rfl ?_
    refine zj_goto C 59 dL_print_107 (by decide) ?_
    refine zj_sub (L' := [(4, .int (jI ((k + 1 : Nat) : Int))), (3, .int (jI 1)), (1, .long v), (0, .ref x0)]) [0, 2, 3, 4] rfl ?_
    rw [hv]
    exact ih (k + 1) (by omega)
theorem pr_n1S (C : zO E cL_print 6 "SwingUnitsLaw" rm_q cy l D) (hO : LO T z y s) (hG : GI Dd c T) (h : Int64) (kk : ∀ v : Int64, v = zfold (prD T 1) (gOd_n (gTr_le T)) h → zJ E 6 0 0 (([] : List va_W) ++ LB cy x0 x1 x2 d0 d1 p0 p1 h0 h1 a b hs sl T U x z y s).flatten 110 [(4, .int (jI (gOd_n (gTr_le T) : Int))), (3, .int (jI 1)), (1, .long v), (0, .ref x0)] []) : zJ E 6 0 0 (([] : List va_W) ++ LB cy x0 x1 x2 d0 d1 p0 p1 h0 h1 a b hs sl T U x z y s).flatten 59 [(4, .int (jI 0)), (3, .int (jI 1)), (1, .long h), (0, .ref x0)] [] := pr_n1 C hO hG h kk (gOd_n (gTr_le T)) 0 (by omega)
set_option maxHeartbeats 4000000 in
set_option maxRecDepth 100000 in
theorem pr_c (C : zO E cL_print 6 "SwingUnitsLaw" rm_q cy l D) (hO : LO T z y s) (h : Int64) (kk : ∀ v : Int64, v = zfold (prE T) 17 h → zJ E 6 0 0 (([] : List va_W) ++ LB cy x0 x1 x2 d0 d1 p0 p1 h0 h1 a b hs sl T U x z y s).flatten 143 [(3, .int (jI ((17 : Nat) : Int))), (1, .long v), (0, .ref x0)] []) : ∀ m k : Nat, k + m = 17 → zJ E 6 0 0 (([] : List va_W) ++ LB cy x0 x1 x2 d0 d1 p0 p1 h0 h1 a b hs sl T U x z y s).flatten 118 [(3, .int (jI (k : Int))), (1, .long (zfold (prE T) k h)), (0, .ref x0)] [] := by
  intro m
  induction m with
  | zero =>
    intro k hk
    have e : k = 17 := by omega
    subst e
    refine zj_iload_n C dL_print_118 0 rfl ?_
    refine ij_bipush C dL_print_119 (by decide) ?_
    refine ij_icmp_ge C 143 dL_print_121 (by decide) ⟨by omega, by omega⟩ ⟨by decide, by decide⟩ (fun _ => ?_) (fun h => False.elim (by omega))
    exact kk _ rfl
  | succ m ih =>
    intro k hk
    refine zj_iload_n C dL_print_118 0 rfl ?_
    refine ij_bipush C dL_print_119 (by decide) ?_
    refine ij_icmp_ge C 143 dL_print_121 (by decide) ⟨by omega, by omega⟩ ⟨by decide, by decide⟩ (fun h => False.elim (by omega)) (fun _ => ?_)
    refine zj_ldc2 C dL_print_124 tgv_664 ?_
    refine zj_lload_n C dL_print_127 1 rfl ?_
    refine zj_lmul C dL_print_128 ?_
    refine zj_aload_n C dL_print_129 2 rfl ?_
    refine zj_iload_n C dL_print_130 0 rfl ?_
    refine lc_count C ⟨Nat.le_of_ble_eq_true rfl, Nat.le_of_ble_eq_true rfl⟩ ⟨Nat.le_of_ble_eq_true rfl, Nat.le_of_ble_eq_true rfl⟩ hO ([] : List va_W) (jI (k : Int)) (Nat.le_of_ble_eq_true rfl) dL_print_131 (cntV_e T z y (by omega)) ?_
    refine zj_i2l C dL_print_134 ?_
    refine zj_ladd C dL_print_135 ?_
    refine zj_lstore_n C (L' := [(1, .long ((31 * (zfold (prE T) k h)) + ((cntV T k).toInt64))), (3, .int (jI (k : Int))), (0, .ref x0)]) dL_print_136 rfl (by decide) rfl ?_
    refine ij_iinc C (j := 1) (L2 := [(3, .int (jI ((k + 1 : Nat) : Int))), (1, .long ((31 * (zfold (prE T) k h)) + ((cntV T k).toInt64))), (0, .ref x0)]) ((k + 1 : Nat) : Int) (by omega) dL_print_137 rfl (by decide) rfl ?_
    refine zj_goto C 118 dL_print_140 (by decide) ?_
    refine zj_sub (L' := [(3, .int (jI ((k + 1 : Nat) : Int))), (1, .long ((31 * (zfold (prE T) k h)) + ((cntV T k).toInt64))), (0, .ref x0)]) [0, 1, 2] rfl ?_
    exact ih (k + 1) (by omega)
theorem pr_cS (C : zO E cL_print 6 "SwingUnitsLaw" rm_q cy l D) (hO : LO T z y s) (h : Int64) (kk : ∀ v : Int64, v = zfold (prE T) 17 h → zJ E 6 0 0 (([] : List va_W) ++ LB cy x0 x1 x2 d0 d1 p0 p1 h0 h1 a b hs sl T U x z y s).flatten 143 [(3, .int (jI ((17 : Nat) : Int))), (1, .long v), (0, .ref x0)] []) : zJ E 6 0 0 (([] : List va_W) ++ LB cy x0 x1 x2 d0 d1 p0 p1 h0 h1 a b hs sl T U x z y s).flatten 118 [(3, .int (jI 0)), (1, .long h), (0, .ref x0)] [] := pr_c C hO h kk 17 0 (by omega)
set_option maxHeartbeats 4000000 in
set_option maxRecDepth 100000 in
theorem pr_l (C : zO E cL_print 6 "SwingUnitsLaw" rm_q cy l D) (hO : LO T z y s) (h : Int64) (kk : ∀ v : Int64, v = zfold (prF T) 6 h → zJ E 6 0 0 (([] : List va_W) ++ LB cy x0 x1 x2 d0 d1 p0 p1 h0 h1 a b hs sl T U x z y s).flatten 170 [(3, .int (jI ((6 : Nat) : Int))), (1, .long v), (0, .ref x0)] []) : ∀ m k : Nat, k + m = 6 → zJ E 6 0 0 (([] : List va_W) ++ LB cy x0 x1 x2 d0 d1 p0 p1 h0 h1 a b hs sl T U x z y s).flatten 145 [(3, .int (jI (k : Int))), (1, .long (zfold (prF T) k h)), (0, .ref x0)] [] := by
  intro m
  induction m with
  | zero =>
    intro k hk
    have e : k = 6 := by omega
    subst e
    refine zj_iload_n C dL_print_145 0 rfl ?_
    refine ij_bipush C dL_print_146 (by decide) ?_
    refine ij_icmp_ge C 170 dL_print_148 (by decide) ⟨by omega, by omega⟩ ⟨by decide, by decide⟩ (fun _ => ?_) (fun h => False.elim (by omega))
    exact kk _ rfl
  | succ m ih =>
    intro k hk
    refine zj_iload_n C dL_print_145 0 rfl ?_
    refine ij_bipush C dL_print_146 (by decide) ?_
    refine ij_icmp_ge C 170 dL_print_148 (by decide) ⟨by omega, by omega⟩ ⟨by decide, by decide⟩ (fun h => False.elim (by omega)) (fun _ => ?_)
    refine zj_ldc2 C dL_print_151 tgv_664 ?_
    refine zj_lload_n C dL_print_154 1 rfl ?_
    refine zj_lmul C dL_print_155 ?_
    refine zj_aload_n C dL_print_156 2 rfl ?_
    refine zj_iload_n C dL_print_157 0 rfl ?_
    refine lc_lastDay C ⟨Nat.le_of_ble_eq_true rfl, Nat.le_of_ble_eq_true rfl⟩ ⟨Nat.le_of_ble_eq_true rfl, Nat.le_of_ble_eq_true rfl⟩ hO ([] : List va_W) (jI (k : Int)) (Nat.le_of_ble_eq_true rfl) dL_print_158 rfl ?_
    refine zj_i2l C dL_print_161 ?_
    refine zj_ladd C dL_print_162 ?_
    refine zj_lstore_n C (L' := [(1, .long ((31 * (zfold (prF T) k h)) + ((f_X7_lastDay T (jI (k : Int))).toInt64))), (3, .int (jI (k : Int))), (0, .ref x0)]) dL_print_163 rfl (by decide) rfl ?_
    refine ij_iinc C (j := 1) (L2 := [(3, .int (jI ((k + 1 : Nat) : Int))), (1, .long ((31 * (zfold (prF T) k h)) + ((f_X7_lastDay T (jI (k : Int))).toInt64))), (0, .ref x0)]) ((k + 1 : Nat) : Int) (by omega) dL_print_164 rfl (by decide) rfl ?_
    refine zj_goto C 145 dL_print_167 (by decide) ?_
    refine zj_sub (L' := [(3, .int (jI ((k + 1 : Nat) : Int))), (1, .long ((31 * (zfold (prF T) k h)) + ((f_X7_lastDay T (jI (k : Int))).toInt64))), (0, .ref x0)]) [0, 1, 2] rfl ?_
    exact ih (k + 1) (by omega)
theorem pr_lS (C : zO E cL_print 6 "SwingUnitsLaw" rm_q cy l D) (hO : LO T z y s) (h : Int64) (kk : ∀ v : Int64, v = zfold (prF T) 6 h → zJ E 6 0 0 (([] : List va_W) ++ LB cy x0 x1 x2 d0 d1 p0 p1 h0 h1 a b hs sl T U x z y s).flatten 170 [(3, .int (jI ((6 : Nat) : Int))), (1, .long v), (0, .ref x0)] []) : zJ E 6 0 0 (([] : List va_W) ++ LB cy x0 x1 x2 d0 d1 p0 p1 h0 h1 a b hs sl T U x z y s).flatten 145 [(3, .int (jI 0)), (1, .long h), (0, .ref x0)] [] := pr_l C hO h kk 6 0 (by omega)
set_option maxHeartbeats 4000000 in
set_option maxRecDepth 100000 in
theorem pr_p (C : zO E cL_print 6 "SwingUnitsLaw" rm_q cy l D) (hO : LO T z y s) (h : Int64) (kk : ∀ x : zDd, ∀ v : Int64, v = zfold (prG T) 4 h → zJ E 6 0 0 (([] : List va_W) ++ LB cy x0 x1 x2 d0 d1 p0 p1 h0 h1 a b hs sl T U x z y s).flatten 195 [(3, .int (jI ((4 : Nat) : Int))), (1, .long v), (0, .ref x0)] []) : ∀ m k : Nat, k + m = 4 → ∀ x : zDd, zJ E 6 0 0 (([] : List va_W) ++ LB cy x0 x1 x2 d0 d1 p0 p1 h0 h1 a b hs sl T U x z y s).flatten 172 [(3, .int (jI (k : Int))), (1, .long (zfold (prG T) k h)), (0, .ref x0)] [] := by
  intro m
  induction m with
  | zero =>
    intro k hk x
    have e : k = 4 := by omega
    subst e
    refine zj_iload_n C dL_print_172 0 rfl ?_
    refine ij_iconst C dL_print_173 ?_
    refine ij_icmp_ge C 195 dL_print_174 (by decide) ⟨by omega, by omega⟩ ⟨by decide, by decide⟩ (fun _ => ?_) (fun h => False.elim (by omega))
    exact kk x _ rfl
  | succ m ih =>
    intro k hk x
    refine zj_iload_n C dL_print_172 0 rfl ?_
    refine ij_iconst C dL_print_173 ?_
    refine ij_icmp_ge C 195 dL_print_174 (by decide) ⟨by omega, by omega⟩ ⟨by decide, by decide⟩ (fun h => False.elim (by omega)) (fun _ => ?_)
    refine zj_ldc2 C dL_print_177 tgv_664 ?_
    refine zj_lload_n C dL_print_180 1 rfl ?_
    refine zj_lmul C dL_print_181 ?_
    refine zj_aload_n C dL_print_182 2 rfl ?_
    refine zj_iload_n C dL_print_183 0 rfl ?_
    refine lc_price C ⟨Nat.le_of_ble_eq_true rfl, Nat.le_of_ble_eq_true rfl⟩ ⟨Nat.le_of_ble_eq_true rfl, Nat.le_of_ble_eq_true rfl⟩ hO ([] : List va_W) (jI (k : Int)) (Nat.le_of_ble_eq_true rfl) dL_print_184 (fun r xn er => ?_)
    refine zj_topl (priV T k) ((congrArg Prod.fst er).symm.trans (priV_e T x (by omega))) ?_
    refine zj_ladd C dL_print_187 ?_
    refine zj_lstore_n C (L' := [(1, .long ((31 * (zfold (prG T) k h)) + (priV T k))), (3, .int (jI (k : Int))), (0, .ref x0)]) dL_print_188 rfl (by decide) rfl ?_
    refine ij_iinc C (j := 1) (L2 := [(3, .int (jI ((k + 1 : Nat) : Int))), (1, .long ((31 * (zfold (prG T) k h)) + (priV T k))), (0, .ref x0)]) ((k + 1 : Nat) : Int) (by omega) dL_print_189 rfl (by decide) rfl ?_
    refine zj_goto C 172 dL_print_192 (by decide) ?_
    refine zj_sub (L' := [(3, .int (jI ((k + 1 : Nat) : Int))), (1, .long ((31 * (zfold (prG T) k h)) + (priV T k))), (0, .ref x0)]) [0, 1, 2] rfl ?_
    exact ih (k + 1) (by omega) _
theorem pr_pS (C : zO E cL_print 6 "SwingUnitsLaw" rm_q cy l D) (hO : LO T z y s) (h : Int64) (kk : ∀ x : zDd, ∀ v : Int64, v = zfold (prG T) 4 h → zJ E 6 0 0 (([] : List va_W) ++ LB cy x0 x1 x2 d0 d1 p0 p1 h0 h1 a b hs sl T U x z y s).flatten 195 [(3, .int (jI ((4 : Nat) : Int))), (1, .long v), (0, .ref x0)] []) : zJ E 6 0 0 (([] : List va_W) ++ LB cy x0 x1 x2 d0 d1 p0 p1 h0 h1 a b hs sl T U x z y s).flatten 172 [(3, .int (jI 0)), (1, .long h), (0, .ref x0)] [] := pr_p C hO h kk 4 0 (by omega) x
end PRINT
set_option maxHeartbeats 4000000 in
set_option maxRecDepth 100000 in
theorem c_L_print (l : Launch) (D : va_G) (cy : Nat → ClassId) (x0 x1 x2 d0 d1 p0 p1 h0 h1 : Nat) (a b : Nat → Nat) (hs sl : Nat → Nat → Nat) (T U : zTr) (x : zDd) (z : zPd) (y : zHs) (s : zSl) {Dd c : Int} (hG : GI Dd c T) (hO : LO T z y s) : zM l yL_print (zW yL_print cL_print 6 (Option.some Jvm.ClassFile.FieldType.long)) rm_q D cy [.ref x0] (LB cy x0 x1 x2 d0 d1 p0 p1 h0 h1 a b hs sl T U x z y s).flatten (fun r w => r = some (.long (prt T)) ∧ ∃ x', w = (LB cy x0 x1 x2 d0 d1 p0 p1 h0 h1 a b hs sl T U x' z y s).flatten) 0 0 := by
  refine zM_of rfl (Nat.le_of_ble_eq_true rfl) (fun E C hret => ?_)
  have C : zO E cL_print 6 "SwingUnitsLaw" rm_q cy l D := C
  show zJ E 6 0 0 (([] : List va_W) ++ LB cy x0 x1 x2 d0 d1 p0 p1 h0 h1 a b hs sl T U x z y s).flatten 0 [(0, .ref x0)] []
  refine zj_ldc2 C dL_print_0 tgv_663 ?_
  refine zj_lstore_n C (L' := [(1, .long 7), (0, .ref x0)]) dL_print_3 rfl (by decide) rfl ?_
  refine ij_iconst C dL_print_4 ?_
  refine zj_istore_n C (L' := [(3, .int (jI 0)), (1, .long 7), (0, .ref x0)]) dL_print_5 rfl (by decide) rfl ?_
  refine pr_kS C hO 7 (fun v2 e2 => ?_)
  refine ij_iconst C dL_print_49 ?_
  refine zj_istore_n C (L' := [(3, .int (jI 0)), (1, .long v2), (0, .ref x0)]) dL_print_50 rfl (by decide) rfl ?_
  refine zj_iload_n C dL_print_51 0 rfl ?_
  refine ij_iconst C dL_print_52 ?_
  refine ij_icmp_ge C 116 dL_print_53 (by decide) ⟨by decide, by decide⟩ ⟨by decide, by decide⟩ (fun h => False.elim (by omega)) (fun _ => ?_)
  refine ij_iconst C dL_print_56 ?_
  refine zj_istore C (L' := [(4, .int (jI 0)), (3, .int (jI 0)), (1, .long v2), (0, .ref x0)]) dL_print_57 (by decide) rfl ?_
  refine zj_sub (L' := [(4, .int (jI 0)), (3, .int (jI 0)), (1, .long v2), (0, .ref x0)]) [0, 1, 2, 3] rfl ?_
  refine pr_n0S C hO hG v2 (fun v3 e3 => ?_)
  refine ij_iinc C (j := 1) (L2 := [(3, .int (jI 1)), (4, .int (jI (gOd_n (gTr_bu T) : Int))), (1, .long v3), (0, .ref x0)]) 1 rfl dL_print_110 rfl (by decide) rfl ?_
  refine zj_goto C 51 dL_print_113 (by decide) ?_
  refine zj_iload_n C dL_print_51 0 rfl ?_
  refine ij_iconst C dL_print_52 ?_
  refine ij_icmp_ge C 116 dL_print_53 (by decide) ⟨by decide, by decide⟩ ⟨by decide, by decide⟩ (fun h => False.elim (by omega)) (fun _ => ?_)
  refine ij_iconst C dL_print_56 ?_
  refine zj_istore C (L' := [(4, .int (jI 0)), (3, .int (jI 1)), (1, .long v3), (0, .ref x0)]) dL_print_57 (by decide) rfl ?_
  refine zj_sub (L' := [(4, .int (jI 0)), (3, .int (jI 1)), (1, .long v3), (0, .ref x0)]) [0, 1, 2, 3] rfl ?_
  refine pr_n1S C hO hG v3 (fun v4 e4 => ?_)
  refine ij_iinc C (j := 1) (L2 := [(3, .int (jI 2)), (4, .int (jI (gOd_n (gTr_le T) : Int))), (1, .long v4), (0, .ref x0)]) 2 rfl dL_print_110 rfl (by decide) rfl ?_
  refine zj_goto C 51 dL_print_113 (by decide) ?_
  refine zj_iload_n C dL_print_51 0 rfl ?_
  refine ij_iconst C dL_print_52 ?_
  refine ij_icmp_ge C 116 dL_print_53 (by decide) ⟨by decide, by decide⟩ ⟨by decide, by decide⟩ (fun _ => ?_) (fun h => False.elim (by omega))
  refine ij_iconst C dL_print_116 ?_
  refine zj_istore_n C (L' := [(3, .int (jI 0)), (4, .int (jI (gOd_n (gTr_le T) : Int))), (1, .long v4), (0, .ref x0)]) dL_print_117 rfl (by decide) rfl ?_
  refine zj_sub (L' := [(3, .int (jI 0)), (1, .long v4), (0, .ref x0)]) [0, 2, 3] rfl ?_
  refine pr_cS C hO v4 (fun v5 e5 => ?_)
  refine ij_iconst C dL_print_143 ?_
  refine zj_istore_n C (L' := [(3, .int (jI 0)), (1, .long v5), (0, .ref x0)]) dL_print_144 rfl (by decide) rfl ?_
  refine zj_sub (L' := [(3, .int (jI 0)), (1, .long v5), (0, .ref x0)]) [0, 1, 2] rfl ?_
  refine pr_lS C hO v5 (fun v6 e6 => ?_)
  refine ij_iconst C dL_print_170 ?_
  refine zj_istore_n C (L' := [(3, .int (jI 0)), (1, .long v6), (0, .ref x0)]) dL_print_171 rfl (by decide) rfl ?_
  refine zj_sub (L' := [(3, .int (jI 0)), (1, .long v6), (0, .ref x0)]) [0, 1, 2] rfl ?_
  refine pr_pS C hO v6 (fun x' v7 e7 => ?_)
  refine zj_lload_n C dL_print_195 1 rfl ?_
  have ep : v7 = prt T := by
    unfold prt pr5 pr4 pr3 pr2
    rw [e7, e6, e5, e4, e3, e2]
  exact hret _ _ _ _ ⟨by rw [ep], _, rfl⟩ (zOk_l _) dL_print_196
