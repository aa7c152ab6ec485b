/-! a callee's cells as one block of the caller's world -/
theorem zS_cons (x : Nat × va_E) : ∀ (is : List Nat) (cs ws : va_W), zS (x :: ws) (is.map (· + 1)) cs = x :: zS ws is cs
  | [], cs, ws => by cases cs <;> rfl
  | i :: is, [], ws => rfl
  | i :: is, c :: cs, ws => by
    show zS ((x :: ws).set (i + 1) c) (is.map (· + 1)) cs = x :: zS (ws.set i c) is cs
    rw [List.set_cons_succ]
    exact zS_cons x is cs (ws.set i c)
theorem zS_all : ∀ (wc wc' post : va_W), wc.length = wc'.length → zS (wc ++ post) (List.range wc.length) wc' = wc' ++ post
  | [], wc', post, h => by
    cases wc' with
    | nil => rfl
    | cons c cs => simp at h
  | x :: wc, [], post, h => by simp at h
  | x :: wc, c :: cs, post, h => by
    rw [List.length_cons, List.range_succ_eq_map]
    show zS ((x :: (wc ++ post)).set 0 c) ((List.range wc.length).map Nat.succ) cs = c :: (cs ++ post)
    rw [List.set_cons_zero]
    show zS (c :: (wc ++ post)) ((List.range wc.length).map (· + 1)) cs = _
    rw [zS_cons, zS_all wc cs post (by simpa using h)]
theorem zS_blk : ∀ (pre wc wc' post : va_W), wc.length = wc'.length → zS (pre ++ (wc ++ post)) ((List.range wc.length).map (pre.length + ·)) wc' = pre ++ (wc' ++ post)
  | [], wc, wc', post, h => by
    have : (List.range wc.length).map (fun x => ([] : va_W).length + x) = List.range wc.length := by
      conv => rhs; rw [← List.map_id (List.range wc.length)]
      apply List.map_congr_left; intro a _; show 0 + a = a; omega
    rw [this]
    exact zS_all wc wc' post h
  | x :: pre, wc, wc', post, h => by
    have : (List.range wc.length).map (fun y => (x :: pre).length + y) = ((List.range wc.length).map (fun y => pre.length + y)).map (· + 1) := by
      rw [List.map_map]
      apply List.map_congr_left; intro a _
      show pre.length + 1 + a = pre.length + a + 1
      omega
    rw [this]
    show zS (x :: (pre ++ (wc ++ post))) _ wc' = x :: (pre ++ (wc' ++ post))
    rw [zS_cons, zS_blk pre wc wc' post h]
theorem zC_blk (pre wc post : va_W) : ((List.range wc.length).map (pre.length + ·)).map (fun i => (pre ++ (wc ++ post))[i]?) = wc.map some := by
  apply List.ext_getElem?
  intro k
  rw [List.map_map, List.getElem?_map, List.getElem?_map]
  by_cases hk : k < wc.length
  · rw [List.getElem?_range hk]
    show some ((pre ++ (wc ++ post))[pre.length + k]?) = (wc[k]?).map some
    rw [List.getElem?_append_right (by omega), Nat.add_sub_cancel_left, List.getElem?_append_left hk, List.getElem?_eq_getElem hk]
    rfl
  · rw [List.getElem?_eq_none (by simpa using hk), List.getElem?_eq_none (by omega)]
    rfl
theorem va_nd_of : ∀ (l : List Nat), l.Nodup → va_nd l = true
  | [], _ => rfl
  | a :: l, h => by
    have h2 := List.nodup_cons.mp h
    simp only [va_nd, Bool.and_eq_true, decide_eq_true_eq]
    exact ⟨h2.1, va_nd_of l h2.2⟩
theorem zN_blk (n m : Nat) : va_nd ((List.range m).map (n + ·)) = true := by
  apply va_nd_of
  exact List.Pairwise.map _ (fun a b h e => h (by simpa using e)) List.nodup_range
theorem zj_callVB {l : Launch} {D : va_G} {cc : ByteArray} {own : String} {E : zE} {nL : Nat} {R : Room} {cy : Nat → ClassId} {ws : va_W} {pc : Nat} {L : List (Nat × Value)} {st : List Value} (C : zO E cc nL own R cy l D) {y : MethodName} {bytes : ByteArray} {maxL index n0 : Nat} {ret : Option FieldType} {rm : Room} {wc wc' ws' : va_W} {As : List Value} {r : Option Value} {st0 st1 : List Value} {nn : Nat} {b N : Nat} {Cn : String} {T : u_T} {fs : List Value} (pre post : va_W) (q0 ci : Nat)
    (hM : zC l y (zW y bytes maxL ret) rm D cy (.ref b :: As) wc r wc') (hG : GoodIn zG (wsV own index Cn y (zW y bytes maxL ret))) (hd : y.cls = Cn ∧ y.cls ≠ "java/lang/invoke/MethodHandle" ∧ y.cls ≠ "java/lang/invoke/VarHandle" ∧ (parseMethodDescriptor y.desc).map (fun d => d.parameters.length) = some n0) (hrm : rm.cells = 0 ∧ rm.slots = 0) (hR : rm.frames + 1 ≤ R.frames ∧ 8 + (maxL + 11) + rm.locals ≤ R.locals)
    (hw : ws[q0]? = some (b, .inr (ci, fs))) (hc : vwCl[ci]? = some (Cn, T, N)) (h0 : ws = pre ++ (wc ++ post)) (hlen : wc.length = nn ∧ wc'.length = nn) (hn : As.length = n0) (hst : st0 = As.reverse ++ .ref b :: st) (hroom : (st.map fun v => v.category).sum ≤ 8)
    (d : decode cc pc = .ok (.invokevirtual index, 3)) (hws : pre ++ (wc' ++ post) = ws') (hs1 : r.toList ++ st = st1) (kk : zJ E nL 0 0 ws' (pc + 3) L st1) : zJ E nL 0 0 ws pc L st0 := by
  subst h0
  exact zj_callV C q0 ci ((List.range wc.length).map (pre.length + ·)) hM hG hd hrm hR hw hc (zC_blk pre wc post) (zN_blk _ _) hlen hn hst hroom d ((zS_blk pre wc wc' post (hlen.1.trans hlen.2.symm)).trans hws) hs1 kk
