/-! the world as a list of blocks: a callee's blocks are told by their places in that list -/
theorem zP_perm {D : va_G} {cl : List vw_C} {ws ws' : va_W} {H : Heap} (h : ws.Perm ws') (hP : va_P D cl ws H) : va_P D cl ws' H := fun k q hq => by
  obtain ⟨i, hi⟩ := List.getElem?_of_mem (h.mem_iff.mpr (List.mem_of_getElem? hq))
  exact hP i q hi
theorem zD_nd {ws : va_W} : (∀ (i j : Nat) (p q : Nat × va_E), ws[i]? = some p → ws[j]? = some q → p.1 = q.1 → i = j) ↔ (ws.map (fun q => q.1)).Nodup := by
  rw [List.nodup_iff_pairwise_ne, List.pairwise_iff_getElem]
  constructor
  · intro h i j hi hj hij e
    rw [List.length_map] at hi hj
    rw [List.getElem_map, List.getElem_map] at e
    have := h i j _ _ (List.getElem?_eq_getElem hi) (List.getElem?_eq_getElem hj) e
    omega
  · intro h i j p q hi hj e
    obtain ⟨li, ei⟩ := List.getElem?_eq_some_iff.mp hi
    obtain ⟨lj, ej⟩ := List.getElem?_eq_some_iff.mp hj
    rcases Nat.lt_trichotomy i j with g | g | g
    · refine absurd ?_ (h i j (by rw [List.length_map]; exact li) (by rw [List.length_map]; exact lj) g)
      rw [List.getElem_map, List.getElem_map, ei, ej]
      exact e
    · exact g
    · refine absurd ?_ (h j i (by rw [List.length_map]; exact lj) (by rw [List.length_map]; exact li) g)
      rw [List.getElem_map, List.getElem_map, ei, ej]
      exact e.symm
theorem zD_perm {A : Nat → Prop} {ws ws' : va_W} (h : ws.Perm ws') (hD : va_D A ws) : va_D A ws' := by
  refine ⟨zD_nd.mpr ((h.map _).nodup_iff.mp (zD_nd.mp hD.1)), fun k q hq => ?_⟩
  obtain ⟨i, hi⟩ := List.getElem?_of_mem (h.mem_iff.mpr (List.mem_of_getElem? hq))
  exact hD.2 i q hi
theorem zj_perm {E : zE} {nL k n : Nat} {ws ws' : va_W} {pc : Nat} {L : List (Nat × Value)} {st : List Value} (h : ws.Perm ws') (kk : zJ E nL k n ws' pc L st) : zJ E nL k n ws pc L st := fun H locs ls hP hD hS hl => kk H locs ls (zP_perm h hP) (zD_perm h hD) hS hl
def zV {α : Type} : List α → List Nat → List α → List α
  | ws, i :: is, c :: cs => zV (ws.set i c) is cs
  | ws, _, _ => ws
theorem zV_set {α : Type} : ∀ (is : List Nat) (cs Bs : List α) (i : Nat) (v : α), i ∉ is → zV (Bs.set i v) is cs = (zV Bs is cs).set i v
  | [], cs, Bs, i, v, _ => by cases cs <;> rfl
  | j :: is, [], Bs, i, v, _ => rfl
  | j :: is, c :: cs, Bs, i, v, h => by
    show zV ((Bs.set i v).set j c) is cs = (zV (Bs.set j c) is cs).set i v
    rw [List.set_comm _ _ (show i ≠ j from fun e => h (by rw [e]; exact List.mem_cons_self))]
    exact zV_set is cs (Bs.set j c) i v (fun m => h (List.mem_cons_of_mem _ m))
theorem zV_len {α : Type} : ∀ (is : List Nat) (cs Bs : List α), (zV Bs is cs).length = Bs.length
  | [], cs, Bs => by cases cs <;> rfl
  | j :: is, [], Bs => rfl
  | j :: is, c :: cs, Bs => (zV_len is cs (Bs.set j c)).trans List.length_set
theorem zV_perm1 : ∀ (Bs : List va_W) (i : Nat) (v : va_W), i < Bs.length → (Bs.set i v).flatten.Perm (v ++ (Bs.set i []).flatten)
  | [], i, v, h => by simp at h
  | b :: Bs, 0, v, h => List.Perm.refl _
  | b :: Bs, i + 1, v, h => by
    show (b ++ (Bs.set i v).flatten).Perm (v ++ (b ++ (Bs.set i []).flatten))
    exact ((zV_perm1 Bs i v (by simpa using h)).append_left b).trans (List.perm_append_comm_assoc b v _)
theorem zV_perm : ∀ (is : List Nat) (vs Bs : List va_W), is.length = vs.length → (∀ i ∈ is, i < Bs.length) → is.Nodup → (zV Bs is vs).flatten.Perm (vs.flatten ++ (zV Bs is (vs.map (fun _ => []))).flatten)
  | [], [], Bs, _, _, _ => List.Perm.refl _
  | [], v :: vs, Bs, h, _, _ => by simp at h
  | i :: is, [], Bs, h, _, _ => by simp at h
  | i :: is, v :: vs, Bs, h, hb, hn => by
    have hn2 := List.nodup_cons.mp hn
    show (zV (Bs.set i v) is vs).flatten.Perm ((v ++ vs.flatten) ++ (zV (Bs.set i []) is (vs.map (fun _ => []))).flatten)
    refine (zV_perm is vs (Bs.set i v) (by simpa using h) (fun j hj => by rw [List.length_set]; exact hb j (List.mem_cons_of_mem _ hj)) hn2.2).trans ?_
    rw [zV_set _ _ _ _ _ hn2.1, zV_set _ _ _ _ _ hn2.1]
    generalize hX : zV Bs is (vs.map (fun _ => [])) = X
    have hl : i < X.length := by rw [← hX, zV_len]; exact hb i List.mem_cons_self
    refine ((zV_perm1 X i v hl).append_left vs.flatten).trans ?_
    refine (List.perm_append_comm_assoc vs.flatten v _).trans ?_
    rw [List.append_assoc]
theorem zset_self {α : Type} {l : List α} {i : Nat} {v : α} (h : l[i]? = some v) : l.set i v = l := by
  apply List.ext_getElem?
  intro k
  by_cases hk : i = k
  · subst hk
    rw [List.getElem?_set_self (List.getElem?_eq_some_iff.mp h).1, h]
  · rw [List.getElem?_set_ne hk]
theorem zV_self {α : Type} : ∀ (is : List Nat) (cs Bs : List α), is.map (fun i => Bs[i]?) = cs.map some → zV Bs is cs = Bs
  | [], cs, Bs, _ => by cases cs <;> rfl
  | j :: is, [], Bs, _ => rfl
  | j :: is, c :: cs, Bs, h => by
    rw [List.map_cons, List.map_cons, List.cons.injEq] at h
    show zV (Bs.set j c) is cs = Bs
    rw [zset_self h.1]
    exact zV_self is cs Bs h.2
theorem zV_in {α : Type} : ∀ (is : List Nat) (cs Bs : List α), is.map (fun i => Bs[i]?) = cs.map some → ∀ i ∈ is, i < Bs.length
  | [], cs, Bs, _ => fun i h => absurd h List.not_mem_nil
  | j :: is, [], Bs, h => by simp at h
  | j :: is, c :: cs, Bs, h => by
    rw [List.map_cons, List.map_cons, List.cons.injEq] at h
    intro i hi
    rcases List.mem_cons.mp hi with rfl | hi
    · exact (List.getElem?_eq_some_iff.mp h.1).1
    · exact zV_in is cs Bs h.2 i hi
section ZB
variable {l : Launch} {D : va_G} {cc : ByteArray} {own : String} {E : zE} {nL : Nat} {R : Room} {cy : Nat → ClassId} {ws : va_W} {pc : Nat} {L : List (Nat × Value)} {st : List Value}
/-- a call of a callee whose world is some blocks of the caller's -/
theorem zj_callVF (C : zO E cc nL own R cy l D) {y : MethodName} {bytes : ByteArray} {maxL index n0 : Nat} {ret : Option FieldType} {rm : Room} {wc wc' : va_W} {As : List Value} {r : Option Value} {st0 st1 : List Value} {nn : Nat} {b N : Nat} {Cn : String} {T : u_T} {fs : List Value} {Bs Bs' : List va_W} (wcs wcs' : List va_W) (is : List Nat) (q0 ci : Nat)
    (hM : zC l y (zW y bytes maxL ret) rm D cy (.ref b :: As) wc r wc') (hwc : wcs.flatten = wc) (hwc' : wcs'.flatten = wc') (hG : GoodIn zG (wsV own index Cn y (zW y bytes maxL ret))) (hd : y.cls = Cn ∧ y.cls ≠ "java/lang/invoke/MethodHandle" ∧ y.cls ≠ "java/lang/invoke/VarHandle" ∧ (parseMethodDescriptor y.desc).map (fun d => d.parameters.length) = some n0) (hrm : rm.cells = 0 ∧ rm.slots = 0) (hR : rm.frames + 1 ≤ R.frames ∧ 8 + (maxL + 11) + rm.locals ≤ R.locals)
    (hw : wc[q0]? = some (b, .inr (ci, fs))) (hc : vwCl[ci]? = some (Cn, T, N)) (hC : is.map (fun i => Bs[i]?) = wcs.map some) (hnd : is.Nodup) (hlen : wc.length = nn ∧ wc'.length = nn) (hl2 : wcs.length = wcs'.length) (hn : As.length = n0) (hst : st0 = As.reverse ++ .ref b :: st) (hroom : (st.map fun v => v.category).sum ≤ 8)
    (d : decode cc pc = .ok (.invokevirtual index, 3)) (hB : zV Bs is wcs' = Bs') (hs1 : r.toList ++ st = st1) (kk : zJ E nL 0 0 Bs'.flatten (pc + 3) L st1) : zJ E nL 0 0 Bs.flatten pc L st0 := by
  subst hwc
  subst hwc'
  subst hB
  have hlen0 : is.length = wcs.length := by have := congrArg List.length hC; simpa using this
  have hin := zV_in is wcs Bs hC
  have p0 := zV_perm is wcs Bs hlen0 hin hnd
  rw [zV_self is wcs Bs hC] at p0
  have p1 := zV_perm is wcs' Bs (hlen0.trans hl2) hin hnd
  have hnil : wcs.map (fun _ => ([] : va_W)) = wcs'.map (fun _ => ([] : va_W)) := by
    rw [List.map_const', List.map_const', hl2]
  rw [hnil] at p0
  generalize (zV Bs is (wcs'.map (fun _ => ([] : va_W)))).flatten = X at p0 p1
  refine zj_perm p0 ?_
  refine zj_eq (ws' := [] ++ (wcs.flatten ++ X)) rfl rfl rfl rfl ?_
  refine zj_callVB C [] X q0 ci hM hG hd hrm hR (by rw [List.nil_append, List.getElem?_append_left (List.getElem?_eq_some_iff.mp hw).1]; exact hw) hc rfl hlen hn hst hroom d rfl hs1 ?_
  exact zj_perm p1.symm kk
/-- a call of a callee whose world is a block -/
theorem zj_callVF1 (C : zO E cc nL own R cy l D) {y : MethodName} {bytes : ByteArray} {maxL index n0 : Nat} {ret : Option FieldType} {rm : Room} {wc wc' : va_W} {As : List Value} {r : Option Value} {st0 st1 : List Value} {nn : Nat} {b N : Nat} {Cn : String} {T : u_T} {fs : List Value} {Bs Bs' : List va_W} (i q0 ci : Nat)
    (hM : zC l y (zW y bytes maxL ret) rm D cy (.ref b :: As) wc r wc') (hG : GoodIn zG (wsV own index Cn y (zW y bytes maxL ret))) (hd : y.cls = Cn ∧ y.cls ≠ "java/lang/invoke/MethodHandle" ∧ y.cls ≠ "java/lang/invoke/VarHandle" ∧ (parseMethodDescriptor y.desc).map (fun d => d.parameters.length) = some n0) (hrm : rm.cells = 0 ∧ rm.slots = 0) (hR : rm.frames + 1 ≤ R.frames ∧ 8 + (maxL + 11) + rm.locals ≤ R.locals)
    (hw : wc[q0]? = some (b, .inr (ci, fs))) (hc : vwCl[ci]? = some (Cn, T, N)) (hC : Bs[i]? = some wc) (hlen : wc.length = nn ∧ wc'.length = nn) (hn : As.length = n0) (hst : st0 = As.reverse ++ .ref b :: st) (hroom : (st.map fun v => v.category).sum ≤ 8)
    (d : decode cc pc = .ok (.invokevirtual index, 3)) (hB : Bs.set i wc' = Bs') (hs1 : r.toList ++ st = st1) (kk : zJ E nL 0 0 Bs'.flatten (pc + 3) L st1) : zJ E nL 0 0 Bs.flatten pc L st0 :=
  zj_callVF C [wc] [wc'] [i] q0 ci hM (List.append_nil _) (List.append_nil _) hG hd hrm hR hw hc (by rw [List.map_cons, hC]; rfl) (List.nodup_cons.mpr ⟨List.not_mem_nil, List.nodup_nil⟩) hlen rfl hn hst hroom d hB hs1 kk
theorem zS_app : ∀ (is : List Nat) (cs w X : va_W), (∀ i ∈ is, i < w.length) → zS (w ++ X) is cs = zS w is cs ++ X
  | [], cs, w, X, _ => by cases cs <;> rfl
  | i :: is, [], w, X, _ => rfl
  | i :: is, c :: cs, w, X, h => by
    show zS ((w ++ X).set i c) is cs = zS (w.set i c) is cs ++ X
    rw [List.set_append_left _ _ (h i List.mem_cons_self)]
    exact zS_app is cs (w.set i c) X (fun j hj => by rw [List.length_set]; exact h j (List.mem_cons_of_mem _ hj))
theorem zS_len : ∀ (is : List Nat) (cs w : va_W), (zS w is cs).length = w.length
  | [], cs, Bs => by cases cs <;> rfl
  | j :: is, [], Bs => rfl
  | j :: is, c :: cs, Bs => (zS_len is cs (Bs.set j c)).trans List.length_set
/-- a call of a callee whose cells are some places of one block -/
theorem zj_callVP (C : zO E cc nL own R cy l D) {y : MethodName} {bytes : ByteArray} {maxL index n0 : Nat} {ret : Option FieldType} {rm : Room} {wc wc' w w' : va_W} {As : List Value} {r : Option Value} {st0 st1 : List Value} {nn : Nat} {b N : Nat} {Cn : String} {T : u_T} {fs : List Value} {Bs Bs' : List va_W} (i : Nat) (isC : List Nat) (q0 ci : Nat)
    (hM : zC l y (zW y bytes maxL ret) rm D cy (.ref b :: As) wc r wc') (hG : GoodIn zG (wsV own index Cn y (zW y bytes maxL ret))) (hd : y.cls = Cn ∧ y.cls ≠ "java/lang/invoke/MethodHandle" ∧ y.cls ≠ "java/lang/invoke/VarHandle" ∧ (parseMethodDescriptor y.desc).map (fun d => d.parameters.length) = some n0) (hrm : rm.cells = 0 ∧ rm.slots = 0) (hR : rm.frames + 1 ≤ R.frames ∧ 8 + (maxL + 11) + rm.locals ≤ R.locals)
    (hw : w[q0]? = some (b, .inr (ci, fs))) (hc : vwCl[ci]? = some (Cn, T, N)) (hi : Bs[i]? = some w) (hC : isC.map (fun i => w[i]?) = wc.map some) (hnd : va_nd isC = true) (hlen : wc.length = nn ∧ wc'.length = nn) (hn : As.length = n0) (hst : st0 = As.reverse ++ .ref b :: st) (hroom : (st.map fun v => v.category).sum ≤ 8)
    (d : decode cc pc = .ok (.invokevirtual index, 3)) (hw' : zS w isC wc' = w') (hB : Bs.set i w' = Bs') (hs1 : r.toList ++ st = st1) (kk : zJ E nL 0 0 Bs'.flatten (pc + 3) L st1) : zJ E nL 0 0 Bs.flatten pc L st0 := by
  subst hw'
  subst hB
  have hil := (List.getElem?_eq_some_iff.mp hi).1
  have p0 := zV_perm1 Bs i w hil
  rw [zset_self hi] at p0
  have p1 := zV_perm1 Bs i (zS w isC wc') hil
  have hin : ∀ j ∈ isC, j < w.length := by
    intro j hj
    have h1 : w[j]? ∈ isC.map (fun i => w[i]?) := List.mem_map.mpr ⟨j, hj, rfl⟩
    rw [hC] at h1
    obtain ⟨v, -, hv⟩ := List.mem_map.mp h1
    exact (List.getElem?_eq_some_iff.mp hv.symm).1
  generalize (Bs.set i []).flatten = X at p0 p1
  refine zj_perm p0 ?_
  refine zj_callV C q0 ci isC hM hG hd hrm hR (by rw [List.getElem?_append_left (List.getElem?_eq_some_iff.mp hw).1]; exact hw) hc ?_ hnd hlen hn hst hroom d (zS_app isC wc' w X hin) hs1 ?_
  · rw [← hC]
    apply List.map_congr_left
    intro j hj
    rw [List.getElem?_append_left (hin j hj)]
  · exact zj_perm p1.symm kk
end ZB
abbrev WX0 (x0 x1 x2 : Nat) (a b : Nat → Nat) (d0 p0 h0 : Nat) : va_W := [(x0, .inr (7, [.ref (a 0), .ref (b 0), .ref d0, .ref p0, .ref h0, .ref x1, .ref x2]))]
abbrev WX1 (cy : Nat → ClassId) (x1 : Nat) (sl : Nat → Nat → Nat) : va_W := [(x1, .inl (cy 5, 2, .inr (.inr (.inr (.inr (fun k => some (sl k 0)))))))]
abbrev WX2 (cy : Nat → ClassId) (x2 : Nat) (sv : Nat → Int32) : va_W := [(x2, .inl (cy 3, 2, .inl sv))]
abbrev WHo (cy : Nat → ClassId) (h0 h1 : Nat) (hs : Nat → Nat → Nat) (f c : Nat) : va_W := [(h0, .inr (1, [.ref h1, .int (nI f), .int (nI c)])), (h1, .inl (cy 5, 7, .inr (.inr (.inr (.inr (fun k => some (hs k 0)))))))]
abbrev WHL (cy : Nat → ClassId) (hs : Nat → Nat → Nat) (st : Nat → zTr) : List va_W := [WT cy (hs 0) (st 0), WT cy (hs 1) (st 1), WT cy (hs 2) (st 2), WT cy (hs 3) (st 3), WT cy (hs 4) (st 4), WT cy (hs 5) (st 5), WT cy (hs 6) (st 6)]
abbrev WSL (cy : Nat → ClassId) (sl : Nat → Nat → Nat) (st : Nat → zTr) : List va_W := [WT cy (sl 0) (st 0), WT cy (sl 1) (st 1)]
/-! two trusts -/
theorem WTT_h {cy : Nat → ClassId} {a b : Nat → Nat} {t u : zTr} {h : Nat} (hh : h < 6) : ([WT cy a t, WT cy b u] : List va_W).flatten[12 + h]? = some (a (12 + h), .inr (2, vHd (gTr_hd t h))) := by
  rcases (show h = 0 ∨ h = 1 ∨ h = 2 ∨ h = 3 ∨ h = 4 ∨ h = 5 by omega) with rfl | rfl | rfl | rfl | rfl | rfl <;> rfl
theorem WTT_hC {cy : Nat → ClassId} {a b : Nat → Nat} {t u : zTr} {h : Nat} (hh : h < 6) : ([12 + h, 18 + (12 + h)] : List Nat).map (fun i => ([WT cy a t, WT cy b u] : List va_W).flatten[i]?) = (WH (a (12 + h)) (gTr_hd t h) ++ WH (b (12 + h)) (gTr_hd u h)).map some := by
  rcases (show h = 0 ∨ h = 1 ∨ h = 2 ∨ h = 3 ∨ h = 4 ∨ h = 5 by omega) with rfl | rfl | rfl | rfl | rfl | rfl <;> rfl
theorem WTT_set {cy : Nat → ClassId} {a b : Nat → Nat} {t u : zTr} {h : Nat} (x : zHd) (hh : h < 6) : zS ([WT cy a t, WT cy b u] : List va_W).flatten [12 + h, 18 + (12 + h)] (WH (a (12 + h)) x ++ WH (b (12 + h)) (gTr_hd u h)) = ([WT cy a (sTr_hd t (zup (gTr_hd t) h x)), WT cy b u] : List va_W).flatten := by
  rcases (show h = 0 ∨ h = 1 ∨ h = 2 ∨ h = 3 ∨ h = 4 ∨ h = 5 by omega) with rfl | rfl | rfl | rfl | rfl | rfl <;> rfl
theorem WTT_nd (h : Nat) : va_nd [12 + h, 18 + (12 + h)] = true := va_nd_of _ (List.nodup_cons.mpr ⟨fun q => (by have := List.mem_singleton.mp q; omega), List.nodup_cons.mpr ⟨List.not_mem_nil, List.nodup_nil⟩⟩)
theorem WHL_hC {X Y : va_W} {cy : Nat → ClassId} {hs : Nat → Nat → Nat} {st : Nat → zTr} {i : Nat} (hi : i < 7) : ([2 + i, 1] : List Nat).map (fun k => (([X, Y] : List va_W) ++ WHL cy hs st)[k]?) = ([WT cy (hs i) (st i), Y] : List va_W).map some := by
  rcases (show i = 0 ∨ i = 1 ∨ i = 2 ∨ i = 3 ∨ i = 4 ∨ i = 5 ∨ i = 6 by omega) with rfl | rfl | rfl | rfl | rfl | rfl | rfl <;> rfl
theorem WHL_set {X Y : va_W} {cy : Nat → ClassId} {hs : Nat → Nat → Nat} {st : Nat → zTr} {i : Nat} (t : zTr) (hi : i < 7) : zV (([X, Y] : List va_W) ++ WHL cy hs st) [2 + i, 1] [WT cy (hs i) t, Y] = ([X, Y] : List va_W) ++ WHL cy hs (zup st i t) := by
  rcases (show i = 0 ∨ i = 1 ∨ i = 2 ∨ i = 3 ∨ i = 4 ∨ i = 5 ∨ i = 6 by omega) with rfl | rfl | rfl | rfl | rfl | rfl | rfl <;> rfl
theorem WHL_hC2 {X Y : va_W} {cy : Nat → ClassId} {hs : Nat → Nat → Nat} {st : Nat → zTr} {i : Nat} (hi : i < 7) : ([1, 2 + i] : List Nat).map (fun k => (([X, Y] : List va_W) ++ WHL cy hs st)[k]?) = ([Y, WT cy (hs i) (st i)] : List va_W).map some := by
  rcases (show i = 0 ∨ i = 1 ∨ i = 2 ∨ i = 3 ∨ i = 4 ∨ i = 5 ∨ i = 6 by omega) with rfl | rfl | rfl | rfl | rfl | rfl | rfl <;> rfl
theorem WHL_set2 {X Y : va_W} {cy : Nat → ClassId} {hs : Nat → Nat → Nat} {st : Nat → zTr} {i : Nat} (Y' : va_W) (hi : i < 7) : zV (([X, Y] : List va_W) ++ WHL cy hs st) [1, 2 + i] [Y', WT cy (hs i) (st i)] = ([X, Y'] : List va_W) ++ WHL cy hs st := by
  rcases (show i = 0 ∨ i = 1 ∨ i = 2 ∨ i = 3 ∨ i = 4 ∨ i = 5 ∨ i = 6 by omega) with rfl | rfl | rfl | rfl | rfl | rfl | rfl <;> rfl
theorem znd2 {i j : Nat} (h : i ≠ j) : ([i, j] : List Nat).Nodup := List.nodup_cons.mpr ⟨fun q => h (List.mem_singleton.mp q), List.nodup_cons.mpr ⟨List.not_mem_nil, List.nodup_nil⟩⟩
