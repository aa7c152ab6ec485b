/-! exits and fair swings. Written by wip/p26/law17.py -/
/-- days alike end alike -/
theorem end_TE {D c D' c' : Int} {T V : zTr} (h : TE T V) (hT : GI D c T) (hV : GI D' c' V) (hD : D + 1 ≤ 100000) (hD' : D' + 1 ≤ 100000) (x x' : zDd) : TE (runR x T) (runR x' V) := by
  obtain ⟨f1, -, -, e1, -⟩ := run_parts hT x hD
  obtain ⟨f2, -, -, e2, -⟩ := run_parts hV x' hD'
  have hR : RTr V (gMs_at (sA (aOf V))) := GI_RTr hV
  have hR2 : RTr T (gMs_at (sA (aOf V))) := TE_RTr h hR
  have hT2 : GI D' c' T := TE_GI h hV
  have o1 := (end_op (S := sA (aOf V)) x true hT2.1 (by omega) (GI_hg hT2) hR2).1
  have o2 := (end_op (S := sA (aOf V)) x' true hV.1 (by omega) (GI_hg hV) hR).1
  have r := (opR_TE h o1 o2 (fun _ => Or.inr ⟨by rw [f1]; exact e1, by rw [f2]; exact e2⟩)).2
  rw [f1, f2] at r
  exact r
/-- the trial's days, one by one -/
noncomputable def trV (x : zDd) (V : zTr) : Nat → zDd × zTr
  | 0 => (x, V)
  | n + 1 => ((f_X0_run (trV x V n).1 (trV x V n).2).2.1, (f_X0_run (trV x V n).1 (trV x V n).2).2.2)
theorem trV_s (x : zDd) (V : zTr) (n : Nat) : trV x V (n + 1) = ((f_X0_run (trV x V n).1 (trV x V n).2).2.1, (f_X0_run (trV x V n).1 (trV x V n).2).2.2) := rfl
theorem trV_GI {D c : Int} {V : zTr} (h : GI D c V) (x : zDd) : ∀ n : Nat, D + n ≤ 100000 → GI (D + n) c (trV x V n).2 := by
  intro n
  induction n with
  | zero => intro _; have e : D + ((0 : Nat) : Int) = D := by omega
            rw [e]; exact h
  | succ n ih =>
    intro hn
    have hG := ih (by omega)
    obtain ⟨f, -, g, -⟩ := run_parts hG (trV x V n).1 (by omega)
    rw [trV_s, f]
    have e : D + ((n + 1 : Nat) : Int) = D + n + 1 := by omega
    rw [e]
    exact g
/-- what an exit asks: the days until nobody waits -/
def ES (x : zDd) (V : zTr) (i : Nat) (r : Int) : Prop := (∃ n : Nat, n ≤ 60 ∧ (∀ j, j < n → hS (gTr_le (trV x V j).2) i ≠ 0) ∧ hS (gTr_le (trV x V n).2) i = 0 ∧ r = n) ∨ ((∀ j, j ≤ 60 → hS (gTr_le (trV x V j).2) i ≠ 0) ∧ r = -6)
theorem ES_0 {x : zDd} {V : zTr} {i : Nat} {r : Int} (h : ES x V i r) {n : Nat} (hn : n ≤ 60) (h1 : ∀ j, j < n → hS (gTr_le (trV x V j).2) i ≠ 0) (h2 : hS (gTr_le (trV x V n).2) i = 0) : r = n := by
  rcases h with ⟨k, k1, k2, k3, rfl⟩ | ⟨k1, -⟩
  · have : k = n := by
      rcases Nat.lt_trichotomy k n with g | g | g
      · exact absurd k3 (h1 k g)
      · exact g
      · exact absurd h2 (k2 n g)
    rw [this]
  · exact absurd h2 (k1 n hn)
theorem ES_6 {x : zDd} {V : zTr} {i : Nat} {r : Int} (h : ES x V i r) (h1 : ∀ j, j ≤ 60 → hS (gTr_le (trV x V j).2) i ≠ 0) : r = -6 := by
  rcases h with ⟨k, k1, k2, k3, -⟩ | ⟨-, k2⟩
  · exact absurd k3 (h1 k k1)
  · exact k2
theorem exit_l {D c : Int} {V : zTr} (h : GI D c V) (hD : D + 61 ≤ 100000) {i : Nat} (hi : i < 6) (x : zDd) (b : Bool) (T0 : zTr) : ∀ m k : Nat, k + m = 61 → (∀ j, j < k → hS (gTr_le (trV x V j).2) i ≠ 0) → ∃ (U' : zTr) (x' : zDd), (∃ n : Nat, n ≤ 60 ∧ (∀ j, j < n → hS (gTr_le (trV x V j).2) i ≠ 0) ∧ hS (gTr_le (trV x V n).2) i = 0 ∧ L_X7_exit (jI (i : Int)) b T0 (m + 1) (trV x V k).1 (trV x V k).2 k = (true, nI n, x', U', n)) ∨ ((∀ j, j ≤ 60 → hS (gTr_le (trV x V j).2) i ≠ 0) ∧ L_X7_exit (jI (i : Int)) b T0 (m + 1) (trV x V k).1 (trV x V k).2 k = (false, 0, x', U', 61)) := by
  intro m
  induction m with
  | zero =>
    intro k hk hj
    have e : k = 61 := by omega
    subst e
    refine ⟨(trV x V 61).2, (trV x V 61).1, Or.inr ⟨fun j hj2 => hj j (by omega), ?_⟩⟩
    rw [L_X7_exit_s, if_pos (by decide)]
  | succ m ih =>
    intro k hk hj
    have hV := trV_GI h x k (by omega)
    by_cases g : hS (gTr_le (trV x V k).2) i = 0
    · refine ⟨(trV x V k).2, (trV x V k).1, Or.inl ⟨k, by omega, hj, g, ?_⟩⟩
      rw [L_X7_exit_s, if_neg (by omega)]
      dsimp only
      rw [if_pos ((su0_z hV).mpr g)]
    · obtain ⟨U', x', q⟩ := ih (k + 1) (by omega) (fun j hj2 => by
        by_cases e : j = k
        · rw [e]; exact g
        · exact hj j (by omega))
      refine ⟨U', x', ?_⟩
      rw [L_X7_exit_s, if_neg (by omega)]
      dsimp only
      rw [if_neg (fun z => g ((su0_z hV).mp z))]
      rw [trV_s] at q
      exact q
theorem exit_sp {D c : Int} {T : zTr} (h : GI D c T) (hD : D + 61 ≤ 100000) {i : Nat} (hi : i < 6) (U : zTr) (x : zDd) : ∃ (r : Int) (U' : zTr) (x' : zDd), f_X7_exitIn T U x (jI (i : Int)) = (jI r, U', x') ∧ ES x (f_X6_become U T) i r ∧ -6 ≤ r ∧ r ≤ 60 := by
  have hV : GI D c (f_X6_become U T) := TE_GI (become_TE U T) h
  have e0 : f_X7_exitIn T U x (jI (i : Int)) = (if (L_X7_exit (jI (i : Int)) true (f_X6_become U T) (61 + 1) x (f_X6_become U T) 0).1 = true then ((L_X7_exit (jI (i : Int)) true (f_X6_become U T) (61 + 1) x (f_X6_become U T) 0).2.1, (L_X7_exit (jI (i : Int)) true (f_X6_become U T) (61 + 1) x (f_X6_become U T) 0).2.2.2.1, (L_X7_exit (jI (i : Int)) true (f_X6_become U T) (61 + 1) x (f_X6_become U T) 0).2.2.1) else ((-6), (L_X7_exit (jI (i : Int)) true (f_X6_become U T) (61 + 1) x (f_X6_become U T) 0).2.2.2.1, (L_X7_exit (jI (i : Int)) true (f_X6_become U T) (61 + 1) x (f_X6_become U T) 0).2.2.1)) := by
    unfold f_X7_exitIn
    rw [zsl_e]
    rw [isH hi]
    dsimp only
    rw [if_neg (by decide)]
  obtain ⟨U', x', q⟩ := exit_l hV hD hi x true (f_X6_become U T) 61 0 rfl (fun j hj => absurd hj (Nat.not_lt_zero j))
  rw [show (trV x (f_X6_become U T) 0).1 = x from rfl, show (trV x (f_X6_become U T) 0).2 = f_X6_become U T from rfl] at q
  rcases q with ⟨n, n1, n2, n3, e⟩ | ⟨n1, e⟩
  · refine ⟨n, U', x', ?_, Or.inl ⟨n, n1, n2, n3, rfl⟩, by omega, by omega⟩
    rw [e0, e, if_pos rfl, ← jI_n]
  · refine ⟨-6, U', x', ?_, Or.inr ⟨n1, rfl⟩, by omega, by omega⟩
    rw [e0, e, if_neg (fun q => by cases q)]; rfl
/-- with another swing -/
noncomputable def setT (T : zTr) (k : Nat) : zTr := sTr_st T (upd (gTr_st T) 2 (jI (k : Int)))
theorem setT_GI {D c : Int} {T : zTr} (h : GI D c T) {k : Nat} (hk : k ≤ 100) : f_X6_changeSetting T (jI 2) (jI (k : Int)) = (jI (sI T 2), setT T k) ∧ GI D c (setT T k) := by
  have z : (zGi 2).toInt = 100 := rfl
  obtain ⟨a, b, -⟩ := set_sp h (k := 2) (by decide) (v := (k : Int)) ⟨by omega, by omega⟩
  exact ⟨a, b⟩
theorem setT_TE {T V : zTr} (h : TE T V) (k : Nat) : TE (setT T k) (setT V k) := by
  obtain ⟨h1, h2, h3, h4, h5, h6, h7, h8, h9, h10, h11⟩ := h
  refine ⟨h1, h2, h3, h4, h5, h6, fun j hj => ?_, h8, h9, h10, h11⟩
  show upd (gTr_st T) 2 (jI (k : Int)) j = upd (gTr_st V) 2 (jI (k : Int)) j
  rw [upd_at, upd_at]
  by_cases e : j = 2
  · rw [if_pos e, if_pos e]
  · rw [if_neg e, if_neg e, h7 j hj]
/-- the middle price after a day with another swing -/
noncomputable def fM (T : zTr) (k : Nat) : Int := mI (runR (0, 0, 0, 0, 0, 0, fun _ => 0) (setT T k))
theorem fM_e {D c D' c' : Int} {T V : zTr} (h : TE T V) (hT : GI D c T) (hV : GI D' c' V) (hD : D + 1 ≤ 100000) (hD' : D' + 1 ≤ 100000) {k : Nat} (hk : k ≤ 100) (x : zDd) : mI (runR x (setT T k)) = fM V k := (TE_v (end_TE (setT_TE h k) (setT_GI hT hk).2 (setT_GI hV hk).2 hD hD' x _)).2.2.2.2.2.2.2.2.2.2.2.2.2.1
def FS (T : zTr) (r : Int) : Prop := (∃ n : Nat, n ≤ 100 ∧ (∀ j, j < n → fM T j < mI T) ∧ ¬ fM T n < mI T ∧ r = n) ∨ ((∀ j, j ≤ 100 → fM T j < mI T) ∧ r = -6)
theorem FS_0 {T : zTr} {r : Int} (h : FS T r) {n : Nat} (hn : n ≤ 100) (h1 : ∀ j, j < n → fM T j < mI T) (h2 : ¬ fM T n < mI T) : r = n := by
  rcases h with ⟨k, k1, k2, k3, rfl⟩ | ⟨k1, -⟩
  · have : k = n := by
      rcases Nat.lt_trichotomy k n with g | g | g
      · exact absurd (h1 k g) k3
      · exact g
      · exact absurd (k2 n g) h2
    rw [this]
  · exact absurd (k1 n hn) h2
theorem FS_6 {T : zTr} {r : Int} (h : FS T r) (h1 : ∀ j, j ≤ 100 → fM T j < mI T) : r = -6 := by
  rcases h with ⟨k, k1, k2, k3, -⟩ | ⟨-, k2⟩
  · exact absurd (h1 k k1) k3
  · exact k2
theorem fair_V {D c : Int} {T : zTr} (h : GI D c T) (U : zTr) {k : Nat} (hk : k ≤ 100) : GI D c (sTr_st (f_X6_become U T) (upd (gTr_st (f_X6_become U T)) 2 (nI k))) ∧ TE (sTr_st (f_X6_become U T) (upd (gTr_st (f_X6_become U T)) 2 (nI k))) (setT T k) := by
  have e : sTr_st (f_X6_become U T) (upd (gTr_st (f_X6_become U T)) 2 (nI k)) = setT (f_X6_become U T) k := by unfold setT; rw [jI_n]
  rw [e]
  have g := setT_TE (become_TE U T) k
  exact ⟨TE_GI g (setT_GI h hk).2, g⟩
theorem fair_l {D c : Int} {T : zTr} (h : GI D c T) (hD : D + 1 ≤ 100000) : ∀ (m k : Nat) (x : zDd) (U : zTr), k + m = 101 → (∀ j, j < k → fM T j < mI T) → ∃ (U' : zTr) (x' : zDd), (∃ n : Nat, n ≤ 100 ∧ (∀ j, j < n → fM T j < mI T) ∧ ¬ fM T n < mI T ∧ L_X7_fair T (f_X6_middle T) (m + 1) x U k = (true, nI n, x', U', n)) ∨ ((∀ j, j ≤ 100 → fM T j < mI T) ∧ L_X7_fair T (f_X6_middle T) (m + 1) x U k = (false, 0, x', U', 101)) := by
  intro m
  induction m with
  | zero =>
    intro k x U hk hj
    have e : k = 101 := by omega
    subst e
    refine ⟨U, x, Or.inr ⟨fun j hj2 => hj j (by omega), ?_⟩⟩
    rw [L_X7_fair_s, if_pos (by decide)]
  | succ m ih =>
    intro k x U hk hj
    obtain ⟨hV, hTE⟩ := fair_V h U (k := k) (by omega)
    obtain ⟨f, -, g, -⟩ := run_parts hV x hD
    have em : mI (runR x (sTr_st (f_X6_become U T) (upd (gTr_st (f_X6_become U T)) 2 (nI k)))) = fM T k := (TE_v (end_TE hTE hV (setT_GI h (k := k) (by omega)).2 hD hD x _)).2.2.2.2.2.2.2.2.2.2.2.2.2.1
    have m1 := middle_int g.1.1
    have m2 := middle_int h.1.1
    rw [em] at m1
    have hc : f_X6_middle (runR x (sTr_st (f_X6_become U T) (upd (gTr_st (f_X6_become U T)) 2 (nI k)))) < f_X6_middle T ↔ fM T k < mI T := by rw [i64_lt_iff, m1, m2]
    by_cases c : fM T k < mI T
    · obtain ⟨U', x', q⟩ := ih (k + 1) (runX x (sTr_st (f_X6_become U T) (upd (gTr_st (f_X6_become U T)) 2 (nI k)))) (runR x (sTr_st (f_X6_become U T) (upd (gTr_st (f_X6_become U T)) 2 (nI k)))) (by omega) (fun j hj2 => by
        by_cases e : j = k
        · rw [e]; exact c
        · exact hj j (by omega))
      refine ⟨U', x', ?_⟩
      rw [L_X7_fair_s, if_neg (by omega)]
      dsimp only
      rw [f]
      dsimp only
      rw [if_pos (hc.mpr c)]
      exact q
    · refine ⟨runR x (sTr_st (f_X6_become U T) (upd (gTr_st (f_X6_become U T)) 2 (nI k))), runX x (sTr_st (f_X6_become U T) (upd (gTr_st (f_X6_become U T)) 2 (nI k))), Or.inl ⟨k, by omega, hj, c, ?_⟩⟩
      rw [L_X7_fair_s, if_neg (by omega)]
      dsimp only
      rw [f]
      dsimp only
      rw [if_neg (fun z => c (hc.mp z))]
theorem fair_sp {D c : Int} {T : zTr} (h : GI D c T) (hD : D + 1 ≤ 100000) (U : zTr) (x : zDd) : ∃ (r : Int) (U' : zTr) (x' : zDd), f_X7_fairSwing T U x = (jI r, U', x') ∧ FS T r ∧ -6 ≤ r ∧ r ≤ 100 := by
  obtain ⟨U', x', q⟩ := fair_l h hD 101 0 x U rfl (fun j hj => absurd hj (Nat.not_lt_zero j))
  have e0 : f_X7_fairSwing T U x = (if (L_X7_fair T (f_X6_middle T) (101 + 1) x U 0).1 = true then ((L_X7_fair T (f_X6_middle T) (101 + 1) x U 0).2.1, (L_X7_fair T (f_X6_middle T) (101 + 1) x U 0).2.2.2.1, (L_X7_fair T (f_X6_middle T) (101 + 1) x U 0).2.2.1) else ((-6), (L_X7_fair T (f_X6_middle T) (101 + 1) x U 0).2.2.2.1, (L_X7_fair T (f_X6_middle T) (101 + 1) x U 0).2.2.1)) := by
    unfold f_X7_fairSwing
    rw [zsl_e]
  rcases q with ⟨n, n1, n2, n3, e⟩ | ⟨n1, e⟩
  · refine ⟨n, U', x', ?_, Or.inl ⟨n, n1, n2, n3, rfl⟩, by omega, by omega⟩
    rw [e0, e, if_pos rfl, ← jI_n]
  · refine ⟨-6, U', x', ?_, Or.inr ⟨n1, rfl⟩, by omega, by omega⟩
    rw [e0, e, if_neg (fun q => by cases q)]; rfl
theorem fair_hP {D c : Int} {T : zTr} (h : GI D c T) : ∀ (V : zTr) (k : Nat), k ≤ 100 → okT (sTr_st (f_X6_become V T) (upd (gTr_st (f_X6_become V T)) 2 (nI k))) := fun V _ hk => Inv_ok (fair_V h V hk).1.1
