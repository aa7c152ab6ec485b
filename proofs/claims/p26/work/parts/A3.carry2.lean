/-! whole texts, carried out on both sides -/
theorem recd_ex (Y : zMs) (k : Nat) : ∃ z : zPd, recd z Y k := by
  refine ⟨((0, fun _ => 0, 0, 0, 0, 0, 0) : zPd) |> fun z => sPd_hr (sPd_nu (sPd_ho (sPd_kd z (gMs_so Y k)) (gMs_nu Y (3 * k))) (if gMs_so Y k = nI 105 ∨ gMs_so Y k = nI 113 then gMs_nu Y (3 * k) else gMs_nu Y (3 * k + 1))) (gMs_nu Y (3 * k + 2)), rfl, fun q => ⟨rfl, ?_, rfl⟩, fun q => ?_⟩
  · have q' : gMs_so Y k = nI 98 ∨ gMs_so Y k = nI 108 := q
    show gMs_nu Y (3 * k + 1) = if gMs_so Y k = nI 105 ∨ gMs_so Y k = nI 113 then gMs_nu Y (3 * k) else gMs_nu Y (3 * k + 1)
    rw [if_neg]
    rcases q' with e | e <;> rw [e] <;> decide
  · have q' : gMs_so Y k = nI 105 ∨ gMs_so Y k = nI 113 := q
    show gMs_nu Y (3 * k) = if gMs_so Y k = nI 105 ∨ gMs_so Y k = nI 113 then gMs_nu Y (3 * k) else gMs_nu Y (3 * k + 1)
    rw [if_pos q']
theorem recd_ex2 (z : zPd) (A : Nat → Int64) : ∃ Y : zMs, gMs_at Y = A ∧ recd z Y 0 := by
  have S0 : zMs := (fun _ => 0, fun _ => 0, 0, 0, fun _ => 0, fun _ => 0, fun _ => 0, fun _ => 0, fun _ => 0, 0, 0, false, 0, fun _ => 0, fun _ => 0)
  refine ⟨sMs_at (sMs_so (sMs_nu S0 (fun i => if i = 0 then (if gPd_kd z = nI 105 ∨ gPd_kd z = nI 113 then gPd_nu z else gPd_ho z) else if i = 1 then gPd_nu z else gPd_hr z)) (fun _ => gPd_kd z)) A, rfl, rfl, fun q => ⟨?_, rfl, rfl⟩, fun q => ?_⟩
  · show (if gPd_kd z = nI 105 ∨ gPd_kd z = nI 113 then gPd_nu z else gPd_ho z) = gPd_ho z
    rw [if_neg]
    rcases q with e | e <;> rw [e] <;> decide
  · show (if gPd_kd z = nI 105 ∨ gPd_kd z = nI 113 then gPd_nu z else gPd_ho z) = gPd_nu z
    rw [if_pos q]
theorem buy_far (S : zMs) (h a hour : Int32) (b : Bool) (ha : 1000000 < a.toInt) : (f_X8_tryBuy S h a hour b).1.toInt < 0 := by
  unfold f_X8_tryBuy
  rw [zsl_e]
  have hin : f_X8_in a.toInt64 1 1000000 = false := by
    rw [in_false, i32_l]
    have z : (1000000 : Int64).toInt = 1000000 := rfl
    rw [z]
    omega
  by_cases c : f_X8_isHolder h = false
  · rw [if_pos c]; exact (show (-1 : Int32).toInt < 0 by decide)
  · rw [if_neg c, if_pos hin]; exact (show (-2 : Int32).toInt < 0 by decide)
theorem income_far (S : zMs) (a : Int32) (b : Bool) (ha : 1000000 < a.toInt) : (f_X8_tryIncome S a b).1.toInt < 0 := by
  unfold f_X8_tryIncome
  rw [zsl_e]
  have hin : f_X8_in a.toInt64 1 1000000 = false := by
    rw [in_false, i32_l]
    have z : (1000000 : Int64).toInt = 1000000 := rfl
    rw [z]
    omega
  rw [if_pos hin]; exact (show (-2 : Int32).toInt < 0 by decide)
theorem carry_crude {D : Int} {T : zTr} {Y : zMs} {z : zPd} {k : Nat} (x : zDd) (hI : Inv D T) (hD : D ≤ 2000000000) (hg : gP 50000 T ≤ 10700000000) (hR : RTr T (gMs_at Y)) (hr : recd z Y k) : opR (D + 1) T Y false ((f_X7_carryOutOrder T x z).1, (f_X7_carryOutOrder T x z).2.1) (f_X8_carry Y k) 20000000 5000000 := by
  have hop := carry_op x hI hD hg hR hr
  by_cases c : aMt z ≤ 5000000
  · exact opR_mono hop (Int.le_refl _) c
  · have hneg : (f_X8_carry Y k).1.toInt < 0 := by
      obtain ⟨r1, r2, r3⟩ := hr
      unfold aMt at c
      by_cases c1 : gPd_kd z = nI 98
      · obtain ⟨n1, n2, n3⟩ := r2 (Or.inl c1)
        rw [if_pos (Or.inl c1)] at c
        unfold f_X8_carry
        rw [zsl_e, r1, if_pos c1, n1, n2, n3]
        refine buy_far _ _ _ _ _ ?_
        split at c <;> omega
      · by_cases c2 : gPd_kd z = nI 105
        · have n1 := r3 (Or.inl c2)
          rw [if_pos (Or.inr c2)] at c
          unfold f_X8_carry
          rw [zsl_e, r1, if_neg c1, if_neg (by rw [c2]; decide), if_pos c2, n1]
          refine income_far _ _ _ ?_
          split at c <;> omega
        · rw [if_neg (fun q => q.elim c1 c2)] at c
          omega
    obtain ⟨h1, h2⟩ := hop
    refine ⟨h1, ?_⟩
    rcases h2 with h2 | h2
    · exact Or.inl h2
    · have h3 := h2.1
      rw [h1] at h3
      omega
section texts
variable {c : Nat} {T : zTr} {z : zPd} {y : zHs} {s : zSl} {S : zMs}
theorem carryOut_P7 (hc : c ≤ 512) (h : FR c T z y s S) (x : zDd) : ∃ P : zDd → zTr → zPd → Prop, P x T (f_X5_start (f_X5_findFault z).2) ∧ ∀ X T Z, P X T Z → okT T ∧ ((f_X5_readOrder Z).1 = true → P (f_X7_carryOutOrder T X (f_X5_readOrder Z).2).2.2 (f_X7_carryOutOrder T X (f_X5_readOrder Z).2).2.1 (f_X5_skip (f_X5_readOrder Z).2 (nI 59)).2) := by
  have hx := xff h.2.2.2.2.1 h.2.2.2.2.2.2
  refine ⟨fun _ T Z => ∃ A : Nat → Int64, RTr T A ∧ Inv (100 * (c : Int) + (gPd_at Z : Int)) T ∧ gP 50000 T ≤ 10300000000 + 5000000 * (gPd_at Z : Int) ∧ zpd Z, ⟨gMs_at S, h.1.1, Inv_mono ?_ h.1.2.1, ?_, ?_, Nat.zero_le _, ?_⟩, fun X T Z ⟨A, hR, hI, hg, hz⟩ => ⟨Inv_ok hI, fun hr => ?_⟩⟩
  · show 100 * (c : Int) ≤ 100 * (c : Int) + ((0 : Nat) : Int)
    omega
  · have := FR_g h hc
    show gP 50000 T ≤ 10300000000 + 5000000 * ((0 : Nat) : Int)
    omega
  · show gPd_n (f_X5_findFault z).2 ≤ 80
    rw [hx.1]; exact h.2.2.2.2.1
  · show ∀ i, zch (gPd_sg (f_X5_findFault z).2 i)
    rw [hx.2]; exact h.2.2.2.2.2.2
  · obtain ⟨b1, b2, b3⟩ := read_bd hz hr
    have hn80 := hz.1
    have hz2 := zpd_of hz (zk_order hz)
    obtain ⟨k1, k2⟩ := skip_at hz2
    have hat := k1.2.2.1
    obtain ⟨Y, y1, y2⟩ := recd_ex2 (f_X5_readOrder Z).2 A
    have hop := carry_crude (Y := Y) X hI (by omega) (by omega) (by rw [y1]; exact hR) y2
    generalize f_X7_carryOutOrder T X (f_X5_readOrder Z).2 = cr at hop ⊢
    obtain ⟨p1, p2⟩ := hop
    rcases p2 with ⟨q1, q2, q3⟩ | ⟨q1, A2, sm2, q2, q3, q4, q5, q6⟩
    · have q2' : cr.2.1 = T := q2
      rw [q2']
      exact ⟨A, hR, Inv_mono (by omega) hI, by omega, zpd_of hz2 k1⟩
    · have q4' : Inv (100 * (c : Int) + (gPd_at Z : Int) + 1) cr.2.1 := q4
      have q6' : gP 50000 cr.2.1 ≤ gP 50000 T + 5000000 := q6
      exact ⟨A2, q3, Inv_mono (by omega) q4', by omega, zpd_of hz2 k1⟩
theorem keep_bd (h : FR c T z y s S) : gMs_pf (f_X8_keep (f_X8_fault S).2) < 6 ∧ gMs_pm (f_X8_keep (f_X8_fault S).2) ≤ 6 ∧ gMs_at (f_X8_keep (f_X8_fault S).2) = gMs_at S := by
  obtain ⟨k1, k2, k3, -, -⟩ := fault_all h.2.2.2
  have h1 := h.2.1.2.2.1
  have h2 := h.2.1.2.2.2.1
  have h3 := h.2.1.2.1
  have e1 := zsame_pf k2
  have e2 := zsame_pm k2
  obtain ⟨m1, m2, m3⟩ := keep_form (f_X8_fault S).2
  have e0 : gMs_at (f_X8_keep (f_X8_fault S).2) = gMs_at (f_X8_fault S).2 := rfl
  refine ⟨?_, ?_, e0.trans (zsame_at k2)⟩
  · by_cases q : gMs_pm (f_X8_fault S).2 < 6
    · rw [(m2 q).1, e1]; exact h2
    · rw [(m3 (by omega)).1]; omega
  · by_cases q : gMs_pm (f_X8_fault S).2 < 6
    · rw [(m2 q).2]; omega
    · rw [(m3 (by omega)).2]; omega
theorem carryOut_P8 (hc : c ≤ 512) (h : FR c T z y s S) : ∃ P : zMs → Nat → Prop, P (f_X8_keep (f_X8_fault S).2) 0 ∧ ∀ X k, P X k → k < gMs_od X → okc X ∧ gMs_od (f_X8_carry X k).2 = gMs_od X ∧ P (f_X8_carry X k).2 (k + 1) := by
  obtain ⟨w1, w2, w3⟩ := keep_bd h
  have hzf := f_fault_zpf (S := S) (by rw [← h.2.2.2.1]; exact h.2.2.2.2.1)
  have hod : gMs_od (f_X8_keep (f_X8_fault S).2) ≤ 40 := hzf.2.2.2
  generalize f_X8_keep (f_X8_fault S).2 = K at w1 w2 w3 hod ⊢
  refine ⟨fun Y k => ∃ (T : zTr) (A sm : Nat → Int64), Y = sMs_sh (sMs_at K A) sm ∧ RTr T A ∧ Inv (100 * (c : Int) + (k : Int)) T ∧ gP 50000 T ≤ 10300000000 + 5000000 * (k : Int), ⟨T, gMs_at K, gMs_sh K, rfl, by rw [w3]; exact h.1.1, Inv_mono ?_ h.1.2.1, ?_⟩, fun X k ⟨T, A, sm, hX, hR, hI, hg⟩ hk => ?_⟩
  · show 100 * (c : Int) ≤ 100 * (c : Int) + ((0 : Nat) : Int)
    omega
  · have := FR_g h hc
    show gP 50000 T ≤ 10300000000 + 5000000 * ((0 : Nat) : Int)
    omega
  · subst hX
    have hk2 : k < gMs_od K := hk
    have he := (end_op (S := sMs_sh (sMs_at K A) sm) ((0, 0, 0, 0, 0, 0, fun _ => 0) : zDd) false hI (by omega) (by omega) hR).2
    obtain ⟨zz, hz⟩ := recd_ex (sMs_sh (sMs_at K A) sm) k
    have hop := carry_crude (Y := sMs_sh (sMs_at K A) sm) ((0, 0, 0, 0, 0, 0, fun _ => 0) : zDd) hI (by omega) (by omega) hR hz
    refine ⟨⟨w1, w2, zCk_o hR.2.1 hI.2.1.1, zCk_o hR.2.2.1 hI.2.2.1.1, he⟩, ?_⟩
    generalize f_X8_carry (sMs_sh (sMs_at K A) sm) k = cm at hop ⊢
    generalize f_X7_carryOutOrder T ((0, 0, 0, 0, 0, 0, fun _ => 0) : zDd) zz = cr at hop
    obtain ⟨p1, p2⟩ := hop
    rcases p2 with ⟨q1, q2, q3⟩ | ⟨q1, A2, sm2, q2, q3, q4, q5, q6⟩
    · rw [q3]
      exact ⟨rfl, T, A, sm, rfl, hR, Inv_mono (by omega) hI, by omega⟩
    · rw [q2]
      have q4' : Inv (100 * (c : Int) + (k : Int) + 1) cr.2.1 := q4
      have q6' : gP 50000 cr.2.1 ≤ gP 50000 T + 5000000 := q6
      exact ⟨rfl, cr.2.1, A2, sm2, rfl, q3, Inv_mono (by omega) q4', by omega⟩
theorem carryOut_FR (hc : c ≤ 512) (h : FR c T z y s S) (x : zDd) : (f_X7_carryOut T x z y).1 = (f_X8_carryOut S).1 ∧ FR (c + 1) (f_X7_carryOut T x z y).2.1 (f_X7_carryOut T x z y).2.2.2.1 (f_X7_carryOut T x z y).2.2.2.2 s (f_X8_carryOut S).2 := by
  obtain ⟨g1, g2, g3, g4⟩ := h
  have hfr : FR c T z y s S := ⟨g1, g2, g3, g4⟩
  have hx := xff g4.2.1 g4.2.2.2
  obtain ⟨k1, k2, k3, k4, -⟩ := fault_all g4
  obtain ⟨-, -, -, -, k5⟩ := fault_all (z := (f_X5_findFault z).2) (PR_x g4 hx.1 hx.2 rfl rfl)
  unfold f_X7_carryOut f_X8_carryOut
  rw [zsl_e, zsl_e]
  dsimp only
  rw [k1]
  by_cases cf : (f_X8_fault S).1 < 0
  · rw [if_pos cf, if_pos (k4.mp cf)]
    have hrec := k5 cf
    have hz : zpd (f_X5_start (f_X5_findFault z).2) := ⟨by show gPd_n (f_X5_findFault z).2 ≤ 80; rw [hx.1]; exact g4.2.1, Nat.zero_le _, by show ∀ i, zch (gPd_sg (f_X5_findFault z).2 i); rw [hx.2]; exact g4.2.2.2⟩
    have hb := read_bd hz hrec.1
    have hn1 : gPd_n (f_X5_start (f_X5_findFault z).2) = gPd_n z := hx.1
    have hgF := FR_g hfr hc
    have eo := keep_bd hfr
    have hR : RTr T (gMs_at (f_X8_keep (f_X8_fault S).2)) := by rw [eo.2.2]; exact g1.1
    have hI0 : Inv (100 * (c : Int) + ((0 : Nat) : Int)) T := Inv_mono (by omega) g1.2.1
    obtain ⟨q1, q2, q3, q4, A', sm', q5, q6, q7, q8⟩ := carry_sim (f_X5_start (f_X5_findFault z).2) (S1 := f_X8_keep (f_X8_fault S).2) (M := (f_X8_fault S).2) rfl rfl rfl (D := 100 * (c : Int)) (G := gP 50000 T) (by omega) (by omega) 80 0 x T (f_X5_start (f_X5_findFault z).2) (gMs_at (f_X8_keep (f_X8_fault S).2)) (gMs_sh (f_X8_keep (f_X8_fault S).2)) (gMs_od (f_X8_keep (f_X8_fault S).2) - 0 + 1) rfl hz (Nat.zero_le _) hrec (Nat.lt_succ_self _) hR hI0 (by show gP 50000 T ≤ gP 50000 T + 625000 * ((0 : Nat) : Int); omega)
    have eS1 : sMs_sh (sMs_at (f_X8_keep (f_X8_fault S).2) (gMs_at (f_X8_keep (f_X8_fault S).2))) (gMs_sh (f_X8_keep (f_X8_fault S).2)) = f_X8_keep (f_X8_fault S).2 := rfl
    rw [eS1] at q2 q3 q5
    have eO : f_X7_carryOutOrders T x (f_X5_findFault z).2 = ((L_X7_carry (f_X5_start (f_X5_findFault z).2) (80 + 1) x T (f_X5_start (f_X5_findFault z).2) 0).2.1, (L_X7_carry (f_X5_start (f_X5_findFault z).2) (80 + 1) x T (f_X5_start (f_X5_findFault z).2) 0).2.2.2.1, (L_X7_carry (f_X5_start (f_X5_findFault z).2) (80 + 1) x T (f_X5_start (f_X5_findFault z).2) 0).2.2.1, (L_X7_carry (f_X5_start (f_X5_findFault z).2) (80 + 1) x T (f_X5_start (f_X5_findFault z).2) 0).2.2.2.2.1) := by
      unfold f_X7_carryOutOrders
      rw [zsl_e]
      dsimp only
      rw [show 80 - 0 + 1 = 80 + 1 from rfl, if_pos q1]
    rw [eO]
    dsimp only
    generalize L_X7_carry (f_X5_start (f_X5_findFault z).2) (80 + 1) x T (f_X5_start (f_X5_findFault z).2) 0 = r7 at q1 q2 q4 q6 q7 q8 ⊢
    generalize L_X8_carry (gMs_od (f_X8_keep (f_X8_fault S).2) - 0 + 1) (f_X8_keep (f_X8_fault S).2) 0 = r8 at q2 q3 q5 ⊢
    rw [keep_1]
    refine ⟨q2, ?_⟩
    have hrn : ¬ r7.2.1 < 0 := by
      rw [q2, sw_0, nI_int (by omega)]
      omega
    have hphi1 := (pPhi_gP g1.2.1).1
    have hphi2 := (pPhi_gP q7).2
    have hbp := g1.2.2
    rw [hn1] at hb q8
    have hnn : 1 ≤ gPd_n z := by omega
    have hbP : bP c (gPd_n z) = 18000000 + 20000000 * (c : Int) - (15000000 + 625000 * (gPd_n z : Int)) := by
      unfold bP
      rw [if_neg (by omega)]
    have hbQ : bP (c + 1) 0 = 18000000 + 20000000 * ((c + 1 : Nat) : Int) - 0 := by
      unfold bP
      rw [if_pos rfl]
    have hle : bP c (gPd_n z) ≤ bP (c + 1) 0 := by omega
    have hHR : HR (bP c (gPd_n z)) (100 * (c : Int)) (hist2 y T r7.2.1) (f_X8_keep (f_X8_fault S).2) := HR_yes (HR_S (zsame_pm k2) (zsame_pf k2) (by rw [k2]) g2) (by rw [zsame_at k2]; exact g1) hrn
    show FR (c + 1) r7.2.2.2.1 (sPd_n r7.2.2.2.2.1 0) (hist2 y T r7.2.1) s (sMs_pdm r8.1 0)
    rw [q5]
    refine ⟨⟨q6, Inv_mono (by omega) q7, ?_⟩, HR_mono hle (by omega) (HR_S rfl rfl rfl hHR), SR_mono hle (by omega) (SR_S ?_ ?_ g3), rfl, Nat.zero_le _, fun i hi => absurd hi (Nat.not_lt_zero _), fun i => ?_⟩
    · show pPhi r7.2.2.2.1 ≤ bP (c + 1) 0
      omega
    · show gMs_sv (f_X8_fault S).2 = gMs_sv S
      rw [k2]
    · show gMs_sl (f_X8_fault S).2 = gMs_sl S
      rw [k2]
    · show zch (gPd_sg r7.2.2.2.2.1 i)
      rw [q4]
      exact hz.2.2 i
  · rw [if_neg cf, if_neg (fun q => cf (k4.mpr q))]
    exact ⟨rfl, (fault_FR hfr).2⟩
end texts
