/-! the class's reader: its numbers stay in range, whatever it accepts -/
section RIA
variable {P P' : RS} {p : Int}
theorem RI_opg (h : RI P p) (hp : p < 30) (hg : P.1 14 < 5) : RI (opg P) (p + 1) := by
  obtain ⟨hS0, i1, i2, i3, i4, i5, i6, i7, i8, i9, i10, i11, i12, i13, i14⟩ := h
  have t0 := hS0.1
  have hN : ∀ a b, StR (rsN (rsN P 14 a) 10 b) := by
    intro a b
    obtain ⟨t0, t1, t2, t3, tr⟩ := hS0
    unfold rsN StR
    simp (disch := omega) only [uN_s, uN_n, uA_s, uA_n, up_s, up_n, uN_uN, uA_uA]
    exact ⟨t0, t1, t2, t3, tr⟩
  have e4 : ∀ a b, (rsN (rsN P 14 a) 10 b).1 4 = P.1 4 := by
    intro a b
    unfold rsN
    simp (disch := omega) only [uN_s, uN_n, uA_s, uA_n, up_s, up_n, uN_uN, uA_uA]
  obtain ⟨a1, a2⟩ := StR_A (k := 7) (f := 2 * (P.1 14 + 1)) (s := 0) (hN (P.1 14 + 1) (P.1 10 + 1)) (by rw [e4]; omega) (by omega) (by omega) (by omega)
  rw [e4] at a2
  have c4 : (opg P).1 4 = P.1 4 + 1 := a2
  have e : ∀ j, j ≠ 4 → j ≠ 6 → j ≠ 8 → j ≠ 14 → j ≠ 10 → (opg P).1 j = P.1 j := by
    intro j b1 b2 b3 b4 b5
    unfold opg rsW rsA rsN
    simp (disch := omega) only [uN_s, uN_n, uA_s, uA_n, up_s, up_n, uN_uN, uA_uA]
  have e10 : (opg P).1 10 = P.1 10 + 1 := by
    unfold opg rsW rsA rsN
    simp (disch := omega) only [uN_s, uN_n, uA_s, uA_n, up_s, up_n, uN_uN, uA_uA]
  have e14 : (opg P).1 14 = P.1 14 + 1 := by
    unfold opg rsW rsA rsN
    simp (disch := omega) only [uN_s, uN_n, uA_s, uA_n, up_s, up_n, uN_uN, uA_uA]
  refine ⟨a1, by omega, by omega, by omega, Nat.lt_succ_self _, ?_, by show P.2.2.2.2.1 + 1 ≤ 6; omega, fun i h0 h1 => ?_, fun j hj => ?_, by omega, by omega, ?_, ?_, ?_, ?_, ?_, ?_⟩
  · rw [e14]
    show _ = ((P.2.2.2.2.1 + 1 : Nat) : Int) - 1
    omega
  · show (if i = P.2.2.2.2.1 then P.2.2.2.2.2 else P.2.2.2.1 i) < i
    have h1' : i < P.2.2.2.2.1 + 1 := h1
    split
    · omega
    · exact i7 i h0 (by omega)
  · show LvP (uL P.2.2.1 P.2.2.2.2.1 (nlv (P.1 4 + 1)) j) _ _
    have hj' : j < P.2.2.2.2.1 + 1 := hj
    rw [c4]
    by_cases hc : j = P.2.2.2.2.1
    · rw [hc, uL_s]
      unfold LvP LvR nlv
      simp only [Nat.reduceEqDiff, if_true, if_false, reduceIte]
      (and_intros <;> first | omega | exact Or.inl trivial | exact Or.inr trivial | exact Or.inl rfl | exact Or.inr rfl | (intro h; omega) | (intro h; exact h.elim) | trivial | assumption)
    · rw [uL_n hc]
      exact LvP_mono (i8 j (by omega)) (by omega) (by omega)
  · rw [e _ (by omega) (by omega) (by omega) (by omega) (by omega)]; exact i11
  · rw [e _ (by omega) (by omega) (by omega) (by omega) (by omega)]; exact i12
  · rw [e _ (by omega) (by omega) (by omega) (by omega) (by omega)]; exact i13
  · rw [e _ (by omega) (by omega) (by omega) (by omega) (by omega)]; omega
  · rw [e _ (by omega) (by omega) (by omega) (by omega) (by omega)]; omega
  · intro j h0 hj
    show 1 ≤ uL P.2.2.1 P.2.2.2.2.1 (nlv (P.1 4 + 1)) j 2
    have hj' : j < P.2.2.2.2.1 + 1 := hj
    by_cases hc : j = P.2.2.2.2.1
    · rw [hc, uL_s]
      show 1 ≤ P.1 4 + 1
      omega
    · rw [uL_n hc]
      exact i14.2.2 j h0 (by omega)
theorem RI_clg (h : RI P p) (hp : p < 30) (h0 : P.2.2.2.2.2 ≠ 0) : RI (clg P) (p + 1) := by
  obtain ⟨hS0, i1, i2, i3, i4, i5, i6, i7, i8, i9, i10, i11, i12, i13, i14⟩ := h
  have t0 := hS0.1
  have ho := i7 _ h0 i4
  have hl := i8 _ i4
  have hv2 := hl.2.2.2
  have he := LvP_enb (n := P.1 4) hl (by omega) (Int.le_refl _)
  have hF : StR (rsF (rsC P (enb (cur P) (P.1 4))) (lnd (P.2.1 4) (P.2.1 6) (cur P 2) (P.1 4))) := StR_F (P := P) hS0 hv2.1
  obtain ⟨a1, a2⟩ := StR_A (k := 7) (f := 2 * P.2.2.2.2.2 + 1) (s := 0) hF (by show P.1 4 ≤ 61; omega) (by omega) (by omega) (by omega)
  have a2' : (rsA (rsF (rsC P (enb (cur P) (P.1 4))) (lnd (P.2.1 4) (P.2.1 6) (cur P 2) (P.1 4))) 7 (2 * P.2.2.2.2.2 + 1) 0).1 4 = P.1 4 + 1 := a2
  have c4 : (clg P).1 4 = P.1 4 + 1 := by
    unfold clg rsC rsV rsN rsA rsF rsL
    simp (disch := omega) only [uN_s, uN_n, uA_s, uA_n, up_s, up_n, uN_uN, uA_uA]
  have e : ∀ j, j ≠ 4 → j ≠ 6 → j ≠ 8 → j ≠ 10 → (clg P).1 j = P.1 j := by
    intro j b1 b2 b3 b5
    unfold clg rsC rsV rsN rsA rsF rsL
    simp (disch := omega) only [uN_s, uN_n, uA_s, uA_n, up_s, up_n, uN_uN, uA_uA]
  have e10 : (clg P).1 10 = P.1 10 - 1 := by
    unfold clg rsC rsV rsN rsA rsF rsL
    simp (disch := omega) only [uN_s, uN_n, uA_s, uA_n, up_s, up_n, uN_uN, uA_uA]
  have e6 : (clg P).1 6 = P.1 6 + 1 := by
    unfold clg rsC rsV rsN rsA rsF rsL
    simp (disch := omega) only [uN_s, uN_n, uA_s, uA_n, up_s, up_n, uN_uN, uA_uA]
  have e8 : (clg P).1 8 = P.1 8 + 1 := by
    unfold clg rsC rsV rsN rsA rsF rsL
    simp (disch := omega) only [uN_s, uN_n, uA_s, uA_n, up_s, up_n, uN_uN, uA_uA]
  refine ⟨⟨by omega, by omega, ?_, ?_, fun i b c => ?_⟩, by omega, by omega, by omega, ?_, ?_, i6, i7, fun j hj => ?_, by omega, by omega, ?_, ?_, ?_, ?_, ?_, ?_⟩
  · rw [e6, c4, hS0.2.2.1]
  · rw [e8, c4, hS0.2.2.2.1]
  · exact a1.2.2.2.2 i b (by rw [a2']; rw [c4] at c; exact c)
  · show P.2.2.2.1 P.2.2.2.2.2 < P.2.2.2.2.1
    omega
  · rw [e _ (by omega) (by omega) (by omega) (by omega)]; exact i5
  · show LvP (uL (uL P.2.2.1 P.2.2.2.2.2 (enb (cur P) (P.1 4))) (P.2.2.2.1 P.2.2.2.2.2) (sta (uL P.2.2.1 P.2.2.2.2.2 (enb (cur P) (P.1 4)) (P.2.2.2.1 P.2.2.2.2.2)) (cur P 2 - 1) (enb (cur P) (P.1 4) 10) (enb (cur P) (P.1 4) 11)) j) _ _
    have hj' : j < P.2.2.2.2.1 := hj
    rw [c4]
    by_cases hc : j = P.2.2.2.1 P.2.2.2.2.2
    · rw [hc, uL_s, uL_n (by omega)]
      have hm := LvP_mono (i8 (P.2.2.2.1 P.2.2.2.2.2) (by omega)) (show P.1 4 ≤ P.1 4 + 1 by omega) (Int.le_refl p)
      have h12 := i14.2.2 _ h0 i4
      have hR := he.1
      unfold LvR at hR
      have c2 : cur P 2 = P.2.2.1 P.2.2.2.2.2 2 := rfl
      have hR : 0 ≤ enb (cur P) (P.1 4) 10 ∧ enb (cur P) (P.1 4) 10 ≤ 1000000 ∧ 0 ≤ enb (cur P) (P.1 4) 11 ∧ enb (cur P) (P.1 4) 11 ≤ 1000000 := ⟨hR.2.2.2.2.2.2.2.2.2.1, hR.2.2.2.2.2.2.2.2.2.2.1, hR.2.2.2.2.2.2.2.2.2.2.2.1, hR.2.2.2.2.2.2.2.2.2.2.2.2⟩
      exact LvP_sta hm (by omega) (by omega) (by omega) (by omega)
    · rw [uL_n hc]
      by_cases hc2 : j = P.2.2.2.2.2
      · rw [hc2, uL_s]
        exact LvP_mono he (by omega) (by omega)
      · rw [uL_n hc2]
        exact LvP_mono (i8 j hj') (by omega) (by omega)
  · rw [e _ (by omega) (by omega) (by omega) (by omega)]; exact i11
  · rw [e _ (by omega) (by omega) (by omega) (by omega)]; exact i12
  · rw [e _ (by omega) (by omega) (by omega) (by omega)]; exact i13
  · rw [e _ (by omega) (by omega) (by omega) (by omega)]; omega
  · rw [e _ (by omega) (by omega) (by omega) (by omega)]; omega
  · intro j hj0 hj
    show 1 ≤ uL (uL P.2.2.1 P.2.2.2.2.2 (enb (cur P) (P.1 4))) (P.2.2.2.1 P.2.2.2.2.2) (sta (uL P.2.2.1 P.2.2.2.2.2 (enb (cur P) (P.1 4)) (P.2.2.2.1 P.2.2.2.2.2)) (cur P 2 - 1) (enb (cur P) (P.1 4) 10) (enb (cur P) (P.1 4) 11)) j 2
    have hj' : j < P.2.2.2.2.1 := hj
    by_cases hc : j = P.2.2.2.1 P.2.2.2.2.2
    · rw [hc, uL_s, sta_2, uL_n (by omega)]
      exact i14.2.2 _ (by omega) (by omega)
    · rw [uL_n hc]
      by_cases hc2 : j = P.2.2.2.2.2
      · rw [hc2, uL_s, enb_2]
        exact i14.2.2 _ h0 i4
      · rw [uL_n hc2]
        exact i14.2.2 j hj0 hj'
theorem RI_brn (h : RI P p) (hp : p < 30) : RI (brn P) (p + 1) := by
  have h' := h
  obtain ⟨hS0, i1, i2, i3, i4, i5, i6, i7, i8, i9, i10, i11, i12, i13, i14⟩ := h
  have t0 := hS0.1
  have hl := i8 _ i4
  have hv2 := hl.2.2.2
  have c3 : cur P 3 = P.2.2.1 P.2.2.2.2.2 3 := rfl
  obtain ⟨b1, b2⟩ := StR_I (b := cur P 3) (k := 5) (f := 1) (s := P.1 4 + 2 - cur P 3) hS0 (by omega) (by omega) (by omega) (by omega) (by omega)
  obtain ⟨a1, a2⟩ := StR_A (k := 6) (f := 0) (s := 0) b1 (by omega) (by omega) (by omega) (by omega)
  have he := LvP_enb (n := P.1 4 + 1 + 1) hl (by omega) (by omega)
  have c4 : (brn P).1 4 = P.1 4 + 1 + 1 := a2.trans (by rw [b2])
  have e : ∀ j, j ≠ 4 → j ≠ 6 → j ≠ 8 → (brn P).1 j = P.1 j := by
    intro j b1 b2 b3
    unfold brn rsC rsL rsA rsI
    simp (disch := omega) only [uN_s, uN_n, uA_s, uA_n, up_s, up_n, uN_uN, uA_uA]
  refine RI_up h' hp a1 (by omega) (by omega) rfl (e _ (by omega) (by omega) (by omega)) (fun j hj => uL_n hj) ?_ (e _ (by omega) (by omega) (by omega)) (by rw [e _ (by omega) (by omega) (by omega)]; omega) (by rw [e _ (by omega) (by omega) (by omega)]; exact i13) (by rw [e _ (by omega) (by omega) (by omega)]; omega) (by show uL P.2.2.1 P.2.2.2.2.2 _ P.2.2.2.2.2 2 = _; rw [uL_s, enb_2]; rfl)
  show LvP (uL P.2.2.1 P.2.2.2.2.2 _ P.2.2.2.2.2) _ _
  rw [uL_s, c4]
  exact LvP_mono he (by omega) (by omega)
theorem RI_rpp (h : RI P p) (hp : p < 30) : RI (rpp P) (p + 1) := by
  have h' := h
  obtain ⟨hS0, i1, i2, i3, i4, i5, i6, i7, i8, i9, i10, i11, i12, i13, i14⟩ := h
  have t0 := hS0.1
  have hl := i8 _ i4
  have hv2 := hl.2.2.2
  have c3 : cur P 5 = P.2.2.1 P.2.2.2.2.2 5 := rfl
  obtain ⟨a1, a2⟩ := StR_A (k := 5) (f := cur P 5 - P.1 4) (s := 1) hS0 (by omega) (by omega) (by omega) (by omega)
  have he := LvP_rpt (m := 0) (g := 1) hl (by omega)
  have c4 : (rpp P).1 4 = P.1 4 + 1 := a2
  have e : ∀ j, j ≠ 4 → j ≠ 6 → j ≠ 8 → (rpp P).1 j = P.1 j := by
    intro j b1 b2 b3
    unfold rpp rsC rsL rsA
    simp (disch := omega) only [uN_s, uN_n, uA_s, uA_n, up_s, up_n, uN_uN, uA_uA]
  refine RI_up h' hp a1 (by omega) (by omega) rfl (e _ (by omega) (by omega) (by omega)) (fun j hj => uL_n hj) ?_ (e _ (by omega) (by omega) (by omega)) (by rw [e _ (by omega) (by omega) (by omega)]; omega) (by rw [e _ (by omega) (by omega) (by omega)]; exact i13) (by rw [e _ (by omega) (by omega) (by omega)]; omega) (by show uL P.2.2.1 P.2.2.2.2.2 _ P.2.2.2.2.2 2 = _; rw [uL_s, rpt_2]; rfl)
  show LvP (uL P.2.2.1 P.2.2.2.2.2 _ P.2.2.2.2.2) _ _
  rw [uL_s, c4]
  exact LvP_mono he (by omega) (by omega)
theorem RI_rps (h : RI P p) (hp : p < 30) : RI (rps P) (p + 1) := by
  have h' := h
  obtain ⟨hS0, i1, i2, i3, i4, i5, i6, i7, i8, i9, i10, i11, i12, i13, i14⟩ := h
  have t0 := hS0.1
  have hl := i8 _ i4
  have hv2 := hl.2.2.2
  have c3 : cur P 5 = P.2.2.1 P.2.2.2.2.2 5 := rfl
  obtain ⟨b1, b2⟩ := StR_I (b := cur P 5) (k := 5) (f := 1) (s := P.1 4 + 2 - cur P 5) hS0 (by omega) (by omega) (by omega) (by omega) (by omega)
  obtain ⟨a1, a2⟩ := StR_A (k := 6) (f := cur P 5 - P.1 4 - 1) (s := 0) b1 (by omega) (by omega) (by omega) (by omega)
  have he := LvP_rpt (m := 1) (g := 1) hl (by omega)
  have c4 : (rps P).1 4 = P.1 4 + 1 + 1 := a2.trans (by rw [b2])
  have e : ∀ j, j ≠ 4 → j ≠ 6 → j ≠ 8 → (rps P).1 j = P.1 j := by
    intro j b1 b2 b3
    unfold rps rsC rsL rsA rsI
    simp (disch := omega) only [uN_s, uN_n, uA_s, uA_n, up_s, up_n, uN_uN, uA_uA]
  refine RI_up h' hp a1 (by omega) (by omega) rfl (e _ (by omega) (by omega) (by omega)) (fun j hj => uL_n hj) ?_ (e _ (by omega) (by omega) (by omega)) (by rw [e _ (by omega) (by omega) (by omega)]; omega) (by rw [e _ (by omega) (by omega) (by omega)]; exact i13) (by rw [e _ (by omega) (by omega) (by omega)]; omega) (by show uL P.2.2.1 P.2.2.2.2.2 _ P.2.2.2.2.2 2 = _; rw [uL_s, rpt_2]; rfl)
  show LvP (uL P.2.2.1 P.2.2.2.2.2 _ P.2.2.2.2.2) _ _
  rw [uL_s, c4]
  exact LvP_mono he (by omega) (by omega)
theorem RI_rpq (h : RI P p) (hp : p < 30) : RI (rpq P) (p + 1) := by
  have h' := h
  obtain ⟨hS0, i1, i2, i3, i4, i5, i6, i7, i8, i9, i10, i11, i12, i13, i14⟩ := h
  have t0 := hS0.1
  have hl := i8 _ i4
  have hv2 := hl.2.2.2
  have c3 : cur P 5 = P.2.2.1 P.2.2.2.2.2 5 := rfl
  obtain ⟨b1, b2⟩ := StR_I (b := cur P 5) (k := 5) (f := 1) (s := P.1 4 + 1 - cur P 5) hS0 (by omega) (by omega) (by omega) (by omega) (by omega)
  have he := LvP_rpt (m := 1) (g := 0) hl (by omega)
  have c4 : (rpq P).1 4 = P.1 4 + 1 := b2
  have e : ∀ j, j ≠ 4 → j ≠ 6 → j ≠ 8 → (rpq P).1 j = P.1 j := by
    intro j b1 b2 b3
    unfold rpq rsC rsL rsI
    simp (disch := omega) only [uN_s, uN_n, uA_s, uA_n, up_s, up_n, uN_uN, uA_uA]
  refine RI_up h' hp b1 (by omega) (by omega) rfl (e _ (by omega) (by omega) (by omega)) (fun j hj => uL_n hj) ?_ (e _ (by omega) (by omega) (by omega)) (by rw [e _ (by omega) (by omega) (by omega)]; omega) (by rw [e _ (by omega) (by omega) (by omega)]; exact i13) (by rw [e _ (by omega) (by omega) (by omega)]; omega) (by show uL P.2.2.1 P.2.2.2.2.2 _ P.2.2.2.2.2 2 = _; rw [uL_s, rpt_2]; rfl)
  show LvP (uL P.2.2.1 P.2.2.2.2.2 _ P.2.2.2.2.2) _ _
  rw [uL_s, c4]
  exact LvP_mono he (by omega) (by omega)
theorem RI_acc {ch : Int} (h : RI P p) (hp : p < 30) (hch : 0 ≤ ch ∧ ch ≤ 65535) (ha : acc P ch p = some P') : RI P' (p + 1) := by
  have h' := h
  obtain ⟨hS0, i1, i2, i3, i4, i5, i6, i7, i8, i9, i10, i11, i12, i13, i14⟩ := h
  have hN : ∀ {k z Q q}, RI Q q → (k = 11 ∧ 0 ≤ z ∧ z ≤ 3 ∨ k = 12 ∧ (z = 0 ∨ z = 1) ∨ k = 13 ∧ 0 ≤ z ∧ z ≤ q) → RI (rsN Q k z) q := fun h hk => RI_N h hk
  unfold acc at ha
  split at ha
  · split at ha
    · injection ha with e; subst e; exact RI_atm h' hp (by omega) (by omega) (by omega)
    split at ha
    · injection ha with e; subst e; exact RI_atm h' hp (by omega) (by omega) (by omega)
    split at ha
    · injection ha with e; subst e
      exact hN (hN (hN (RI_p h' hp) (Or.inl ⟨rfl, by omega, by omega⟩)) (Or.inr (Or.inl ⟨rfl, Or.inr rfl⟩))) (Or.inr (Or.inr ⟨rfl, by omega, by omega⟩))
    split at ha
    · split at ha
      · rename_i hg
        injection ha with e; subst e; exact RI_opg h' hp hg
      · cases ha
    split at ha
    · split at ha
      · cases ha
      · rename_i h0
        injection ha with e; subst e; exact RI_clg h' hp h0
    split at ha
    · injection ha with e; subst e; exact RI_brn h' hp
    split at ha
    · split at ha
      · cases ha
      · injection ha with e; subst e
        split
        · exact RI_rpp h' hp
        · split
          · exact RI_rps h' hp
          · exact RI_rpq h' hp
    · cases ha
  · split at ha
    · injection ha with e; subst e; exact hN (RI_p h' hp) (Or.inl ⟨rfl, by omega, by omega⟩)
    split at ha
    · injection ha with e; subst e
      exact hN (hN (hN (RI_p h' hp) (Or.inl ⟨rfl, by omega, by omega⟩)) (Or.inr (Or.inl ⟨rfl, Or.inl rfl⟩))) (Or.inr (Or.inr ⟨rfl, by omega, by omega⟩))
    split at ha
    · injection ha with e; subst e
      exact RI_atm (hN h' (Or.inl ⟨rfl, by omega, by omega⟩)) hp (by split <;> omega) (by omega) (by omega)
    · cases ha
end RIA
