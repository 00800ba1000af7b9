/-! the class's reader: its numbers stay in range -/
section RIS
variable {P P' : RS} {p : Int}
theorem StR_A {k f s : Int} (h : StR P) (h4 : P.1 4 ≤ 61) (hk : 0 ≤ k ∧ k ≤ 8) (hf : -1000 ≤ f ∧ f ≤ 70000) (hs : -1000 ≤ s ∧ s ≤ 1000) : StR (rsA P k f s) ∧ (rsA P k f s).1 4 = P.1 4 + 1 := by
  obtain ⟨t0, t1, t2, t3, tr⟩ := h
  have e4 : (rsA P k f s).1 4 = P.1 4 + 1 := by unfold rsA; simp (disch := omega) only [uN_s, uN_n, uA_s, uA_n, up_s, up_n, uN_uN, uA_uA]
  have e6 : (rsA P k f s).1 6 = P.1 6 + 1 := by unfold rsA; simp (disch := omega) only [uN_s, uN_n, uA_s, uA_n, up_s, up_n, uN_uN, uA_uA]
  have e8 : (rsA P k f s).1 8 = P.1 8 + 1 := by unfold rsA; simp (disch := omega) only [uN_s, uN_n, uA_s, uA_n, up_s, up_n, uN_uN, uA_uA]
  have c4 : (rsA P k f s).2.1 4 = up (P.2.1 4) (P.1 4) k := by unfold rsA; simp (disch := omega) only [uN_s, uN_n, uA_s, uA_n, up_s, up_n, uN_uN, uA_uA]
  have c6 : (rsA P k f s).2.1 6 = up (P.2.1 6) (P.1 6) f := by unfold rsA; simp (disch := omega) only [uN_s, uN_n, uA_s, uA_n, up_s, up_n, uN_uN, uA_uA]
  have c8 : (rsA P k f s).2.1 8 = up (P.2.1 8) (P.1 8) s := by unfold rsA; simp (disch := omega) only [uN_s, uN_n, uA_s, uA_n, up_s, up_n, uN_uN, uA_uA]
  refine ⟨⟨by omega, by omega, by omega, by omega, fun i a b => ?_⟩, e4⟩
  rw [c4, c6, c8, t2, t3]
  by_cases hi : i = P.1 4
  · rw [hi, up_s, up_s, up_s]; omega
  · rw [up_n hi, up_n hi, up_n hi]; exact tr i a (by omega)
theorem StR_I {b k f s : Int} (h : StR P) (h4 : P.1 4 ≤ 61) (hb : 0 ≤ b ∧ b ≤ P.1 4) (hk : 0 ≤ k ∧ k ≤ 8) (hf : -1000 ≤ f ∧ f ≤ 70000) (hs : -1000 ≤ s ∧ s ≤ 1000) : StR (rsI P b k f s) ∧ (rsI P b k f s).1 4 = P.1 4 + 1 := by
  obtain ⟨t0, t1, t2, t3, tr⟩ := h
  have e4 : (rsI P b k f s).1 4 = P.1 4 + 1 := by unfold rsI; simp (disch := omega) only [uN_s, uN_n, uA_s, uA_n, up_s, up_n, uN_uN, uA_uA]
  have e6 : (rsI P b k f s).1 6 = P.1 6 + 1 := by unfold rsI; simp (disch := omega) only [uN_s, uN_n, uA_s, uA_n, up_s, up_n, uN_uN, uA_uA]
  have e8 : (rsI P b k f s).1 8 = P.1 8 + 1 := by unfold rsI; simp (disch := omega) only [uN_s, uN_n, uA_s, uA_n, up_s, up_n, uN_uN, uA_uA]
  have c4 : (rsI P b k f s).2.1 4 = ins (P.2.1 4) (P.1 4) b k := by unfold rsI; simp (disch := omega) only [uN_s, uN_n, uA_s, uA_n, up_s, up_n, uN_uN, uA_uA]
  have c6 : (rsI P b k f s).2.1 6 = ins (P.2.1 6) (P.1 6) b f := by unfold rsI; simp (disch := omega) only [uN_s, uN_n, uA_s, uA_n, up_s, up_n, uN_uN, uA_uA]
  have c8 : (rsI P b k f s).2.1 8 = ins (P.2.1 8) (P.1 8) b s := by unfold rsI; simp (disch := omega) only [uN_s, uN_n, uA_s, uA_n, up_s, up_n, uN_uN, uA_uA]
  refine ⟨⟨by omega, by omega, by omega, by omega, fun i a c => ?_⟩, e4⟩
  rw [c4, c6, c8, t2, t3]
  unfold ins
  by_cases hi : i = b
  · rw [if_pos hi, if_pos hi, if_pos hi]; omega
  · rw [if_neg hi, if_neg hi, if_neg hi]
    by_cases h2 : b < i ∧ i ≤ P.1 4
    · rw [if_pos h2, if_pos h2, if_pos h2]; exact tr (i - 1) (by omega) (by omega)
    · rw [if_neg h2, if_neg h2, if_neg h2]; exact tr i a (by omega)
theorem StR_F {F : Int} (h : StR P) (hF : 0 ≤ F) : StR (rsF P (lnd (P.2.1 4) (P.2.1 6) F (P.1 4))) := by
  obtain ⟨t0, t1, t2, t3, tr⟩ := h
  refine ⟨t0, t1, t2, t3, fun i a b => ?_⟩
  have b' : i < P.1 4 := b
  have := tr i a b'
  unfold rsF
  simp (disch := omega) only [uN_s, uN_n, uA_s, uA_n, up_s, up_n, uN_uN, uA_uA]
  unfold lnd
  split
  · omega
  · exact this
theorem LvP_mono {v : Nat → Int} {sz sz' p p' : Int} (h : LvP v sz p) (hs : sz ≤ sz') (hp : p ≤ p') : LvP v sz' p' := by
  obtain ⟨h1, h2, h3, h4, h5, h6, h7, h8⟩ := h
  exact ⟨h1, by omega, fun h => by have := h3 h; omega, h4, h5, by omega, h7, by omega⟩
theorem LvP_stl {v : Nat → Int} {sz p : Int} (h : LvP v sz p) (hp : p ≤ 31) : LvP (stl v) sz p := by
  obtain ⟨⟨g4, g⟩, h2, h3, h⟩ := h
  rcases g4 with g4 | g4
  · rw [stl_0 g4]; exact ⟨⟨Or.inl g4, g⟩, h2, h3, h⟩
  · have h3 := h3 g4
    rw [stl_1 g4]
    unfold LvP LvR
    simp (disch := omega) only [uN_s, uN_n, uA_s, uA_n, up_s, up_n, uN_uN, uA_uA]
    (and_intros <;> first | omega | exact Or.inl trivial | exact Or.inr trivial | exact Or.inl rfl | exact Or.inr rfl | (intro h; omega) | (intro h; exact h.elim) | trivial | assumption)
theorem LvP_sta {v : Nat → Int} {sz p st a b : Int} (h : LvP v sz p) (hp : p ≤ 30) (hs : 0 ≤ st ∧ st ≤ sz) (ha : 0 ≤ a ∧ a ≤ 1000000) (hb : 0 ≤ b ∧ b ≤ 1000000) : LvP (sta v st a b) sz (p + 1) := by
  have h := LvP_stl h (by omega)
  obtain ⟨⟨g4, g⟩, h2, h3, h⟩ := h
  unfold sta LvP LvR
  simp (disch := omega) only [uN_s, uN_n, uA_s, uA_n, up_s, up_n, uN_uN, uA_uA]
  (and_intros <;> first | omega | exact Or.inl trivial | exact Or.inr trivial | exact Or.inl rfl | exact Or.inr rfl | (intro h; omega) | (intro h; exact h.elim) | trivial | assumption)
theorem LvP_enb {v : Nat → Int} {sz p n : Int} (h : LvP v sz p) (hp : 0 ≤ p ∧ p ≤ 31) (hn : sz ≤ n) : LvP (enb v n) n p := by
  have h := LvP_stl h (by omega)
  obtain ⟨⟨g4, g⟩, h2, h3, h⟩ := h
  have h4 := stl_4 (v := v)
  unfold enb LvP LvR
  simp (disch := omega) only [uN_s, uN_n, uA_s, uA_n, up_s, up_n, uN_uN, uA_uA]
  (and_intros <;> first | omega | exact Or.inl trivial | exact Or.inr trivial | exact Or.inl rfl | exact Or.inr rfl | (intro h; omega) | (intro h; exact h.elim) | trivial | assumption)
theorem LvP_rpt {v : Nat → Int} {sz p m g : Int} (h : LvP v sz p) (hp : p ≤ 31) : LvP (rpt v m g) sz p := by
  unfold rpt
  have h6 : LvP (if m = 0 then v else uN v 6 0) sz p := by
    split
    · exact h
    · obtain ⟨⟨g4, g⟩, h2, h3, h⟩ := h
      unfold LvP LvR
      simp (disch := omega) only [uN_s, uN_n, uA_s, uA_n, up_s, up_n, uN_uN, uA_uA]
      (and_intros <;> first | omega | exact Or.inl trivial | exact Or.inr trivial | exact Or.inl rfl | exact Or.inr rfl | (intro h; omega) | (intro h; exact h.elim) | trivial | assumption)
  refine LvP_stl ?_ hp
  split
  · exact h6
  · obtain ⟨⟨g4, g⟩, h2, h3, h⟩ := h6
    generalize (if m = 0 then v else uN v 6 0) = w at g4 g h2 h3 h ⊢
    unfold LvP LvR
    simp (disch := omega) only [uN_s, uN_n, uA_s, uA_n, up_s, up_n, uN_uN, uA_uA]
    (and_intros <;> first | omega | exact Or.inl trivial | exact Or.inr trivial | exact Or.inl rfl | exact Or.inr rfl | (intro h; omega) | (intro h; exact h.elim) | trivial | assumption)
theorem stl_2 {v : Nat → Int} : stl v 2 = v 2 := stl_o (by omega) (by omega) (by omega)
theorem sta_2 {v : Nat → Int} {a b c : Int} : sta v a b c 2 = v 2 := by
  unfold sta
  simp (disch := omega) only [uN_s, uN_n, uA_s, uA_n, up_s, up_n, uN_uN, uA_uA]
  exact stl_2
theorem rpt_2 {v : Nat → Int} {m g : Int} : rpt v m g 2 = v 2 := by
  unfold rpt
  rw [stl_2]
  split
  · split
    · rfl
    · simp (disch := omega) only [uN_s, uN_n, uA_s, uA_n, up_s, up_n, uN_uN, uA_uA]
  · simp (disch := omega) only [uN_s, uN_n, uA_s, uA_n, up_s, up_n, uN_uN, uA_uA]
    split
    · rfl
    · simp (disch := omega) only [uN_s, uN_n, uA_s, uA_n, up_s, up_n, uN_uN, uA_uA]
theorem RI_up (h : RI P p) (hp : p < 30) (hS : StR P') (h1 : P'.1 4 ≤ 2 * (p + 1)) (h2 : P.1 4 ≤ P'.1 4) (h3 : P'.2.2.2 = P.2.2.2) (h14 : P'.1 14 = P.1 14) (hl : ∀ j, j ≠ P.2.2.2.2.2 → P'.2.2.1 j = P.2.2.1 j) (hv : LvP (P'.2.2.1 P.2.2.2.2.2) (P'.1 4) (p + 1)) (h10 : P'.1 10 = P.1 10) (h11 : 0 ≤ P'.1 11 ∧ P'.1 11 ≤ 3) (h12 : P'.1 12 = 0 ∨ P'.1 12 = 1) (h13 : 0 ≤ P'.1 13 ∧ P'.1 13 ≤ p + 1) (hv2 : P'.2.2.1 P.2.2.2.2.2 2 = P.2.2.1 P.2.2.2.2.2 2) : RI P' (p + 1) := by
  obtain ⟨hS0, i1, i2, i3, i4, i5, i6, i7, i8, i9, i10, i11, i12, i13, i14⟩ := h
  unfold RI
  rw [h3, h14, h10]
  refine ⟨hS, h1, by omega, by omega, i4, i5, i6, i7, fun j hj => ?_, by omega, by omega, h11.1, h11.2, h12, h13.1, h13.2, fun j h0 hj => ?_⟩
  rotate_left
  · by_cases hc : j = P.2.2.2.2.2
    · rw [hc, hv2]; exact i14.2.2 _ (by omega) i4
    · rw [hl j hc]; exact i14.2.2 j h0 hj
  by_cases hc : j = P.2.2.2.2.2
  · rw [hc]; exact hv
  · rw [hl j hc]; exact LvP_mono (i8 j hj) h2 (by omega)
theorem RI_atm {k f s : Int} (h : RI P p) (hp : p < 30) (hk : 0 ≤ k ∧ k ≤ 8) (hf : -1000 ≤ f ∧ f ≤ 70000) (hs : -1000 ≤ s ∧ s ≤ 1000) : RI (atm P k f s) (p + 1) := by
  have h' := h
  obtain ⟨hS0, i1, i2, i3, i4, i5, i6, i7, i8, i9, i10, i11, i12, i13, i14⟩ := h
  have hv := LvP_sta (st := P.1 4) (a := 1) (b := 1) (i8 _ i4) (by omega) ⟨hS0.1, Int.le_refl _⟩ (by omega) (by omega)
  have hS : StR (rsC P (sta (cur P) (P.1 4) 1 1)) := hS0
  obtain ⟨a1, a2⟩ := StR_A hS (by show P.1 4 ≤ 61; omega) hk hf hs
  have a2' : (atm P k f s).1 4 = P.1 4 + 1 := a2
  have e : ∀ j, j ≠ 4 → j ≠ 6 → j ≠ 8 → (atm P k f s).1 j = P.1 j := by
    intro j b1 b2 b3
    unfold atm rsA rsC rsL
    simp (disch := omega) only [uN_s, uN_n, uA_s, uA_n, up_s, up_n, uN_uN, uA_uA]
  refine RI_up h' hp a1 (by omega) (by omega) rfl (e _ (by omega) (by omega) (by omega)) (fun j hj => uL_n hj) ?_ (e _ (by omega) (by omega) (by omega)) (by rw [e _ (by omega) (by omega) (by omega)]; omega) (by rw [e _ (by omega) (by omega) (by omega)]; exact i13) (by rw [e _ (by omega) (by omega) (by omega)]; omega) (by show uL P.2.2.1 P.2.2.2.2.2 _ P.2.2.2.2.2 2 = _; rw [uL_s, sta_2]; rfl)
  show LvP (uL P.2.2.1 P.2.2.2.2.2 _ P.2.2.2.2.2) _ _
  rw [uL_s, a2']
  exact LvP_mono hv (by omega) (Int.le_refl _)
theorem RI_N {k : Nat} {z : Int} (h : RI P p) (hk : k = 11 ∧ 0 ≤ z ∧ z ≤ 3 ∨ k = 12 ∧ (z = 0 ∨ z = 1) ∨ k = 13 ∧ 0 ≤ z ∧ z ≤ p) : RI (rsN P k z) p := by
  obtain ⟨hS0, i1, i2, i3, i4, i5, i6, i7, i8, i9, i10, i11, i12, i13, i14⟩ := h
  obtain ⟨t0, t1, t2, t3, tr⟩ := hS0
  unfold rsN RI StR
  rcases hk with ⟨rfl, hk⟩ | ⟨rfl, hk⟩ | ⟨rfl, hk⟩
  · simp (disch := omega) only [uN_s, uN_n, uA_s, uA_n, up_s, up_n, uN_uN, uA_uA]
    exact ⟨⟨t0, t1, t2, t3, tr⟩, i1, i2, i3, i4, i5, i6, i7, i8, i9, i10, by omega, by omega, i13, i14⟩
  · simp (disch := omega) only [uN_s, uN_n, uA_s, uA_n, up_s, up_n, uN_uN, uA_uA]
    exact ⟨⟨t0, t1, t2, t3, tr⟩, i1, i2, i3, i4, i5, i6, i7, i8, i9, i10, i11, i12, hk, i14⟩
  · simp (disch := omega) only [uN_s, uN_n, uA_s, uA_n, up_s, up_n, uN_uN, uA_uA]
    exact ⟨⟨t0, t1, t2, t3, tr⟩, i1, i2, i3, i4, i5, i6, i7, i8, i9, i10, i11, i12, i13, by omega, by omega, i14.2.2⟩
theorem RI_p (h : RI P p) (hp : p < 30) : RI P (p + 1) := by
  have h' := h
  obtain ⟨hS0, i1, i2, i3, i4, i5, i6, i7, i8, i9, i10, i11, i12, i13, i14⟩ := h
  exact RI_up h' hp hS0 (by omega) (Int.le_refl _) rfl rfl (fun _ _ => rfl) (LvP_mono (i8 _ i4) (Int.le_refl _) (by omega)) rfl ⟨i11, i12⟩ i13 (by omega) rfl
end RIS
