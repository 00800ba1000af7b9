/-! the relation, part by part; the history remembers -/
def KX (K : Nat → Prop) (C C' : CS) : Prop := (∀ k, ¬ K k → C'.1 k = C.1 k) ∧ (∀ k, ¬ K k → C'.2.1 k = C.2.1 k) ∧ ∀ k, ¬ K k → C'.2.2.1 k = C.2.2.1 k
def HK (k : Nat) : Prop := 13 ≤ k ∧ k < 47
theorem KX.refl (K : Nat → Prop) (C : CS) : KX K C C := ⟨fun _ _ => rfl, fun _ _ => rfl, fun _ _ => rfl⟩
theorem KX.trans {K : Nat → Prop} {A B C : CS} (h : KX K A B) (h' : KX K B C) : KX K A C := ⟨fun k a => (h'.1 k a).trans (h.1 k a), fun k a => (h'.2.1 k a).trans (h.2.1 k a), fun k a => (h'.2.2 k a).trans (h.2.2 k a)⟩
theorem KX.w {K K' : Nat → Prop} {A B : CS} (h : KX K A B) (hk : ∀ k, K k → K' k) : KX K' A B := ⟨fun k a => h.1 k (fun q => a (hk k q)), fun k a => h.2.1 k (fun q => a (hk k q)), fun k a => h.2.2 k (fun q => a (hk k q))⟩
section RLH
variable {B B' : JM} {x : Nat} {C C' : CS} {S S' : MS} {K : Nat → Prop} {ks js : List Nat} {G : Int → Int}
theorem KX_n {k : Nat} {z : Int} (hk : K k) : KX K C (uN C.1 k z, C.2) := ⟨fun j a => uN_n (fun q => a (q ▸ hk)), fun _ _ => rfl, fun _ _ => rfl⟩
theorem KX_r {k : Nat} {z : Int} {c : Int → Int} (hk : K k) : KX K C (uN C.1 k z, uA C.2.1 k c, C.2.2) := ⟨fun j a => uN_n (fun q => a (q ▸ hk)), fun j a => uA_n (fun q => a (q ▸ hk)), fun _ _ => rfl⟩
theorem KX_cp {a b : Nat} (h1 : K a) (h2 : K (a + 2)) : KX K C (cpC C a b) := ⟨fun j q => cpC_n (fun e => q (e ▸ h1)) (fun e => q (e ▸ h2)), fun j q => cpC_a (fun e => q (e ▸ h2)), fun j q => uG_n (fun e => q (e ▸ h1))⟩
theorem SOK_k (h : SOK C) (hk : KX K C C') (hK : ∀ k, scr k → ¬ K k) : SOK C' := by
  unfold SOK at h ⊢
  rw [hk.1 49 (hK 49 (by unfold scr; omega)), hk.1 51 (hK 51 (by unfold scr; omega)), hk.1 54 (hK 54 (by unfold scr; omega)), hk.1 56 (hK 56 (by unfold scr; omega)), hk.1 58 (hK 58 (by unfold scr; omega)), hk.1 60 (hK 60 (by unfold scr; omega)), hk.1 62 (hK 62 (by unfold scr; omega)), hk.1 64 (hK 64 (by unfold scr; omega)), hk.1 66 (hK 66 (by unfold scr; omega))]
  exact h
theorem CG_kx {o : Nat} (h : CG B x C o G) (hk : KX K C C') (h1 : ¬ K o) (h2 : ¬ K (o + 2)) : CG B x C' o G := CG_k h (hk.1 _ h1) (hk.1 _ h2) (hk.2.1 _ h2) (hk.2.2 _ h1)
theorem RS1_f (h : RS1 B x C S) (hk : KX K C C') (he : EX ks js S S') (k1 : ¬ K 70) (k2 : ¬ K 9) (k3 : ¬ K 11) (s3 : 3 ∉ ks) (a2 : 2 ∉ js) : RS1 B x C' S' := by
  obtain ⟨h1, h2, h3⟩ := h
  have e3 := he.1 3 (by decide) s3
  have e2 := he.2 2 (by omega) a2
  unfold RS1
  rw [e3, e2, hk.1 70 k1]
  exact ⟨h1, h2, fun q => CG_kx (h3 q) hk k2 k3⟩
theorem RPb_f (h : RPb C S) (hk : KX K C C') (he : EX ks js S S') (k1 : ¬ K 1) (s7 : 7 ∉ ks) (a3 : 3 ∉ js) : RPb C' S' := by
  unfold RPb at h ⊢
  rw [he.1 7 (by decide) s7, he.2 3 (by omega) a3, hk.1 1 k1, hk.2.1 1 k1]
  exact h
theorem RTb_f (h : RTb C S) (hk : KX K C C') (he : EX ks js S S') (k1 : ¬ K 3) (s7 : 9 ∉ ks) (a3 : 4 ∉ js) : RTb C' S' := by
  unfold RTb at h ⊢
  rw [he.1 9 (by decide) s7, he.2 4 (by omega) a3, hk.1 3 k1, hk.2.1 3 k1]
  exact h
theorem RFl_f (h : RFl C S) (hk : KX K C C') (he : EX ks js S S') (k1 : ¬ K 71) (k2 : ¬ K 72) (k3 : ¬ K 73) (s10 : 10 ∉ ks) (s11 : 11 ∉ ks) (s12 : 12 ∉ ks) : RFl C' S' := by
  unfold RFl at h ⊢
  rw [he.1 10 (by decide) s10, he.1 11 (by decide) s11, he.1 12 (by decide) s12, hk.1 71 k1, hk.1 72 k2, hk.1 73 k3]
  exact h
theorem RLn_f (h : RLn C S) (hk : KX K C C') (he : EX ks js S S') (k1 : ¬ K 68) (s14 : 14 ∉ ks) (a5 : 5 ∉ js) : RLn C' S' := by
  unfold RLn at h ⊢
  rw [he.1 14 (by decide) s14, he.2 5 (by omega) a5, hk.1 68 k1, hk.2.1 68 k1]
  exact h
theorem hs_rg (h : 0 ≤ C.1 13) {i : Int} (hi : 0 ≤ i) : 15 ≤ hs C i ∧ hs C i + 2 < 47 ∧ isC (hs C i) := by
  have h8 : (C.1 13 + i) % 8 < 8 := by omega
  refine ⟨?_, ?_, isC_hs h hi⟩
  · unfold hs
    omega
  · unfold hs
    omega
theorem RH_kx (hz : 0 ≤ C.1 13) (h : RH B x C S) (hk : KX K C C') (hK : ∀ k, HK k → ¬ K k) : RH B x C' S := by
  obtain ⟨h1, h2, h3⟩ := h
  have e13 := hk.1 13 (hK 13 (by unfold HK; omega))
  have e14 := hk.1 14 (hK 14 (by unfold HK; omega))
  refine ⟨h1, e14.trans h2, fun i i0 i1 => ?_⟩
  obtain ⟨a1, a2, a3⟩ := hs_rg hz i0
  rw [hs_e e13]
  exact CG_kx (h3 i i0 i1) hk (hK _ (by unfold HK; omega)) (hK _ (by unfold HK; omega))
theorem RH_s (h : RH B x C S) (h4 : S'.1 4 = S.1 4) (h1 : S'.2 1 = S.2 1) : RH B x C S' := by
  unfold RH at h ⊢
  rw [h4, h1]
  exact h
theorem hfr_k : KX (fun k => k = 13 ∨ k = 14) C (hfr C) := by
  unfold hfr
  split
  · exact KX.refl _ _
  · exact ⟨fun j a => (fu_n (fun q => a (Or.inr q))).trans (uN_n (fun q => a (Or.inl q))), fun _ _ => rfl, fun _ _ => rfl⟩
theorem hfr_rg (h : 0 ≤ C.1 13 ∧ C.1 13 < 8) (h14 : 0 ≤ C.1 14 ∧ C.1 14 ≤ 8) : (0 ≤ (hfr C).1 13 ∧ (hfr C).1 13 < 8) ∧ (0 ≤ (hfr C).1 14 ∧ (hfr C).1 14 ≤ 7) ∧ (hfr C).1 14 = min 7 (C.1 14) ∧ ∀ i, 0 ≤ i → hs (hfr C) i = hs C (i + (if C.1 14 = 8 then 1 else 0)) := by
  unfold hfr
  by_cases h8 : C.1 14 < 8
  · rw [if_pos h8, if_neg (by omega)]
    refine ⟨h, by omega, by omega, fun i _ => by rw [Int.add_zero]⟩
  · rw [if_neg h8, if_pos (by omega)]
    have e13 : ((uN (uN C.1 13 ((C.1 13 + 1) % 8)) 14 7, C.2) : CS).1 13 = (C.1 13 + 1) % 8 := (fu_n (by omega)).trans uN_s
    have e14 : ((uN (uN C.1 13 ((C.1 13 + 1) % 8)) 14 7, C.2) : CS).1 14 = 7 := fu_s
    refine ⟨by omega, by omega, by omega, fun i i0 => ?_⟩
    unfold hs
    rw [e13, show ((C.1 13 + 1) % 8 + i) % 8 = (C.1 13 + (i + 1)) % 8 by omega]
theorem hrm_k (h : 0 ≤ C.1 13 ∧ C.1 13 < 8) (h14 : 0 ≤ C.1 14 ∧ C.1 14 ≤ 8) : KX HK C (hrm C) := by
  obtain ⟨a1, a2, a3, a4⟩ := hfr_rg h h14
  obtain ⟨b1, b2, b3⟩ := hs_rg (C := hfr C) a1.1 a2.1
  have k1 : KX HK C (hfr C) := hfr_k.w (fun k hk => by unfold HK; omega)
  have k2 : KX HK (hfr C) (cpC (hfr C) (hs (hfr C) ((hfr C).1 14)) 5) := KX_cp (by unfold HK; omega) (by unfold HK; omega)
  exact (k1.trans k2).trans (KX_n (by unfold HK; omega))
/-- what the history holds when it has remembered -/
theorem hrm_ok (hz : 0 ≤ C.1 13 ∧ C.1 13 < 8) (hC : CG B x C 5 (S.2 0)) (h : RH B x C S) (hkb : KB S S') : RH B x (hrm C) S' ∧ (0 ≤ (hrm C).1 13 ∧ (hrm C).1 13 < 8) := by
  obtain ⟨h1, h2, h3⟩ := h
  obtain ⟨b1, b2, b3⟩ := hkb
  obtain ⟨a1, a2, a3, a4⟩ := hfr_rg hz (by omega)
  have e8 : C.1 14 = 8 ↔ S.1 4 = 8 := by omega
  have hn : (hfr C).1 14 = S'.1 4 - 1 := by omega
  have hk0 := hfr_k (C := C)
  have hC0 : CG B x (hfr C) 5 (S.2 0) := CG_kx hC hk0 (by omega) (by omega)
  have hH0 : ∀ i, 0 ≤ i → i < (hfr C).1 14 → CG B x (hfr C) (hs (hfr C) i) (fun k => S'.2 1 (166 * i + k)) := by
    intro i i0 i1
    rw [a4 i i0]
    obtain ⟨c1, c2, c3⟩ := hs_rg (C := C) (i := i + (if C.1 14 = 8 then 1 else 0)) hz.1 (by split <;> omega)
    have hx := h3 (i + (if C.1 14 = 8 then 1 else 0)) (by split <;> omega) (by split <;> omega)
    refine CG_ext (CG_kx hx hk0 (by omega) (by omega)) (fun k k0 k1 => ?_)
    have := b2 i k i0 (by omega) k0 k1
    simp only [← e8] at this
    exact this
  unfold hrm
  generalize hfr C = C0 at *
  obtain ⟨d1, d2, d3⟩ := hs_rg (C := C0) a1.1 a2.1
  generalize hst : C0.1 14 = n at *
  have e13 : ((uN (cpC C0 (hs C0 n) 5).1 14 (n + 1), (cpC C0 (hs C0 n) 5).2) : CS).1 13 = C0.1 13 := (fu_n (by omega)).trans (cpC_n (by omega) (by omega))
  have k14 : KX (fun k => k = 14) (cpC C0 (hs C0 n) 5) (uN (cpC C0 (hs C0 n) 5).1 14 (n + 1), (cpC C0 (hs C0 n) 5).2) := KX_n rfl
  refine ⟨⟨by omega, fu_s.trans (by omega), fun i i0 i1 => ?_⟩, by omega⟩
  rw [hs_e e13]
  obtain ⟨f1, f2, f3⟩ := hs_rg (C := C0) a1.1 i0
  by_cases hin : i = n
  · rw [hin]
    refine CG_ext (CG_kx (CG_cp d3 (Or.inl rfl) (by omega) hC0) k14 (by omega) (by omega)) (fun k k0 k1 => ?_)
    have := b3 k k0 k1
    rw [← hn] at this
    exact this
  · have hne : hs C0 i ≠ hs C0 n := by
      unfold hs
      omega
    exact CG_kx (CG_cn d3 (Or.inl rfl) f3 hne (hH0 i i0 (by omega))) k14 (by omega) (by omega)
/-- a content whose text alone changed -/
theorem CG_tx2 {o : Nat} {G' : Int → Int} (h : CG B x C o G) (hj : ∀ j, 0 ≤ j → j < 125 → G' j = G j) (ht : TXok G') (h1 : C'.1 o = C.1 o) (h2 : C'.1 (o + 2) = G' 125) (h3 : ∀ k, 0 ≤ k → k < G' 125 → C'.2.1 (o + 2) k = tx G' k) (h4 : C'.2.2.1 o = C.2.2.1 o) : CG B x C' o G' := by
  obtain ⟨a1, a2, a3, a4, a5⟩ := h
  have e0 := hj 0 (by omega) (by omega)
  obtain ⟨g0, g1, g2, g3⟩ := a1
  refine ⟨⟨by omega, by omega, fun p p0 p1 => ?_, ht⟩, by omega, h2, h3, fun p p0 p1 => ?_⟩
  · obtain ⟨b1, b2, b3, b4⟩ := g2 p p0 (by omega)
    have e1 : G' (1 + p) = G (1 + p) := hj _ (by omega) (by omega)
    obtain ⟨c1, c2⟩ := PT_ext (G' := G') (q := p) e1 (fun i i0 i1 => hj _ (by omega) (by omega))
    refine ⟨by omega, by omega, fun k k0 k1 => ?_, ?_⟩
    · rw [hj _ (by omega) (by omega)]
      exact b3 k k0 k1
    · rw [c1, c2]
      exact b4
  · obtain ⟨a, e, hP⟩ := a5 p p0 (by omega)
    obtain ⟨b1, b2, b3, b4⟩ := g2 p p0 (by omega)
    rw [h4]
    exact ⟨a, e, PP_ext hP (hj _ (by omega) (by omega)) (fun i i0 i1 => hj _ (by omega) (by omega))⟩
end RLH
