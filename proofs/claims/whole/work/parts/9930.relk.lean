/-! class and reference: what is kept alike -/
section RLK
variable {B B' : JM} {x a o b : Nat} {C C' : CS} {G G' : Int → Int} {p q : Int}
theorem PT_ext (h1 : G' (1 + q) = G (1 + p)) (h2 : ∀ i, 0 ≤ i → i < G (1 + p) → pc G' q i = pc G p i) : PS (pc G' q) (G' (1 + q)) = PS (pc G p) (G (1 + p)) ∧ PT G' q = PT G p := by
  have e : PS (pc G' q) (G' (1 + q)) = PS (pc G p) (G (1 + p)) := by
    rw [h1]
    exact PS_ext h2
  refine ⟨e, ?_⟩
  unfold PT
  rw [e]
theorem PP_ext (h : PP B x a G p) (h1 : G' (1 + q) = G (1 + p)) (h2 : ∀ i, 0 ≤ i → i < G (1 + p) → pc G' q i = pc G p i) : PP B x a G' q := by
  obtain ⟨a1, a2, c', hP, hc⟩ := h
  refine ⟨a1, a2, c', ?_, fun i i0 i1 => ?_⟩
  · rw [h1, (PT_ext h1 h2).2]
    exact hP
  · rw [h1] at i1
    rw [h2 i i0 i1]
    exact hc i i0 i1
theorem RW_b {n : Nat} {s : Int} {c : Int → Int} (h : RW B a n s c) (h1 : B'.2.2 a = B.2.2 a) (h2 : B'.2.2 (a + 1) = B.2.2 (a + 1)) : RW B' a n s c := ⟨h1.trans h.1, h2.trans h.2.1, h.2.2⟩
/-- memory that grew: what lies from x + 96 on stays -/
def BX (x : Nat) (B B' : JM) : Prop := B.1 ≤ B'.1 ∧ ∀ b, x + 96 ≤ b → b < B.1 → B'.2.2 b = B.2.2 b
theorem BX.refl (x : Nat) (B : JM) : BX x B B := ⟨Nat.le_refl _, fun _ _ _ => rfl⟩
theorem BX.trans {A D : JM} (h : BX x A B) (h' : BX x B D) : BX x A D := ⟨Nat.le_trans h.1 h'.1, fun b h1 h2 => (h'.2 b h1 (Nat.lt_of_lt_of_le h2 h.1)).trans (h.2 b h1 h2)⟩
theorem PTO_b {n : Int} {c : Int → Int} {g : Int} {t : RT} (h : PTO B a n c g t) (hb : ∀ j, j ≤ 8 → B'.2.2 (a + j) = B.2.2 (a + j)) : PTO B' a n c g t := by
  obtain ⟨k, f, s, ⟨p1, p2, p3, p4, p5⟩, hr⟩ := h
  have e : ∀ j, j ≤ 7 → B'.2.2 (a + j + 1) = B.2.2 (a + j + 1) := fun j hj => hb (j + 1) (by omega)
  exact ⟨k, f, s, ⟨(hb 0 (by omega)).trans p1, RW_b p2 (hb 1 (by omega)) (hb 2 (by omega)), RW_b p3 (hb 3 (by omega)) (hb 4 (by omega)), RW_b p4 (hb 5 (by omega)) (hb 6 (by omega)), RW_b p5 (hb 7 (by omega)) (hb 8 (by omega))⟩, hr⟩
theorem PP_b (h : PP B x a G p) (hb : BX x B B') : PP B' x a G p := by
  obtain ⟨a1, a2, c', hP, hc⟩ := h
  have := hb.1
  exact ⟨a1, by omega, c', PTO_b hP (fun j hj => hb.2 _ (by omega) (by omega)), hc⟩
theorem CG_b (h : CG B x C o G) (hb : BX x B B') : CG B' x C o G := by
  obtain ⟨a1, a2, a3, a4, a5⟩ := h
  refine ⟨a1, a2, a3, a4, fun p h0 h1 => ?_⟩
  obtain ⟨a, e, hP⟩ := a5 p h0 h1
  exact ⟨a, e, PP_b hP hb⟩
theorem GOK_ext (h : GOK G) (he : ∀ k, 0 ≤ k → k < 166 → G' k = G k) : GOK G' := by
  obtain ⟨h0, h1, h2, t0, t1, t2⟩ := h
  have e0 := he 0 (by omega) (by omega)
  have e125 := he 125 (by omega) (by omega)
  refine ⟨by omega, by omega, fun p p0 p1 => ?_, by omega, by omega, fun k k0 k1 => ?_⟩
  · obtain ⟨b1, b2, b3, b4⟩ := h2 p p0 (by omega)
    have e1 : G' (1 + p) = G (1 + p) := he _ (by omega) (by omega)
    obtain ⟨c1, c2⟩ := PT_ext (G' := G') (q := p) e1 (fun i i0 i1 => he _ (by omega) (by omega))
    refine ⟨by omega, by omega, fun k k0 k1 => ?_, ?_⟩
    · rw [he _ (by omega) (by omega)]
      exact b3 k k0 k1
    · rw [c1, c2]
      exact b4
  · rw [he _ (by omega) (by omega)]
    exact t2 k k0 k1
theorem CG_ext (h : CG B x C o G) (he : ∀ k, 0 ≤ k → k < 166 → G' k = G k) : CG B x C o G' := by
  obtain ⟨a1, a2, a3, a4, a5⟩ := h
  have e0 := he 0 (by omega) (by omega)
  have e125 := he 125 (by omega) (by omega)
  have t1 := a1.2.2.2.2.1
  refine ⟨GOK_ext a1 he, by omega, by omega, fun k k0 k1 => ?_, fun p p0 p1 => ?_⟩
  · rw [a4 k k0 (by omega)]
    exact (he _ (by omega) (by omega)).symm
  · obtain ⟨a, e, hP⟩ := a5 p p0 (by omega)
    have hb := a1.2.2.1 p p0 (by omega)
    have h4 := a1.2.1
    exact ⟨a, e, PP_ext hP (he _ (by omega) (by omega)) (fun i i0 i1 => he _ (by omega) (by omega))⟩
/-- a content by its own keys alone -/
theorem CG_k (h : CG B x C o G) (h1 : C'.1 o = C.1 o) (h2 : C'.1 (o + 2) = C.1 (o + 2)) (h3 : C'.2.1 (o + 2) = C.2.1 (o + 2)) (h4 : C'.2.2.1 o = C.2.2.1 o) : CG B x C' o G := by
  obtain ⟨a1, a2, a3, a4, a5⟩ := h
  refine ⟨a1, h1.trans a2, h2.trans a3, fun k k0 k1 => ?_, fun p p0 p1 => ?_⟩
  · rw [h3]
    exact a4 k k0 k1
  · rw [h4]
    exact a5 p p0 p1
theorem CG_cp (ha : isC a) (hb : isC b) (hab : a ≠ b) (h : CG B x C b G) : CG B x (cpC C a b) a G := by
  obtain ⟨a1, a2, a3, a4, a5⟩ := h
  have i1 := isC_2 ha hb
  have i2 := isC_2 hb ha
  have t0 := a1.2.2.2.1
  refine ⟨a1, ?_, fu_s.trans a3, fun k k0 k1 => ?_, fun p p0 p1 => ?_⟩
  · show uN (uN C.1 a (C.1 b)) (a + 2) (C.1 (b + 2)) a = _
    rw [uN_n (by omega), uN_s]
    exact a2
  · show uA C.2.1 (a + 2) (apn (C.2.1 (a + 2)) 0 (C.2.1 (b + 2)) 0 (C.1 (b + 2))) (a + 2) k = _
    rw [uA_s]
    unfold apn
    rw [if_pos (by omega), show (0 : Int) + (k - 0) = k by omega]
    exact a4 k k0 k1
  · obtain ⟨c, e, hP⟩ := a5 p p0 p1
    refine ⟨c, ?_, hP⟩
    show uG C.2.2.1 a (cpv (C.2.2.1 a) (C.2.2.1 b) (C.1 b)) a p = _
    rw [uG_s]
    unfold cpv
    rw [if_pos (by omega)]
    exact e
theorem CG_cn (ha : isC a) (hb : isC b) (ho : isC o) (hoa : o ≠ a) (h : CG B x C o G) : CG B x (cpC C a b) o G := by
  have i1 := isC_2 ho ha
  have i2 := isC_2 ha ho
  refine CG_k h ?_ ?_ ?_ ?_
  · show uN (uN C.1 a (C.1 b)) (a + 2) (C.1 (b + 2)) o = _
    rw [uN_n (by omega), uN_n (by omega)]
  · show uN (uN C.1 a (C.1 b)) (a + 2) (C.1 (b + 2)) (o + 2) = _
    rw [uN_n (by omega), uN_n (by omega)]
  · show uA C.2.1 (a + 2) (apn (C.2.1 (a + 2)) 0 (C.2.1 (b + 2)) 0 (C.1 (b + 2))) (o + 2) = _
    rw [uA_n (by omega)]
  · show uG C.2.2.1 a (cpv (C.2.2.1 a) (C.2.2.1 b) (C.1 b)) o = _
    rw [uG_n hoa]
theorem cpC_n {k : Nat} (h1 : k ≠ a) (h2 : k ≠ a + 2) : (cpC C a b).1 k = C.1 k := by
  show uN (uN C.1 a (C.1 b)) (a + 2) (C.1 (b + 2)) k = _
  rw [uN_n h2, uN_n h1]
theorem cpC_a {k : Nat} (h2 : k ≠ a + 2) : (cpC C a b).2.1 k = C.2.1 k := by
  show uA C.2.1 (a + 2) (apn (C.2.1 (a + 2)) 0 (C.2.1 (b + 2)) 0 (C.1 (b + 2))) k = _
  rw [uA_n h2]
end RLK
/-- the parts of the relation -/
def RZ (B : JM) (x : Nat) (C : CS) : Prop := SOK C ∧ x + 96 ≤ B.1 ∧ (0 ≤ C.1 13 ∧ C.1 13 < 8) ∧ ∀ o, isC o → 0 ≤ C.1 (o + 2) ∧ C.1 (o + 2) ≤ 40
def RS1 (B : JM) (x : Nat) (C : CS) (S : MS) : Prop := (S.1 3 = 0 ∨ S.1 3 = 1) ∧ C.1 70 = S.1 3 ∧ (S.1 3 = 1 → CG B x C 9 (S.2 2))
def RH (B : JM) (x : Nat) (C : CS) (S : MS) : Prop := (0 ≤ S.1 4 ∧ S.1 4 ≤ 8) ∧ C.1 14 = S.1 4 ∧ ∀ i, 0 ≤ i → i < S.1 4 → CG B x C (hs C i) (fun k => S.2 1 (166 * i + k))
def RPb (C : CS) (S : MS) : Prop := C.1 1 = S.1 7 ∧ (0 ≤ S.1 7 ∧ S.1 7 ≤ 30) ∧ ∀ k, 0 ≤ k → k < S.1 7 → C.2.1 1 k = S.2 3 k ∧ 0 ≤ S.2 3 k ∧ S.2 3 k ≤ 65535
def RTb (C : CS) (S : MS) : Prop := C.1 3 = S.1 9 ∧ (0 ≤ S.1 9 ∧ S.1 9 ≤ 40) ∧ ∀ k, 0 ≤ k → k < S.1 9 → C.2.1 3 k = S.2 4 k ∧ 0 ≤ S.2 4 k ∧ S.2 4 k ≤ 65535
def RFl (C : CS) (S : MS) : Prop := C.1 71 = S.1 10 ∧ (-1 ≤ S.1 10 ∧ S.1 10 ≤ 30) ∧ (0 ≤ S.1 10 → C.1 72 = S.1 11 ∧ C.1 73 = S.1 12 ∧ I32 (S.1 11) ∧ I32 (S.1 12))
def RLn (C : CS) (S : MS) : Prop := C.1 68 = S.1 14 ∧ (0 ≤ S.1 14 ∧ S.1 14 ≤ 122) ∧ ∀ k, 0 ≤ k → k < S.1 14 → C.2.1 68 k = S.2 5 k ∧ 0 ≤ S.2 5 k ∧ S.2 5 k ≤ 65535
def REL (B : JM) (x : Nat) (C : CS) (S : MS) : Prop := RZ B x C ∧ CG B x C 5 (S.2 0) ∧ RS1 B x C S ∧ RH B x C S ∧ RPb C S ∧ RTb C S ∧ RFl C S ∧ RLn C S
section RLT
variable {B B' : JM} {x : Nat} {C C' : CS} {S S' : MS}
theorem hs_e (h : C'.1 13 = C.1 13) (i : Int) : hs C' i = hs C i := by
  unfold hs
  rw [h]
theorem REL_b (h : REL B x C S) (hb : BX x B B') : REL B' x C S := by
  obtain ⟨⟨z1, z2, z3⟩, h1, ⟨s1, s2, s3⟩, ⟨k1, k2, k3⟩, hr⟩ := h
  exact ⟨⟨z1, Nat.le_trans z2 hb.1, z3⟩, CG_b h1 hb, ⟨s1, s2, fun q => CG_b (s3 q) hb⟩, ⟨k1, k2, fun i i0 i1 => CG_b (k3 i i0 i1) hb⟩, hr⟩
theorem REL_q (h : REL B x C S) (hq : QF C C') (hr : RQ S S') : REL B x C' S' := by
  obtain ⟨⟨z1, z2, z3, z4⟩, h1, ⟨s1, s2, s3⟩, ⟨k1, k2, k3⟩, ⟨p1, p2, p3⟩, ⟨t1, t2, t3⟩, ⟨f1, f2, f3⟩, ⟨l1, l2, l3⟩⟩ := h
  have e := fun k (hk : ¬ scr k) => hq.1 k hk
  have ea := fun k (hk : ¬ scr k) => hq.2.1 k hk
  have n : ∀ o, isC o → ¬ scr (o + 2) := by
    intro o ho
    unfold scr
    unfold isC at ho
    omega
  refine ⟨⟨hq.2.2.2, z2, ?_, fun o ho => ?_⟩, ?_, ⟨?_, ?_, fun h3 => ?_⟩, ⟨?_, ?_, fun i i0 i1 => ?_⟩, ⟨?_, ?_, fun k k0 k1 => ?_⟩, ⟨?_, ?_, fun k k0 k1 => ?_⟩, ⟨?_, ?_, fun h10 => ?_⟩, ⟨?_, ?_, fun k k0 k1 => ?_⟩⟩
  · rw [e 13 (by unfold scr; omega)]
    exact z3
  · rw [e _ (n o ho)]
    exact z4 o ho
  · rw [hr.2 0 (by omega)]
    exact CG_qf (Or.inl rfl) h1 hq
  · rw [hr.1 3 (by omega)]
    exact s1
  · rw [hr.1 3 (by omega), e 70 (by unfold scr; omega)]
    exact s2
  · rw [hr.1 3 (by omega)] at h3
    rw [hr.2 2 (by omega)]
    exact CG_qf (Or.inr (Or.inl rfl)) (s3 h3) hq
  · rw [hr.1 4 (by omega)]
    exact k1
  · rw [hr.1 4 (by omega), e 14 (by unfold scr; omega)]
    exact k2
  · rw [hr.1 4 (by omega)] at i1
    rw [hr.2 1 (by omega), hs_e (e 13 (by unfold scr; omega))]
    exact CG_qf (isC_hs z3.1 i0) (k3 i i0 i1) hq
  · rw [hr.1 7 (by omega), e 1 (by unfold scr; omega)]
    exact p1
  · rw [hr.1 7 (by omega)]
    exact p2
  · rw [hr.1 7 (by omega)] at k1
    rw [hr.2 3 (by omega), ea 1 (by unfold scr; omega)]
    exact p3 k k0 k1
  · rw [hr.1 9 (by omega), e 3 (by unfold scr; omega)]
    exact t1
  · rw [hr.1 9 (by omega)]
    exact t2
  · rw [hr.1 9 (by omega)] at k1
    rw [hr.2 4 (by omega), ea 3 (by unfold scr; omega)]
    exact t3 k k0 k1
  · rw [hr.1 10 (by omega), e 71 (by unfold scr; omega)]
    exact f1
  · rw [hr.1 10 (by omega)]
    exact f2
  · rw [hr.1 10 (by omega)] at h10
    rw [hr.1 11 (by omega), hr.1 12 (by omega), e 72 (by unfold scr; omega), e 73 (by unfold scr; omega)]
    exact f3 h10
  · rw [hr.1 14 (by omega), e 68 (by unfold scr; omega)]
    exact l1
  · rw [hr.1 14 (by omega)]
    exact l2
  · rw [hr.1 14 (by omega)] at k1
    rw [hr.2 5 (by omega), ea 68 (by unfold scr; omega)]
    exact l3 k k0 k1
end RLT
