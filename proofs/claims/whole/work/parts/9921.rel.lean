/-! the class's content and the reference's row of ints -/
def scr (k : Nat) : Prop := k = 49 ∨ k = 51 ∨ k = 54 ∨ k = 56 ∨ k = 58 ∨ k = 60 ∨ k = 62 ∨ k = 64 ∨ k = 66 ∨ k = 74 ∨ k = 75
def SOK (C : CS) : Prop := (0 ≤ C.1 49 ∧ C.1 49 ≤ 1231) ∧ (0 ≤ C.1 51 ∧ C.1 51 ≤ 12) ∧ (0 ≤ C.1 54 ∧ C.1 54 ≤ 64) ∧ (0 ≤ C.1 56 ∧ C.1 56 ≤ 64) ∧ (0 ≤ C.1 58 ∧ C.1 58 ≤ 128) ∧ (0 ≤ C.1 60 ∧ C.1 60 ≤ 41) ∧ (0 ≤ C.1 62 ∧ C.1 62 ≤ 41) ∧ (0 ≤ C.1 64 ∧ C.1 64 ≤ 4) ∧ (0 ≤ C.1 66 ∧ C.1 66 ≤ 40)
/-- behind a question: what lasts is as it was -/
def QF (C C' : CS) : Prop := (∀ k, ¬ scr k → C'.1 k = C.1 k) ∧ (∀ k, ¬ scr k → C'.2.1 k = C.2.1 k) ∧ C'.2.2.1 = C.2.2.1 ∧ SOK C'
/-- a pattern that lies at a -/
def PP (M0 : JM) (x a : Nat) (G : Int → Int) (p : Int) : Prop := x + 96 ≤ a ∧ a + 8 < M0.1 ∧ ∃ c', PTO M0 a (G (1 + p)) c' (PT G p).1 (PT G p).2 ∧ ∀ i, 0 ≤ i → i < G (1 + p) → c' i = pc G p i
/-- a content at o -/
def CG (M0 : JM) (x : Nat) (C : CS) (o : Nat) (G : Int → Int) : Prop := GOK G ∧ C.1 o = G 0 ∧ C.1 (o + 2) = G 125 ∧ (∀ k, 0 ≤ k → k < G 125 → C.2.1 (o + 2) k = tx G k) ∧ ∀ p, 0 ≤ p → p < G 0 → ∃ a, C.2.2.1 o p = .ref a ∧ PP M0 x a G p
section REL
variable {X : JX} {d : Nat} {M0 M1 : JM} {x a : Nat} {C C' : CS} {G : Int → Int} {Q : JR → JM → Prop} {p fr gr k : Int}
theorem QF.refl (h : SOK C) : QF C C := ⟨fun _ _ => rfl, fun _ _ => rfl, rfl, h⟩
theorem QF.trans {A B C : CS} (h : QF A B) (h' : QF B C) : QF A C := ⟨fun k a => (h'.1 k a).trans (h.1 k a), fun k a => (h'.2.1 k a).trans (h.2.1 k a), h'.2.2.1.trans h.2.2.1, h'.2.2.2⟩
theorem QF_bf (h : SOK C) (hb : BF C C') (h1 : C'.1 51 = 12) (h2 : 0 ≤ C'.1 49) (h3 : C'.1 49 ≤ 1231) : QF C C' := by
  refine ⟨fun k a => hb.1 k (fun q => a (Or.inl q)) (fun q => a (Or.inr (Or.inl q))), fun k a => hb.2.1 k (fun q => a (Or.inl q)) (fun q => a (Or.inr (Or.inl q))), hb.2.2.1, ?_⟩
  obtain ⟨s1, s2, s3, s4, s5, s6, s7, s8, s9⟩ := h
  have e := fun k => hb.1 k
  unfold SOK
  rw [e 54 (by omega) (by omega), e 56 (by omega) (by omega), e 58 (by omega) (by omega), e 60 (by omega) (by omega), e 62 (by omega) (by omega), e 64 (by omega) (by omega), e 66 (by omega) (by omega)]
  omega
theorem QF_tf (h : SOK C) (hb : TF C C') (h1 : 0 ≤ C'.1 54 ∧ C'.1 54 ≤ 64) (h2 : 0 ≤ C'.1 56 ∧ C'.1 56 ≤ 64) (h3 : 0 ≤ C'.1 58 ∧ C'.1 58 ≤ 128) : QF C C' := by
  refine ⟨fun k a => ?_, fun k a => ?_, hb.2.2.1, ?_⟩
  · unfold scr at a
    exact hb.1 k (by omega) (by omega) (by omega) (by omega) (by omega)
  · unfold scr at a
    exact hb.2.1 k (by omega) (by omega) (by omega)
  obtain ⟨s1, s2, s3, s4, s5, s6, s7, s8, s9⟩ := h
  have e := fun k => hb.1 k
  unfold SOK
  rw [e 49 (by omega) (by omega) (by omega) (by omega) (by omega), e 51 (by omega) (by omega) (by omega) (by omega) (by omega), e 60 (by omega) (by omega) (by omega) (by omega) (by omega), e 62 (by omega) (by omega) (by omega) (by omega) (by omega), e 64 (by omega) (by omega) (by omega) (by omega) (by omega), e 66 (by omega) (by omega) (by omega) (by omega) (by omega)]
  omega
theorem CG_qf {o : Nat} (ho : isC o) (h : CG M0 x C o G) (hq : QF C C') : CG M0 x C' o G := by
  obtain ⟨a1, a2, a3, a4, a5⟩ := h
  have n1 : ¬ scr o := by
    unfold scr
    unfold isC at ho
    omega
  have n2 : ¬ scr (o + 2) := by
    unfold scr
    unfold isC at ho
    omega
  refine ⟨a1, (hq.1 _ n1).trans a2, (hq.1 _ n2).trans a3, fun k h0 h1 => ?_, fun p h0 h1 => ?_⟩
  · rw [hq.2.1 _ n2]
    exact a4 k h0 h1
  · rw [hq.2.2.1]
    exact a5 p h0 h1
theorem PV_pp (h : PP M0 x a G p) : PV M0 x (.ref a) := by
  obtain ⟨h1, h2, c', ⟨k, f, s, hP, _⟩, _⟩ := h
  refine ⟨a, rfl, by omega, ?_⟩
  unfold mcl
  rw [hP.1]
theorem PA_mcl (h : PP M0 x a G p) : mcl (cm M0 x C) a = some 4 := by
  obtain ⟨h1, h2, c', ⟨k, f, s, hP, _⟩, _⟩ := h
  unfold mcl
  rw [cm_ne (by omega), hP.1]
theorem PA_f4 {mid pc : Nat} {L : List (Option Value)} {st : List Value} (h : PP M0 x a G p) : yg ((cm M0 x C).2.2 a) 4 4 X d mid pc L st (cm M0 x C) Q = XX X d mid (pc, L, .int (ii (PT G p).1) :: st, cm M0 x C) Q := by
  obtain ⟨h1, h2, c', ⟨k, f, s, hP, _⟩, _⟩ := h
  rw [cm_ne (by omega), hP.1]
  exact yg_s rfl
theorem PA_f5 {mid pc : Nat} {L : List (Option Value)} {st : List Value} (h : PP M0 x a G p) : yg ((cm M0 x C).2.2 a) 4 5 X d mid pc L st (cm M0 x C) Q = XX X d mid (pc, L, .int (ii (tsh (PT G p).2)) :: st, cm M0 x C) Q := by
  obtain ⟨h1, h2, c', ⟨k, f, s, hP, _⟩, _⟩ := h
  rw [cm_ne (by omega), hP.1]
  exact yg_s rfl
theorem PA_f6 {mid pc : Nat} {L : List (Option Value)} {st : List Value} (h : PP M0 x a G p) : yg ((cm M0 x C).2.2 a) 4 6 X d mid pc L st (cm M0 x C) Q = XX X d mid (pc, L, .int (ii (tlo (PT G p).2)) :: st, cm M0 x C) Q := by
  obtain ⟨h1, h2, c', ⟨k, f, s, hP, _⟩, _⟩ := h
  rw [cm_ne (by omega), hP.1]
  exact yg_s rfl
theorem PA_f0 {mid pc : Nat} {L : List (Option Value)} {st : List Value} (h : PP M0 x a G p) : yg ((cm M0 x C).2.2 a) 4 0 X d mid pc L st (cm M0 x C) Q = XX X d mid (pc, L, .ref (a + 1) :: st, cm M0 x C) Q := by
  obtain ⟨h1, h2, c', ⟨k, f, s, hP, _⟩, _⟩ := h
  rw [cm_ne (by omega), hP.1]
  exact yg_s rfl
theorem RW_out {n : Nat} {s : Int} {c : Int → Int} (ha : x + 70 ≤ a) (h : RW M0 a n s c) : RW (cm M0 x C) a n s c := by
  obtain ⟨h1, h2, h3⟩ := h
  exact ⟨by rw [cm_ne (by omega)]; exact h1, by rw [cm_ne (by omega)]; exact h2, h3⟩
theorem PA_row (h : PP M0 x a G p) : ∃ c', RW (cm M0 x C) (a + 1) 30 (G (1 + p)) c' ∧ ∀ i, 0 ≤ i → i < G (1 + p) → c' i = pc G p i := by
  obtain ⟨h1, h2, c', ⟨k, f, s, hP, _⟩, hc⟩ := h
  exact ⟨c', RW_out (by omega) hP.2.1, hc⟩
/-- the searches of the class find what the reference finds -/
theorem mR_eq (hC : CG M0 x C 5 G) {c' : Int → Int} (hp : vP G p) (hc : ∀ i, 0 ≤ i → i < G (1 + p) → c' i = pc G p i) {wh : Bool} {s : Int} (hs : 0 ≤ s) : mRt c' (C.2.1 7) (C.1 7) (PT G p).2 wh s = mG G p wh s := by
  obtain ⟨hk, a2, a3, a4, a5⟩ := hC
  have a3 : C.1 7 = G 125 := a3
  have a4 : ∀ k, 0 ≤ k → k < G 125 → C.2.1 7 k = tx G k := a4
  have hpp := hk.2.2.1 p hp.1 hp.2
  have hW : TW (G (1 + p)) (PT G p).2 := PS_TW hpp.1 hpp.2.2.2
  rw [a3]
  exact mRt_ext hc a4 hW hs
theorem sR_eq (hC : CG M0 x C 5 G) {c' : Int → Int} (hp : vP G p) (hc : ∀ i, 0 ≤ i → i < G (1 + p) → c' i = pc G p i) (hf : 0 ≤ fr) : skR (mRt c' (C.2.1 7) (C.1 7) (PT G p).2 false) (C.1 7) fr = sG G p fr := by
  unfold skR sG skR
  rw [show C.1 7 = G 125 from hC.2.2.1]
  refine fstS_ext _ fr hf (fun s hs => ?_)
  have := mR_eq (wh := false) hC hp hc hs
  rw [show C.1 7 = G 125 from hC.2.2.1] at this
  exact this
theorem CG_tx (hC : CG M0 x C 5 G) : (0 ≤ C.1 7 ∧ C.1 7 ≤ 40) ∧ ∀ j, 0 ≤ j → j < C.1 7 → 0 ≤ C.2.1 7 j ∧ C.2.1 7 j ≤ 65535 := by
  obtain ⟨hk, a2, a3, a4, a5⟩ := hC
  have a3 : C.1 7 = G 125 := a3
  have a4 : ∀ k, 0 ≤ k → k < G 125 → C.2.1 7 k = tx G k := a4
  have ht := hk.2.2.2
  refine ⟨⟨by have := ht.1; omega, by have := ht.2.1; omega⟩, fun j h0 h1 => ?_⟩
  rw [a4 j h0 (by omega)]
  exact ht.2.2 j h0 (by have := ht.2.1; omega)
end REL
