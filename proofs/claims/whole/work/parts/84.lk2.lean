/-! the class's steps: where they lead, how many choices; moved along; what each takes -/
section LKT
variable {k f s : Int → Int} {N : Int}
/-- what lies at a step: where it leads (0 .. hi), what it takes (n characters) -/
def StC (k f s : Int → Int) (n hi i : Int) : Prop := (k i = 1 ∧ 0 ≤ f i ∧ f i ≤ 65535) ∨ k i = 2 ∨ ((k i = 3 ∨ k i = 4) ∧ 0 ≤ f i ∧ f i ≤ n ∧ 0 ≤ s i ∧ s i ≤ n) ∨ (k i = 5 ∧ 0 ≤ i + f i ∧ i + f i ≤ hi ∧ 0 ≤ i + s i ∧ i + s i ≤ hi) ∨ (k i = 6 ∧ 0 ≤ i + f i ∧ i + f i ≤ hi) ∨ (k i = 7 ∧ 2 ≤ f i ∧ f i ≤ 11)
def fwC (k : Int → Int) (i : Int) : Int := if k i = 5 ∨ k i = 7 then 1 else 0
def KOp (k f s : Int → Int) (n hi : Int) (t : RT) (mo : Option (Int → Int → Prop)) (b : Int) : Prop := match mo with
  | none => (∀ i, b ≤ i → i < b + tsz t → StC k f s n hi i) ∧ sF (fwC k) b (b + tsz t) = tfk t
  | some J => (∀ j z, b ≤ j → j < b + tsz t + 2 → J j z → 0 ≤ j + z ∧ j + z ≤ hi) → (∀ i, b ≤ i → i < b + tsz t + 2 → StC k f s n hi i) ∧ sF (fwC k) b (b + tsz t + 2) = tfk t + 1
theorem KOp_wrp {t : RT} {P : Int → Prop} {J : Int → Int → Prop} {n hi b : Int} (h0 : 0 ≤ b) (hb : b + tsz t + 2 ≤ hi) (h : wrp k f s (tsz t) P (some J) b) (hP : P (b + 1) → KOp k f s n hi t none (b + 1)) : KOp k f s n hi t (some J) b := by
  intro hJ
  obtain ⟨a1, a2, a3, a4, a5, a6⟩ := h
  have s1 := tsz_0 t
  obtain ⟨p1, p2⟩ := hP a4
  have hj := hJ _ _ (by omega) (by omega) a6
  refine ⟨fun i i0 i1 => ?_, ?_⟩
  · by_cases e1 : i = b
    · rw [e1]; exact Or.inr (Or.inr (Or.inr (Or.inl ⟨a1, by omega, by omega, by omega, by omega⟩)))
    by_cases e2 : i = b + 1 + tsz t
    · rw [e2]; exact Or.inr (Or.inr (Or.inr (Or.inr (Or.inl ⟨a5, by omega, by omega⟩))))
    · exact p1 i (by omega) (by omega)
  · rw [sF_add (b := b + 1) (by omega) (by omega), sF_add (a := b + 1) (b := b + 1 + tsz t) (by omega) (by omega), p2, sF_1 rfl, sF_1 (by omega)]
    unfold fwC
    rw [if_pos (Or.inl a1), if_neg (by omega)]
    omega
theorem LK_op {n hi : Int} : ∀ (t : RT) (mo : Option (Int → Int → Prop)) (b : Int), TW n t → LK k f s t mo b → 0 ≤ b → b + tsz t + (match mo with | none => 0 | some _ => 2) ≤ hi → KOp k f s n hi t mo b := by
  have wr : ∀ (t : RT) (P : Int → Prop), (∀ b, P b → 0 ≤ b → b + tsz t ≤ hi → KOp k f s n hi t none b) → ∀ (mo : Option (Int → Int → Prop)) (b : Int), wrp k f s (tsz t) P mo b → 0 ≤ b → b + tsz t + (match mo with | none => 0 | some _ => 2) ≤ hi → KOp k f s n hi t mo b := by
    intro t P hP mo b h h0 hb
    cases mo with
    | none => exact hP b h h0 (by simpa using hb)
    | some J => exact KOp_wrp h0 (by simpa using hb) h (fun q => hP (b + 1) q (by omega) (by simp only at hb; omega))
  intro t
  induction t with
  | num z =>
    intro mo b hW h h0 hb
    refine wr (.num z) _ (fun b hp h0 hb => ?_) mo b h h0 hb
    by_cases hc : z = 0
    · have e : tsz (.num z) = 0 := if_pos hc
      exact ⟨fun i a c => by omega, by rw [e, Int.add_zero, sF_0]; rfl⟩
    · have hp' : if z = 1 then k b = 2 else k b = 1 ∧ f b = z := by
        rcases hp with hp | hp
        · exact absurd hp hc
        · exact hp
      have e : tsz (.num z) = 1 := if_neg hc
      refine ⟨fun i a c => ?_, ?_⟩
      · rw [show i = b by omega]
        by_cases h1 : z = 1
        · rw [if_pos h1] at hp'
          exact Or.inr (Or.inl hp')
        · rw [if_neg h1] at hp'
          have hz : sgn z := by rcases hW with q | q | q; exact absurd q hc; exact absurd q h1; exact q
          unfold sgn at hz
          exact Or.inl ⟨hp'.1, by omega, by omega⟩
      · rw [e, sF_1 rfl]
        unfold fwC
        rw [if_neg (by split at hp' <;> omega)]; rfl
  | var v =>
    intro mo b hW h h0 hb
    refine wr (.var v) _ (fun b hp h0 hb => ?_) mo b h h0 hb
    have e : tsz (.var v) = 0 := rfl
    exact ⟨fun i a c => by omega, by rw [e, Int.add_zero, sF_0]; rfl⟩
  | add x y ihx ihy =>
    intro mo b hW h h0 hb
    have e : tsz (.add x y) = tsz x + tsz y := rfl
    have z1 := tsz_0 x
    have z2 := tsz_0 y
    refine wr (.add x y) _ (fun b hp h0 hb => ?_) mo b h h0 hb
    obtain ⟨x1, x2⟩ := ihx none b hW.1 hp.1 h0 (by simp only; omega)
    obtain ⟨y1, y2⟩ := ihy none _ hW.2 hp.2 (by omega) (by simp only; omega)
    refine ⟨fun i a c => ?_, ?_⟩
    · by_cases hi : i < b + tsz x
      · exact x1 i a hi
      · exact y1 i (by omega) (by omega)
    · rw [sF_add (b := b + tsz x) (by omega) (by omega), x2, show b + tsz (.add x y) = b + tsz x + tsz y by omega, y2]; rfl
  | sub x y ihx ihy =>
    intro mo b hW h h0 hb
    have e : tsz (.sub x y) = tsz x + tsz y + 2 := rfl
    have ef : tfk (.sub x y) = tfk x + tfk y + 1 := rfl
    have z1 := tsz_0 x
    have z2 := tsz_0 y
    cases mo with
    | none =>
      simp only at hb
      obtain ⟨l1, l2⟩ := h
      obtain ⟨x1, x2⟩ := ihx _ b hW.1 l1 h0 (by simp only; omega) (fun j z _ _ hj => by omega)
      obtain ⟨y1, y2⟩ := ihy none _ hW.2 l2 (by omega) (by simp only; omega)
      refine ⟨fun i a c => ?_, ?_⟩
      · by_cases hi : i < b + tsz x + 2
        · exact x1 i a hi
        · exact y1 i (by omega) (by omega)
      · rw [sF_add (b := b + tsz x + 2) (by omega) (by omega), x2, show b + tsz (.sub x y) = b + tsz x + 2 + tsz y by omega, y2]; omega
    | some J =>
      simp only at hb
      obtain ⟨l1, l2⟩ := h
      intro hJ
      obtain ⟨x1, x2⟩ := ihx _ b hW.1 l1 h0 (by simp only; omega) (fun j z a c hj => hJ j z a (by omega) hj)
      have ey : KOp k f s n hi y (some J) (b + tsz x + 2) := KOp_wrp (by omega) (by omega) l2 (fun q => ihy none _ hW.2 q (by omega) (by simp only; omega))
      obtain ⟨y1, y2⟩ := ey (fun j z a c hj => hJ j z (by omega) (by omega) hj)
      refine ⟨fun i a c => ?_, ?_⟩
      · by_cases hi : i < b + tsz x + 2
        · exact x1 i a hi
        · exact y1 i (by omega) (by omega)
      · rw [sF_add (b := b + tsz x + 2) (by omega) (by omega), x2, show b + tsz (.sub x y) + 2 = b + tsz x + 2 + tsz y + 2 by omega, y2]; omega
  | neg x ihx =>
    intro mo b hW h h0 hb
    have e : tsz (.neg x) = tsz x + 2 := rfl
    have ef : tfk (.neg x) = tfk x + 1 := rfl
    have z1 := tsz_0 x
    refine wr (.neg x) _ (fun b hp h0 hb => ?_) mo b h h0 hb
    obtain ⟨l1, l2, l3, l4, l5, l6⟩ := hp
    obtain ⟨x1, x2⟩ := ihx none _ hW.1 l4 (by omega) (by simp only; omega)
    refine ⟨fun i a c => ?_, ?_⟩
    · by_cases e1 : i = b
      · rw [e1]; exact Or.inr (Or.inr (Or.inr (Or.inl ⟨l1, by omega, by omega, by omega, by omega⟩)))
      by_cases e2 : i = b + 1 + tsz x
      · rw [e2]; exact Or.inr (Or.inr (Or.inr (Or.inr (Or.inl ⟨l5, by omega, by omega⟩))))
      · exact x1 i (by omega) (by omega)
    · rw [sF_add (b := b + 1) (by omega) (by omega), sF_add (a := b + 1) (b := b + 1 + tsz x) (by omega) (by omega), x2, sF_1 rfl, sF_1 (by omega)]
      unfold fwC
      rw [if_pos (Or.inl l1), if_neg (by omega)]
      omega
  | mulL x y _ =>
    intro mo b hW h h0 hb
    have e : ∀ q r, tsz (.mulL q r) = 1 := fun _ _ => rfl
    refine wr (.mulL x y) _ (fun b hp h0 hb => ?_) mo b h h0 hb
    obtain ⟨w1, w2, w3, w4⟩ := hW
    refine ⟨fun i a c => ?_, ?_⟩
    · rw [e] at c
      rw [show i = b by omega]
      split at hp
      · exact Or.inr (Or.inr (Or.inl ⟨Or.inr hp.1, by omega, by omega, by omega, by omega⟩))
      · exact Or.inr (Or.inr (Or.inl ⟨Or.inl hp.1, by omega, by omega, by omega, by omega⟩))
    · rw [e, sF_1 rfl]
      unfold fwC
      rw [if_neg (by split at hp <;> omega)]; rfl
  | mulR x g ihx =>
    intro mo b hW h h0 hb
    have z1 := tsz_0 x
    have hkk := hW.2
    refine wr (.mulR x g) _ (fun b hp h0 hb => ?_) mo b h h0 hb
    by_cases hk0 : g = 0
    · rw [if_pos hk0] at hp
      obtain ⟨l1, l2, l3, l4⟩ := hp
      have e : tsz (.mulR x g) = tsz x + 1 := if_pos (Or.inl hk0)
      have ef : tfk (.mulR x g) = tfk x + 1 := if_pos (Or.inl hk0)
      obtain ⟨x1, x2⟩ := ihx none _ hW.1 l1 h0 (by simp only; omega)
      refine ⟨fun i a c => ?_, ?_⟩
      · by_cases hi : i < b + tsz x
        · exact x1 i a hi
        · rw [show i = b + tsz x by omega]
          exact Or.inr (Or.inr (Or.inr (Or.inl ⟨l2, by omega, by omega, by omega, by omega⟩)))
      · rw [sF_add (b := b + tsz x) (by omega) (by omega), x2, sF_1 (by omega)]
        unfold fwC
        rw [if_pos (Or.inl l2)]
        omega
    rw [if_neg hk0] at hp
    by_cases hk1 : g = -1
    · rw [if_pos hk1] at hp
      obtain ⟨l1, l2, l3, l4⟩ := hp
      have e : tsz (.mulR x g) = tsz x + 1 := if_pos (Or.inr hk1)
      have ef : tfk (.mulR x g) = tfk x + 1 := if_pos (Or.inr hk1)
      obtain ⟨x1, x2⟩ := ihx none _ hW.1 l4 (by omega) (by simp only; omega)
      refine ⟨fun i a c => ?_, ?_⟩
      · by_cases e1 : i = b
        · rw [e1]; exact Or.inr (Or.inr (Or.inr (Or.inl ⟨l1, by omega, by omega, by omega, by omega⟩)))
        · exact x1 i (by omega) (by omega)
      · rw [sF_add (b := b + 1) (by omega) (by omega), show b + tsz (.mulR x g) = b + 1 + tsz x by omega, x2, sF_1 rfl]
        unfold fwC
        rw [if_pos (Or.inl l1)]
        omega
    · rw [if_neg hk1] at hp
      obtain ⟨l1, l2, l3, l4, l5⟩ := hp
      have e : tsz (.mulR x g) = tsz x + 2 := if_neg (by omega)
      have ef : tfk (.mulR x g) = tfk x + 2 := if_neg (by omega)
      obtain ⟨x1, x2⟩ := ihx none _ hW.1 l3 (by omega) (by simp only; omega)
      refine ⟨fun i a c => ?_, ?_⟩
      · by_cases e1 : i = b
        · rw [e1]; exact Or.inr (Or.inr (Or.inr (Or.inr (Or.inr ⟨l1, by omega, by omega⟩))))
        by_cases e2 : i = b + 1 + tsz x
        · rw [e2]; exact Or.inr (Or.inr (Or.inr (Or.inr (Or.inr ⟨l4, by omega, by omega⟩))))
        · exact x1 i (by omega) (by omega)
      · rw [sF_add (b := b + 1) (by omega) (by omega), sF_add (a := b + 1) (b := b + 1 + tsz x) (by omega) (by omega), x2, sF_1 rfl, sF_1 (by omega)]
        unfold fwC
        rw [if_pos (Or.inr l1), if_pos (Or.inr l4)]
        omega
/-- moved along by dl, read with other arrays -/
theorem LK_mv {k' f' s' : Int → Int} {dl : Int} : ∀ (t : RT) (mo mo' : Option (Int → Int → Prop)) (b : Int), LK k f s t mo b → (match mo, mo' with | none, none => True | some J, some J' => ∀ j z, b ≤ j → j < b + tsz t + 2 → J j z → J' (j + dl) z | _, _ => False) → (∀ i, b ≤ i → i < b + tsz t + (match mo with | none => 0 | some _ => 2) → k' (i + dl) = k i ∧ f' (i + dl) = f i ∧ s' (i + dl) = s i) → LK k' f' s' t mo' (b + dl) := by
  have wr : ∀ (sz : Int) (P P' : Int → Prop), 0 ≤ sz → (∀ b, P b → (∀ i, b ≤ i → i < b + sz → k' (i + dl) = k i ∧ f' (i + dl) = f i ∧ s' (i + dl) = s i) → P' (b + dl)) → ∀ (mo mo' : Option (Int → Int → Prop)) (b : Int), wrp k f s sz P mo b → (match mo, mo' with | none, none => True | some J, some J' => ∀ j z, b ≤ j → j < b + sz + 2 → J j z → J' (j + dl) z | _, _ => False) → (∀ i, b ≤ i → i < b + sz + (match mo with | none => 0 | some _ => 2) → k' (i + dl) = k i ∧ f' (i + dl) = f i ∧ s' (i + dl) = s i) → wrp k' f' s' sz P' mo' (b + dl) := by
    intro sz P P' hz hP mo mo' b h hm he
    cases mo with
    | none =>
      cases mo' with
      | none => exact hP b h (fun i a c => he i a (by simpa using c))
      | some J' => exact hm.elim
    | some J =>
      cases mo' with
      | none => exact hm.elim
      | some J' =>
        simp only at hm he
        obtain ⟨a1, a2, a3, a4, a5, a6⟩ := h
        have e0 := he b (by omega) (by omega)
        have e1 := he (b + 1 + sz) (by omega) (by omega)
        have h4 := hP (b + 1) a4 (fun i a c => he i (by omega) (by omega))
        have h6 := hm _ _ (by omega) (by omega) a6
        refine ⟨e0.1.trans a1, e0.2.1.trans a2, e0.2.2.trans a3, ?_, ?_, ?_⟩
        · rw [show b + dl + 1 = b + 1 + dl by omega]; exact h4
        · rw [show b + dl + 1 + sz = b + 1 + sz + dl by omega]; exact e1.1.trans a5
        · rw [show b + dl + 1 + sz = b + 1 + sz + dl by omega, e1.2.1]; exact h6
  intro t
  induction t with
  | num z =>
    intro mo mo' b h hm he
    refine wr (tsz (.num z)) _ _ (tsz_0 _) (fun b hp hx => ?_) mo mo' b h hm he
    by_cases hc : z = 0
    · exact Or.inl hc
    · have e : tsz (.num z) = 1 := if_neg hc
      have e0 := hx b (by omega) (by omega)
      rcases hp with hp | hp
      · exact absurd hp hc
      · refine Or.inr ?_
        rw [e0.1, e0.2.1]
        exact hp
  | var v =>
    intro mo mo' b h hm he
    exact wr (tsz (.var v)) _ _ (tsz_0 _) (fun b hp hx => trivial) mo mo' b h hm he
  | add x y ihx ihy =>
    intro mo mo' b h hm he
    have z1 := tsz_0 x
    have z2 := tsz_0 y
    refine wr (tsz x + tsz y) _ _ (by omega) (fun b hp hx => ⟨ihx none none b hp.1 trivial (fun i a c => hx i a (by simp only at c; omega)), ?_⟩) mo mo' b h hm he
    rw [show b + dl + tsz x = b + tsz x + dl by omega]
    exact ihy none none _ hp.2 trivial (fun i a c => hx i (by omega) (by simp only at c; omega))
  | sub x y ihx ihy =>
    intro mo mo' b h hm he
    have e : tsz (.sub x y) = tsz x + tsz y + 2 := rfl
    have z1 := tsz_0 x
    have z2 := tsz_0 y
    cases mo with
    | none =>
      cases mo' with
      | some J' => exact hm.elim
      | none =>
        obtain ⟨l1, l2⟩ := h
        refine ⟨ihx _ _ b l1 (fun j z a c hj => by omega) (fun i a c => he i a (by simp only at c ⊢; omega)), ?_⟩
        rw [show b + dl + tsz x + 2 = b + tsz x + 2 + dl by omega]
        exact ihy none none _ l2 trivial (fun i a c => he i (by omega) (by simp only at c ⊢; omega))
    | some J =>
      cases mo' with
      | none => exact hm.elim
      | some J' =>
        simp only at hm he
        obtain ⟨l1, l2⟩ := h
        refine ⟨ihx _ _ b l1 (fun j z a c hj => hm j z a (by omega) hj) (fun i a c => he i a (by simp only at c; omega)), ?_⟩
        rw [show b + dl + tsz x + 2 = b + tsz x + 2 + dl by omega]
        refine wr (tsz y) _ _ z2 (fun b hp hx => ihy none none b hp trivial (fun i a c => hx i a (by simpa using c))) (some J) (some J') _ l2 (fun j z a c hj => hm j z (by omega) (by omega) hj) (fun i a c => he i (by omega) (by simp only at c; omega))
  | neg x ihx =>
    intro mo mo' b h hm he
    have z1 := tsz_0 x
    refine wr (tsz x + 2) _ _ (by omega) (fun b hp hx => ?_) mo mo' b h hm he
    obtain ⟨l1, l2, l3, l4, l5, l6⟩ := hp
    have e0 := hx b (by omega) (by omega)
    have e1 := hx (b + 1 + tsz x) (by omega) (by omega)
    refine ⟨e0.1.trans l1, e0.2.1.trans l2, e0.2.2.trans l3, ?_, ?_, ?_⟩
    · rw [show b + dl + 1 = b + 1 + dl by omega]
      exact ihx none none _ l4 trivial (fun i a c => hx i (by omega) (by simp only at c; omega))
    · rw [show b + dl + 1 + tsz x = b + 1 + tsz x + dl by omega]; exact e1.1.trans l5
    · rw [show b + dl + 1 + tsz x = b + 1 + tsz x + dl by omega]; exact e1.2.1.trans l6
  | mulL x y _ =>
    intro mo mo' b h hm he
    refine wr 1 _ _ (by omega) (fun b hp hx => ?_) mo mo' b h hm he
    have e0 := hx b (by omega) (by omega)
    rw [e0.1, e0.2.1, e0.2.2]
    exact hp
  | mulR x g ihx =>
    intro mo mo' b h hm he
    have z1 := tsz_0 x
    refine wr (tsz (.mulR x g)) _ _ (tsz_0 _) (fun b hp hx => ?_) mo mo' b h hm he
    by_cases hk0 : g = 0
    · rw [if_pos hk0] at hp ⊢
      have e : tsz (.mulR x g) = tsz x + 1 := if_pos (Or.inl hk0)
      obtain ⟨l1, l2, l3, l4⟩ := hp
      have e1 := hx (b + tsz x) (by omega) (by omega)
      rw [show b + dl + tsz x = b + tsz x + dl by omega]
      exact ⟨ihx none none _ l1 trivial (fun i a c => hx i a (by simp only at c; omega)), e1.1.trans l2, e1.2.1.trans l3, e1.2.2.trans l4⟩
    rw [if_neg hk0] at hp ⊢
    by_cases hk1 : g = -1
    · rw [if_pos hk1] at hp ⊢
      have e : tsz (.mulR x g) = tsz x + 1 := if_pos (Or.inr hk1)
      obtain ⟨l1, l2, l3, l4⟩ := hp
      have e0 := hx b (by omega) (by omega)
      refine ⟨e0.1.trans l1, e0.2.1.trans l2, e0.2.2.trans l3, ?_⟩
      rw [show b + dl + 1 = b + 1 + dl by omega]
      exact ihx none none _ l4 trivial (fun i a c => hx i (by omega) (by simp only at c; omega))
    · rw [if_neg hk1] at hp ⊢
      have e : tsz (.mulR x g) = tsz x + 2 := if_neg (by omega)
      obtain ⟨l1, l2, l3, l4, l5⟩ := hp
      have e0 := hx b (by omega) (by omega)
      have e1 := hx (b + 1 + tsz x) (by omega) (by omega)
      refine ⟨e0.1.trans l1, e0.2.1.trans l2, ?_, ?_, ?_⟩
      · rw [show b + dl + 1 = b + 1 + dl by omega]
        exact ihx none none _ l3 trivial (fun i a c => hx i (by omega) (by simp only at c; omega))
      · rw [show b + dl + 1 + tsz x = b + 1 + tsz x + dl by omega]; exact e1.1.trans l4
      · rw [show b + dl + 1 + tsz x = b + 1 + tsz x + dl by omega]; exact e1.2.1.trans l5
end LKT
