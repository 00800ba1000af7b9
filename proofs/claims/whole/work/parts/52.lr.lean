/-! the reference's steps of a tree, in the machine's words -/
def LR (op : Int → Int × Int × Int) (fit : Int → Int → Bool) (lf : RT → Int → Bool) : RT → Int → Prop
  | .num c, b => c = 0 ∨ ((op b).1 = 0 ∧ ∀ p, fit b p = lf (.num c) p)
  | .var _, _ => True
  | .add x y, b => LR op fit lf x b ∧ LR op fit lf y (b + tsz x)
  | .sub x y, b => op b = (1, b + 1, b + tsz x + 2) ∧ LR op fit lf x (b + 1) ∧ (op (b + 1 + tsz x)).1 = 2 ∧ (op (b + 1 + tsz x)).2.1 = b + tsz x + 2 + tsz y ∧ LR op fit lf y (b + tsz x + 2)
  | .neg x, b => op b = (1, b + 1, b + tsz x + 2) ∧ LR op fit lf x (b + 1) ∧ (op (b + 1 + tsz x)).1 = 2 ∧ (op (b + 1 + tsz x)).2.1 = b
  | .mulL x e, b => (op b).1 = 0 ∧ ∀ p, fit b p = lf (.mulL x e) p
  | .mulR x k, b => if k = 0 then LR op fit lf x b ∧ op (b + tsz x) = (1, b, b + tsz x + 1)
    else if k = -1 then op b = (1, b + 1, b + tsz x + 1) ∧ LR op fit lf x (b + 1)
    else (op b).1 = 3 ∧ (op b).2.1 = 2 * k - 2 ∧ LR op fit lf x (b + 1) ∧ (op (b + 1 + tsz x)).1 = 3 ∧ (op (b + 1 + tsz x)).2.1 = 2 * k - 1
section LRS
variable {op : Int → Int × Int × Int} {fit : Int → Int → Bool} {acc : Int → Bool} {lf : RT → Int → Bool} {L : Int}
/-- a loop: choice to the body or on -/
theorem mst_Tm {M : Int → (Int → Int) → RK → RA} {c x e : Int} {κ : RK} (hc : op c = (1, x, e)) (hM : ∀ p w κ', 0 ≤ p → p ≤ L → (∀ p' w', p + 1 ≤ p' → p' ≤ L → Tm op fit acc c p' w' (κ' p' w')) → Tm op fit acc x p w (M p w κ')) : ∀ (f : Nat) (p : Int) (w : Int → Int), 0 ≤ p → p ≤ L → L - p < f → (∀ p' w', p ≤ p' → p' ≤ L → Tm op fit acc e p' w' (κ p' w')) → Tm op fit acc c p w (mst M f κ p w) := by
  intro f
  induction f with
  | zero => intro p w h0 h1 h2 hk; omega
  | succ f ih =>
    intro p w h0 h1 h2 hk
    have e1 : (op c).1 = 1 := by rw [hc]
    refine Tm_c e1 ?_ ?_
    · rw [hc]
      exact hM p w _ h0 h1 (fun p' w' a b => ih p' w' (by omega) b (by omega) (fun p2 w2 a2 b2 => hk p2 w2 (by omega) b2))
    · rw [hc]
      exact hk p w (Int.le_refl _) h1
theorem LR_Tm (hL : L ≤ 40) (hlf : ∀ t p, lf t p = true → p < L) {n : Int} : ∀ (t : RT) (b p : Int) (w : Int → Int) (κ : RK), TW n t → LR op fit lf t b → 0 ≤ p → p ≤ L → (∀ p' w', p + tsh t ≤ p' → p' ≤ L → Tm op fit acc (b + tsz t) p' w' (κ p' w')) → Tm op fit acc b p w (mt lf t p w κ) := by
  intro t
  induction t with
  | num c =>
    intro b p w κ hW hl h0 h1 hk
    unfold mt
    by_cases hc : c = 0
    · rw [if_pos hc]
      have e : tsz (.num c) = 0 := if_pos hc
      have e2 : tsh (.num c) = 0 := if_pos hc
      have := hk p w (by omega) h1
      rw [e, Int.add_zero] at this
      exact this
    · rw [if_neg hc]
      rcases hl with hl | ⟨ho, hf⟩
      · exact absurd hl hc
      have e : tsz (.num c) = 1 := if_neg hc
      have e2 : tsh (.num c) = 1 := if_neg hc
      by_cases hp : lf (.num c) p = true
      · rw [if_pos hp]
        have := hlf _ _ hp
        refine Tm_t ho (by rw [hf]; exact hp) ?_
        have := hk (p + 1) w (by omega) (by omega)
        rw [e] at this
        exact this
      · rw [if_neg hp]
        exact Tm_tf ho (by rw [hf]; exact hp)
  | var v =>
    intro b p w κ hW hl h0 h1 hk
    have := hk p w (by show p + 0 ≤ p; omega) h1
    have e : tsz (.var v) = 0 := rfl
    rw [e, Int.add_zero] at this
    exact this
  | add x y ihx ihy =>
    intro b p w κ hW hl h0 h1 hk
    have e : tsz (.add x y) = tsz x + tsz y := rfl
    have e2 : tsh (.add x y) = tsh x + tsh y := rfl
    have s1 := tsh_0 x
    have s2 := tsh_0 y
    refine ihx b p w _ hW.1 hl.1 h0 h1 (fun p' w' a c => ihy _ p' w' κ hW.2 hl.2 (by omega) c (fun p2 w2 a2 c2 => ?_))
    rw [show b + tsz x + tsz y = b + tsz (.add x y) by omega]
    exact hk p2 w2 (by omega) c2
  | sub x y ihx ihy =>
    intro b p w κ hW hl h0 h1 hk
    obtain ⟨l1, l2, l3, l4, l5⟩ := hl
    have e : tsz (.sub x y) = tsz x + tsz y + 2 := rfl
    have e2 : tsh (.sub x y) = min (tsh x) (tsh y) := rfl
    have e1 : (op b).1 = 1 := by rw [l1]
    refine Tm_c e1 ?_ ?_
    · rw [l1]
      refine ihx _ p w κ hW.1 l2 h0 h1 (fun p' w' a c => Tm_j l3 ?_)
      rw [l4, show b + tsz x + 2 + tsz y = b + tsz (.sub x y) by omega]
      exact hk p' w' (by omega) c
    · rw [l1]
      refine ihy _ p w κ hW.2 l5 h0 h1 (fun p' w' a c => ?_)
      rw [show b + tsz x + 2 + tsz y = b + tsz (.sub x y) by omega]
      exact hk p' w' (by omega) c
  | neg x ihx =>
    intro b p w κ hW hl h0 h1 hk
    obtain ⟨l1, l2, l3, l4⟩ := hl
    have e : tsz (.neg x) = tsz x + 2 := rfl
    have e2 : tsh (.neg x) = 0 := rfl
    refine mst_Tm (L := L) l1 (fun p w κ' a c hk' => ihx _ p w κ' hW.1 l2 a c (fun p' w' a' c' => Tm_j l3 ?_)) 42 p w h0 h1 (by omega) (fun p' w' a c => ?_)
    · rw [l4]; have := hW.2; exact hk' p' w' (by omega) c'
    · rw [show b + tsz x + 2 = b + tsz (.neg x) by omega]
      exact hk p' w' (by omega) c
  | mulL x y _ =>
    intro b p w κ hW hl h0 h1 hk
    have e : ∀ q r, tsz (.mulL q r) = 1 := fun _ _ => rfl
    have e2 : ∀ q r, tsh (.mulL q r) = 1 := fun _ _ => rfl
    unfold mt
    by_cases hp : lf (.mulL x y) p = true
    · rw [if_pos hp]
      have := hlf _ _ hp
      refine Tm_t hl.1 (by rw [hl.2]; exact hp) ?_
      have := hk (p + 1) w (by rw [e2]; omega) (by omega)
      rw [e] at this
      exact this
    · rw [if_neg hp]
      exact Tm_tf hl.1 (by rw [hl.2]; exact hp)
  | mulR x k ihx =>
    intro b p w κ hW hl h0 h1 hk
    unfold mt
    unfold LR at hl
    by_cases hk0 : k = 0
    · rw [if_pos hk0] at hl ⊢
      obtain ⟨l1, l2⟩ := hl
      have e : tsz (.mulR x k) = tsz x + 1 := if_pos (Or.inl hk0)
      have e2 : tsh (.mulR x k) = tsh x := if_neg (by omega)
      have hs := hW.2.2.2 hk0
      refine ihx b p w _ hW.1 l1 h0 h1 (fun p' w' a c => ?_)
      refine mst_Tm (L := L) l2 (fun p w κ' a c hk' => ihx _ p w κ' hW.1 l1 a c (fun p' w' a' c' => hk' p' w' (by omega) c')) 42 p' w' (by omega) c (by omega) (fun p2 w2 a2 c2 => ?_)
      rw [show b + tsz x + 1 = b + tsz (.mulR x k) by omega]
      exact hk p2 w2 (by omega) c2
    rw [if_neg hk0] at hl ⊢
    by_cases hk1 : k = -1
    · rw [if_pos hk1] at hl ⊢
      obtain ⟨l1, l2⟩ := hl
      have e : tsz (.mulR x k) = tsz x + 1 := if_pos (Or.inr hk1)
      have e2 : tsh (.mulR x k) = 0 := if_pos hk1
      have e1 : (op b).1 = 1 := by rw [l1]
      have s1 := tsh_0 x
      refine Tm_c e1 ?_ ?_
      · rw [l1]
        refine ihx _ p w κ hW.1 l2 h0 h1 (fun p' w' a c => ?_)
        rw [show b + 1 + tsz x = b + tsz (.mulR x k) by omega]
        exact hk p' w' (by omega) c
      · rw [l1, show b + tsz x + 1 = b + tsz (.mulR x k) by omega]
        exact hk p w (by omega) h1
    · rw [if_neg hk1] at hl ⊢
      obtain ⟨l1, l2, l3, l4, l5⟩ := hl
      have e : tsz (.mulR x k) = tsz x + 2 := if_neg (by omega)
      have e2 : tsh (.mulR x k) = tsh x := if_neg hk1
      refine Tm_m l1 ?_
      rw [l2]
      refine ihx _ p _ _ hW.1 l3 h0 h1 (fun p' w' a c => Tm_m l4 ?_)
      rw [l5, show b + 1 + tsz x + 1 = b + tsz (.mulR x k) by omega]
      exact hk p' _ (by omega) c
theorem LR_op {n : Int} : ∀ (t : RT) (b : Int), TW n t → LR op fit lf t b → (∀ s, b ≤ s → s < b + tsz t → OpI op b (b + tsz t) s) ∧ sF (fw op) b (b + tsz t) = tfk t := by
  intro t
  induction t with
  | num c =>
    intro b hW hl
    by_cases hc : c = 0
    · have e : tsz (.num c) = 0 := if_pos hc
      exact ⟨fun s a c => by omega, by rw [e, Int.add_zero, sF_0]; rfl⟩
    · have e : tsz (.num c) = 1 := if_neg hc
      rcases hl with hl | ⟨ho, hf⟩
      · exact absurd hl hc
      refine ⟨fun s a c => by rw [show s = b by omega]; exact Or.inl ho, ?_⟩
      rw [e, sF_1 rfl]
      unfold fw
      rw [if_neg (by omega)]; rfl
  | var v =>
    intro b hW hl
    have e : tsz (.var v) = 0 := rfl
    exact ⟨fun s a c => by omega, by rw [e, Int.add_zero, sF_0]; rfl⟩
  | add x y ihx ihy =>
    intro b hW hl
    have e : tsz (.add x y) = tsz x + tsz y := rfl
    have s1 := tsz_0 x
    have s2 := tsz_0 y
    obtain ⟨x1, x2⟩ := ihx _ hW.1 hl.1
    obtain ⟨y1, y2⟩ := ihy _ hW.2 hl.2
    refine ⟨fun s a c => ?_, ?_⟩
    · by_cases hs : s < b + tsz x
      · exact (x1 s a hs).w (by omega) (by omega)
      · exact (y1 s (by omega) (by omega)).w (by omega) (by omega)
    · rw [sF_add (b := b + tsz x) (by omega) (by omega), x2, show b + tsz (.add x y) = b + tsz x + tsz y by omega, y2]; rfl
  | sub x y ihx ihy =>
    intro b hW hl
    have e : tsz (.sub x y) = tsz x + tsz y + 2 := rfl
    have s1 := tsz_0 x
    have s2 := tsz_0 y
    obtain ⟨l1, l2, l3, l4, l5⟩ := hl
    obtain ⟨x1, x2⟩ := ihx _ hW.1 l2
    obtain ⟨y1, y2⟩ := ihy _ hW.2 l5
    refine ⟨fun s a c => ?_, ?_⟩
    · by_cases h1 : s = b
      · rw [h1]
        exact Or.inr (Or.inl ⟨by rw [l1], by rw [l1]; show b ≤ b + 1; omega, by rw [l1]; show b + 1 ≤ _; omega, by rw [l1]; show b ≤ b + tsz x + 2; omega, by rw [l1]; show b + tsz x + 2 ≤ _; omega⟩)
      by_cases h2 : s < b + 1 + tsz x
      · exact (x1 s (by omega) h2).w (by omega) (by omega)
      by_cases h3 : s = b + 1 + tsz x
      · rw [h3]
        exact Or.inr (Or.inr (Or.inl ⟨l3, by omega, by omega⟩))
      · exact (y1 s (by omega) (by omega)).w (by omega) (by omega)
    · rw [sF_add (b := b + 1) (by omega) (by omega), sF_add (a := b + 1) (b := b + 1 + tsz x) (by omega) (by omega), sF_add (a := b + 1 + tsz x) (b := b + tsz x + 2) (by omega) (by omega), x2, sF_1 rfl, sF_1 (by omega), show b + tsz (.sub x y) = b + tsz x + 2 + tsz y by omega, y2]
      unfold fw
      rw [if_pos (Or.inl (by rw [l1])), if_neg (by omega)]
      show 1 + (tfk x + (0 + tfk y)) = tfk x + tfk y + 1
      omega
  | neg x ihx =>
    intro b hW hl
    have e : tsz (.neg x) = tsz x + 2 := rfl
    have s1 := tsz_0 x
    obtain ⟨l1, l2, l3, l4⟩ := hl
    obtain ⟨x1, x2⟩ := ihx _ hW.1 l2
    refine ⟨fun s a c => ?_, ?_⟩
    · by_cases h1 : s = b
      · rw [h1]
        exact Or.inr (Or.inl ⟨by rw [l1], by rw [l1]; show b ≤ b + 1; omega, by rw [l1]; show b + 1 ≤ _; omega, by rw [l1]; show b ≤ b + tsz x + 2; omega, by rw [l1]; show b + tsz x + 2 ≤ _; omega⟩)
      by_cases h2 : s < b + 1 + tsz x
      · exact (x1 s (by omega) h2).w (by omega) (by omega)
      · rw [show s = b + 1 + tsz x by omega]
        exact Or.inr (Or.inr (Or.inl ⟨l3, by omega, by omega⟩))
    · rw [sF_add (b := b + 1) (by omega) (by omega), sF_add (a := b + 1) (b := b + 1 + tsz x) (by omega) (by omega), x2, sF_1 rfl, sF_1 (by omega)]
      unfold fw
      rw [if_pos (Or.inl (by rw [l1])), if_neg (by omega)]
      show 1 + (tfk x + 0) = tfk x + 1
      omega
  | mulL x y _ =>
    intro b hW hl
    have e : ∀ q r, tsz (.mulL q r) = 1 := fun _ _ => rfl
    rw [e]
    refine ⟨fun s a c => by rw [show s = b by omega]; exact Or.inl hl.1, ?_⟩
    rw [sF_1 rfl]
    unfold fw
    have := hl.1
    rw [if_neg (by omega)]; rfl
  | mulR x k ihx =>
    intro b hW hl
    have s1 := tsz_0 x
    unfold LR at hl
    by_cases hk0 : k = 0
    · rw [if_pos hk0] at hl
      obtain ⟨l1, l2⟩ := hl
      obtain ⟨x1, x2⟩ := ihx _ hW.1 l1
      have e : tsz (.mulR x k) = tsz x + 1 := if_pos (Or.inl hk0)
      have e3 : tfk (.mulR x k) = tfk x + 1 := if_pos (Or.inl hk0)
      refine ⟨fun s a c => ?_, ?_⟩
      · by_cases h2 : s < b + tsz x
        · exact (x1 s a h2).w (by omega) (by omega)
        · rw [show s = b + tsz x by omega]
          exact Or.inr (Or.inl ⟨by rw [l2], by rw [l2]; show b ≤ b; omega, by rw [l2]; show b ≤ _; omega, by rw [l2]; show b ≤ b + tsz x + 1; omega, by rw [l2]; show b + tsz x + 1 ≤ _; omega⟩)
      · rw [sF_add (b := b + tsz x) (by omega) (by omega), x2, sF_1 (by omega), e3]
        unfold fw
        rw [if_pos (Or.inl (by rw [l2]))]
    rw [if_neg hk0] at hl
    by_cases hk1 : k = -1
    · rw [if_pos hk1] at hl
      obtain ⟨l1, l2⟩ := hl
      obtain ⟨x1, x2⟩ := ihx _ hW.1 l2
      have e : tsz (.mulR x k) = tsz x + 1 := if_pos (Or.inr hk1)
      have e3 : tfk (.mulR x k) = tfk x + 1 := if_pos (Or.inr hk1)
      refine ⟨fun s a c => ?_, ?_⟩
      · by_cases h1 : s = b
        · rw [h1]
          exact Or.inr (Or.inl ⟨by rw [l1], by rw [l1]; show b ≤ b + 1; omega, by rw [l1]; show b + 1 ≤ _; omega, by rw [l1]; show b ≤ b + tsz x + 1; omega, by rw [l1]; show b + tsz x + 1 ≤ _; omega⟩)
        · exact (x1 s (by omega) (by omega)).w (by omega) (by omega)
      · rw [sF_add (b := b + 1) (by omega) (by omega), sF_1 rfl, show b + tsz (.mulR x k) = b + 1 + tsz x by omega, x2, e3]
        unfold fw
        rw [if_pos (Or.inl (by rw [l1]))]
        omega
    · rw [if_neg hk1] at hl
      obtain ⟨l1, l2, l3, l4, l5⟩ := hl
      obtain ⟨x1, x2⟩ := ihx _ hW.1 l3
      have hkk := hW.2
      have e : tsz (.mulR x k) = tsz x + 2 := if_neg (by omega)
      have e3 : tfk (.mulR x k) = tfk x + 2 := if_neg (by omega)
      refine ⟨fun s a c => ?_, ?_⟩
      · by_cases h1 : s = b
        · rw [h1]
          exact Or.inr (Or.inr (Or.inr ⟨l1, by omega, by omega⟩))
        by_cases h2 : s < b + 1 + tsz x
        · exact (x1 s (by omega) h2).w (by omega) (by omega)
        · rw [show s = b + 1 + tsz x by omega]
          exact Or.inr (Or.inr (Or.inr ⟨l4, by omega, by omega⟩))
      · rw [sF_add (b := b + 1) (by omega) (by omega), sF_add (a := b + 1) (b := b + 1 + tsz x) (by omega) (by omega), x2, sF_1 rfl, sF_1 (by omega), e3]
        unfold fw
        rw [if_pos (Or.inr l1), if_pos (Or.inr l4)]
        omega
end LRS
