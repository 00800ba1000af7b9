/-! what the reference's reader reads: trees (num 0: nothing, num 1: any, num c: a sign; mulL b e: a set; add: then; sub: either; neg: star; mulR 0: plus, mulR -1: maybe, mulR k: group k) -/
abbrev RT : Type := Int.Internal.Linear.Expr
def tn (t : RT) : Int := match t with
  | .num z => z
  | _ => 0
def tsh (t : RT) : Int := match t with
  | .num c => if c = 0 then 0 else 1
  | .var _ => 0
  | .add a b => tsh a + tsh b
  | .sub a b => min (tsh a) (tsh b)
  | .neg _ => 0
  | .mulL _ _ => 1
  | .mulR a k => if k = -1 then 0 else tsh a
def tlo (t : RT) : Int := match t with
  | .num c => if c = 0 then 0 else 1
  | .var _ => 0
  | .add a b => min 1000000 (tlo a + tlo b)
  | .sub a b => max (tlo a) (tlo b)
  | .neg _ => 1000000
  | .mulL _ _ => 1
  | .mulR a k => if k = 0 then 1000000 else tlo a
theorem tlo_rg (t : RT) : 0 ≤ tlo t ∧ tlo t ≤ 1000000 := by
  induction t with
  | num c => unfold tlo; split <;> omega
  | var _ => unfold tlo; omega
  | add a b iha ihb => unfold tlo; omega
  | sub a b iha ihb => unfold tlo; omega
  | neg a _ => unfold tlo; omega
  | mulL _ _ _ => unfold tlo; omega
  | mulR a k ih => unfold tlo; split <;> omega
theorem tsh_0 (t : RT) : 0 ≤ tsh t := by
  induction t with
  | num c => unfold tsh; split <;> omega
  | var _ => unfold tsh; omega
  | add a b iha ihb => unfold tsh; omega
  | sub a b iha ihb => unfold tsh; omega
  | neg a _ => unfold tsh; omega
  | mulL _ _ _ => unfold tsh; omega
  | mulR a k ih => unfold tsh; split <;> omega
/-- node i of the arrays is the root of t -/
def Nd (A : Nat → Int → Int) (t : RT) (i : Int) : Prop := 0 ≤ i ∧ A 10 i = tsh t ∧ A 11 i = tlo t ∧ match t with
  | .num c => if c = 0 then A 7 i = 0 else if c = 1 then A 7 i = 2 else A 7 i = 1 ∧ A 8 i = c
  | .var _ => A 7 i = 0
  | .add a b => A 7 i = 4 ∧ A 8 i < i ∧ A 9 i < i ∧ Nd A a (A 8 i) ∧ Nd A b (A 9 i)
  | .sub a b => A 7 i = 5 ∧ A 8 i < i ∧ A 9 i < i ∧ Nd A a (A 8 i) ∧ Nd A b (A 9 i)
  | .neg a => A 7 i = 6 ∧ A 8 i < i ∧ Nd A a (A 8 i)
  | .mulL b e => A 7 i = 3 ∧ A 8 i = b ∧ A 9 i = tn e
  | .mulR a k => A 8 i < i ∧ Nd A a (A 8 i) ∧ (if k = 0 then A 7 i = 7 else if k = -1 then A 7 i = 8 else A 7 i = 9 ∧ A 9 i = k)
theorem Nd_fr {A B : Nat → Int → Int} {N : Int} (h : ∀ j, 7 ≤ j → j ≤ 11 → ∀ i, 0 ≤ i → i < N → B j i = A j i) : ∀ (t : RT) (i : Int), i < N → Nd A t i → Nd B t i := by
  intro t
  induction t with
  | num c =>
    intro i hi hN
    unfold Nd at hN ⊢
    obtain ⟨h0, h1, h2, h3⟩ := hN
    rw [h 10 (by omega) (by omega) i h0 hi, h 11 (by omega) (by omega) i h0 hi, h 7 (by omega) (by omega) i h0 hi, h 8 (by omega) (by omega) i h0 hi]
    exact ⟨h0, h1, h2, h3⟩
  | var c =>
    intro i hi hN
    unfold Nd at hN ⊢
    obtain ⟨h0, h1, h2, h3⟩ := hN
    rw [h 10 (by omega) (by omega) i h0 hi, h 11 (by omega) (by omega) i h0 hi, h 7 (by omega) (by omega) i h0 hi]
    exact ⟨h0, h1, h2, h3⟩
  | add a b iha ihb =>
    intro i hi hN
    unfold Nd at hN ⊢
    obtain ⟨h0, h1, h2, h3, h4, h5, h6, h7⟩ := hN
    rw [h 10 (by omega) (by omega) i h0 hi, h 11 (by omega) (by omega) i h0 hi, h 7 (by omega) (by omega) i h0 hi, h 8 (by omega) (by omega) i h0 hi, h 9 (by omega) (by omega) i h0 hi]
    exact ⟨h0, h1, h2, h3, h4, h5, iha _ (by omega) h6, ihb _ (by omega) h7⟩
  | sub a b iha ihb =>
    intro i hi hN
    unfold Nd at hN ⊢
    obtain ⟨h0, h1, h2, h3, h4, h5, h6, h7⟩ := hN
    rw [h 10 (by omega) (by omega) i h0 hi, h 11 (by omega) (by omega) i h0 hi, h 7 (by omega) (by omega) i h0 hi, h 8 (by omega) (by omega) i h0 hi, h 9 (by omega) (by omega) i h0 hi]
    exact ⟨h0, h1, h2, h3, h4, h5, iha _ (by omega) h6, ihb _ (by omega) h7⟩
  | neg a iha =>
    intro i hi hN
    unfold Nd at hN ⊢
    obtain ⟨h0, h1, h2, h3, h4, h6⟩ := hN
    rw [h 10 (by omega) (by omega) i h0 hi, h 11 (by omega) (by omega) i h0 hi, h 7 (by omega) (by omega) i h0 hi, h 8 (by omega) (by omega) i h0 hi]
    exact ⟨h0, h1, h2, h3, h4, iha _ (by omega) h6⟩
  | mulL b e _ =>
    intro i hi hN
    unfold Nd at hN ⊢
    obtain ⟨h0, h1, h2, h3⟩ := hN
    rw [h 10 (by omega) (by omega) i h0 hi, h 11 (by omega) (by omega) i h0 hi, h 7 (by omega) (by omega) i h0 hi, h 8 (by omega) (by omega) i h0 hi, h 9 (by omega) (by omega) i h0 hi]
    exact ⟨h0, h1, h2, h3⟩
  | mulR a k iha =>
    intro i hi hN
    unfold Nd at hN ⊢
    obtain ⟨h0, h1, h2, h3, h4, h5⟩ := hN
    rw [h 10 (by omega) (by omega) i h0 hi, h 11 (by omega) (by omega) i h0 hi, h 7 (by omega) (by omega) i h0 hi, h 8 (by omega) (by omega) i h0 hi, h 9 (by omega) (by omega) i h0 hi]
    exact ⟨h0, h1, h2, h3, iha _ (by omega) h4, h5⟩
def scn (c : Int → Int) (n : Int) : Nat → Int → Int
  | 0, k => k
  | f + 1, k => if sgB (hr c n k) = true then scn c n f (k + 1) else k
/-- the reader: mode 0 either, 1 its rest, 2 the items of a branch, 3 item, 4 atom; where it stops, or where it is, the groups, the tree -/
def PZ (c : Int → Int) (n : Int) : Nat → Nat → RT → Int → Int → Int ⊕ (Int × Int × RT)
  | 0, _, _, p, _ => .inl p
  | f + 1, mo, t, p, g => match mo with
    | 0 => match PZ c n f 2 (.num 0) p g with
      | .inl e => .inl e
      | .inr (a, g', t') => PZ c n f 1 t' a g'
    | 1 => if hr c n p = 124 then (match PZ c n f 2 (.num 0) (p + 1) g with
        | .inl e => .inl e
        | .inr (a, g', t') => PZ c n f 1 (.sub t t') a g') else .inr (p, g, t)
    | 2 => if sgB (hr c n p) = true ∨ hr c n p = 46 ∨ hr c n p = 40 ∨ hr c n p = 91 then (match PZ c n f 3 t p g with
        | .inl e => .inl e
        | .inr (a, g', t') => PZ c n f 2 (.add t t') a g') else .inr (p, g, t)
    | 3 => match PZ c n f 4 t p g with
      | .inl e => .inl e
      | .inr (a, g', t') => if hr c n a = 63 then .inr (a + 1, g', .mulR t' (-1)) else if hr c n a ≠ 42 ∧ hr c n a ≠ 43 then .inr (a, g', t') else if tsh t' = 0 then .inl a else .inr (a + 1, g', if hr c n a = 42 then .neg t' else .mulR t' 0)
    | _ => if hr c n p = 40 then (if g = 5 then .inl p else match PZ c n f 0 t (p + 1) (g + 1) with
        | .inl e => .inl e
        | .inr (a, g', t') => if hr c n a = 41 then .inr (a + 1, g', .mulR t' (g + 1)) else .inl a)
      else if hr c n p = 91 then (if scn c n 30 (if hr c n (p + 1) = 94 then p + 2 else p + 1) = (if hr c n (p + 1) = 94 then p + 2 else p + 1) ∨ hr c n (scn c n 30 (if hr c n (p + 1) = 94 then p + 2 else p + 1)) ≠ 93 then .inl (scn c n 30 (if hr c n (p + 1) = 94 then p + 2 else p + 1))
        else .inr (scn c n 30 (if hr c n (p + 1) = 94 then p + 2 else p + 1) + 1, g, .mulL (if hr c n (p + 1) = 94 then p + 2 else p + 1) (.num (if hr c n (p + 1) = 94 then -(scn c n 30 (if hr c n (p + 1) = 94 then p + 2 else p + 1) + 1) else scn c n 30 (if hr c n (p + 1) = 94 then p + 2 else p + 1)))))
      else .inr (p + 1, g, if hr c n p = 46 then .num 1 else .num (hr c n p))
