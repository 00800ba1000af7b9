/-! depth-first search over steps and positions: without memory (fst1), with it (dst) -/
section DFS
variable (op : Int → Int × Int × Int) (fit : Int → Int → Bool) (acc : Int → Bool)
def fst1 : Nat → Int → Int → (Int → Int) → Option (Option (Int × (Int → Int)))
  | 0, _, _, _ => none
  | f + 1, s, p, w =>
    if (op s).1 = 0 then (if fit s p = true then fst1 f (s + 1) (p + 1) w else some none)
    else if (op s).1 = 1 then (match fst1 f (op s).2.1 p w with
      | none => none
      | some (some r) => some (some r)
      | some none => fst1 f (op s).2.2 p w)
    else if (op s).1 = 2 then fst1 f (op s).2.1 p w
    else if (op s).1 = 3 then fst1 f (s + 1) p (up w (op s).2.1 p)
    else if acc p = true then some (some (p, w)) else some none
theorem fst1_up : ∀ (f : Nat) (s p : Int) (w : Int → Int) (r : Option (Int × (Int → Int))), fst1 op fit acc f s p w = some r → fst1 op fit acc (f + 1) s p w = some r := by
  intro f
  induction f with
  | zero => intro s p w r h; cases h
  | succ f ih =>
    intro s p w r h
    unfold fst1 at h ⊢
    by_cases h0 : (op s).1 = 0
    · rw [if_pos h0] at h ⊢
      by_cases hf : fit s p = true
      · rw [if_pos hf] at h ⊢; exact ih _ _ _ _ h
      · rw [if_neg hf] at h ⊢; exact h
    rw [if_neg h0] at h ⊢
    by_cases h1 : (op s).1 = 1
    · rw [if_pos h1] at h ⊢
      cases hx : fst1 op fit acc f (op s).2.1 p w with
      | none => rw [hx] at h; cases h
      | some r1 =>
        rw [hx] at h
        rw [ih _ _ _ _ hx]
        cases r1 with
        | some q => exact h
        | none => exact ih _ _ _ _ h
    rw [if_neg h1] at h ⊢
    by_cases h2 : (op s).1 = 2
    · rw [if_pos h2] at h ⊢; exact ih _ _ _ _ h
    rw [if_neg h2] at h ⊢
    by_cases h3 : (op s).1 = 3
    · rw [if_pos h3] at h ⊢; exact ih _ _ _ _ h
    rw [if_neg h3] at h ⊢
    exact h
/-- marks don't steer the search -/
theorem fst1_mk : ∀ (f : Nat) (s p : Int) (w w' : Int → Int), (fst1 op fit acc f s p w).map (fun r => r.map (fun q => q.1)) = (fst1 op fit acc f s p w').map (fun r => r.map (fun q => q.1)) := by
  intro f
  induction f with
  | zero => intro s p w w'; rfl
  | succ f ih =>
    intro s p w w'
    unfold fst1
    by_cases h0 : (op s).1 = 0
    · rw [if_pos h0, if_pos h0]
      by_cases hf : fit s p = true
      · rw [if_pos hf, if_pos hf]; exact ih _ _ _ _
      · rw [if_neg hf, if_neg hf]
    rw [if_neg h0, if_neg h0]
    by_cases h1 : (op s).1 = 1
    · rw [if_pos h1, if_pos h1]
      have i1 := ih (op s).2.1 p w w'
      have i2 := ih (op s).2.2 p w w'
      cases hx : fst1 op fit acc f (op s).2.1 p w with
      | none =>
        rw [hx] at i1
        cases hy : fst1 op fit acc f (op s).2.1 p w' with
        | none => rfl
        | some r => rw [hy] at i1; cases i1
      | some r1 =>
        rw [hx] at i1
        cases hy : fst1 op fit acc f (op s).2.1 p w' with
        | none => rw [hy] at i1; cases i1
        | some r2 =>
          rw [hy] at i1
          cases r1 with
          | none =>
            cases r2 with
            | none => exact i2
            | some q => cases i1
          | some q =>
            cases r2 with
            | none => cases i1
            | some q2 => exact i1
    rw [if_neg h1, if_neg h1]
    by_cases h2 : (op s).1 = 2
    · rw [if_pos h2, if_pos h2]; exact ih _ _ _ _
    rw [if_neg h2, if_neg h2]
    by_cases h3 : (op s).1 = 3
    · rw [if_pos h3, if_pos h3]; exact ih _ _ _ _
    rw [if_neg h3, if_neg h3]
    by_cases ha : acc p = true
    · rw [if_pos ha, if_pos ha]; rfl
    · rw [if_neg ha, if_neg ha]
end DFS
