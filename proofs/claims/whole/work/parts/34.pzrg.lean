/-! where the reader stops: pure facts -/
theorem hr_out {c : Int → Int} {n p : Int} (h : n ≤ p) : hr c n p = -1 := if_neg (by omega)
theorem hr_in {c : Int → Int} {n p : Int} (h : hr c n p ≠ -1) : p < n := by
  unfold hr at h
  by_cases hc : p < n
  · exact hc
  · rw [if_neg hc] at h; exact absurd rfl h
theorem sgB_m1 : sgB (-1) = false := by decide
theorem sgB_in {c : Int → Int} {n p : Int} (h : sgB (hr c n p) = true) : p < n := hr_in (fun q => by rw [q, sgB_m1] at h; cases h)
theorem scn_rg {c : Int → Int} {n : Int} : ∀ (f : Nat) (k : Int), k ≤ scn c n f k ∧ (scn c n f k ≤ n ∨ scn c n f k = k) ∧ (n - k ≤ f → sgB (hr c n (scn c n f k)) = false) := by
  intro f
  induction f with
  | zero =>
    intro k
    unfold scn
    refine ⟨by omega, Or.inr rfl, fun h => ?_⟩
    rw [hr_out (by omega), sgB_m1]
  | succ f ih =>
    intro k
    unfold scn
    split
    · rename_i hs
      have hk := sgB_in hs
      have := ih (k + 1)
      exact ⟨by omega, by omega, fun h => this.2.2 (by omega)⟩
    · rename_i hs
      exact ⟨by omega, Or.inr rfl, fun _ => by simpa using hs⟩
def PR (n : Int) (mo : Nat) (t : RT) (p g : Int) (r : Int ⊕ (Int × Int × RT)) : Prop := match r with
  | .inl e => p ≤ e ∧ e ≤ n
  | .inr (a, g', t') => p ≤ a ∧ a ≤ n ∧ g ≤ g' ∧ g' ≤ 5 ∧ tsh t' ≤ (if mo = 1 ∨ mo = 2 then tsh t else 0) + (a - p) ∧ (3 ≤ mo → p < a)
theorem PZ_rg {c : Int → Int} {n : Int} : ∀ (f mo : Nat) (t : RT) (p g : Int), 0 ≤ p → p ≤ n → (3 ≤ mo → p < n) → 0 ≤ g → g ≤ 5 → PR n mo t p g (PZ c n f mo t p g) := by
  intro f
  induction f with
  | zero => intro mo t p g h1 h2 h3 h4 h5; exact ⟨by omega, h2⟩
  | succ f ih =>
    intro mo t p g h1 h2 h3 h4 h5
    unfold PZ
    rcases mo with _ | _ | _ | _ | mo
    · simp only
      have i1 := ih 2 (.num 0) p g h1 h2 (by omega) h4 h5
      cases hr1 : PZ c n f 2 (.num 0) p g with
      | inl e => rw [hr1] at i1; exact i1
      | inr q =>
        obtain ⟨a, g', t'⟩ := q
        rw [hr1] at i1
        obtain ⟨j1, j2, j3, j4, j5, _⟩ := i1
        have i2 := ih 1 t' a g' (by omega) j2 (by omega) (by omega) j4
        simp only
        cases hr2 : PZ c n f 1 t' a g' with
        | inl e => rw [hr2] at i2; exact ⟨by have := i2.1; omega, i2.2⟩
        | inr q =>
          obtain ⟨a2, g2, t2⟩ := q
          rw [hr2] at i2
          obtain ⟨k1, k2, k3, k4, k5, _⟩ := i2
          rw [if_pos (by omega)] at j5 k5
          refine ⟨by omega, k2, by omega, k4, ?_, by omega⟩
          rw [if_neg (by omega)]
          have : tsh (.num 0) = 0 := rfl
          omega
    · simp only
      split
      · rename_i hc
        have hp := hr_in (c := c) (n := n) (p := p) (by omega)
        have i1 := ih 2 (.num 0) (p + 1) g (by omega) (by omega) (by omega) h4 h5
        cases hr1 : PZ c n f 2 (.num 0) (p + 1) g with
        | inl e => rw [hr1] at i1; exact ⟨by have := i1.1; omega, i1.2⟩
        | inr q =>
          obtain ⟨a, g', t'⟩ := q
          rw [hr1] at i1
          obtain ⟨j1, j2, j3, j4, j5, _⟩ := i1
          have i2 := ih 1 (.sub t t') a g' (by omega) j2 (by omega) (by omega) j4
          simp only
          cases hr2 : PZ c n f 1 (.sub t t') a g' with
          | inl e => rw [hr2] at i2; exact ⟨by have := i2.1; omega, i2.2⟩
          | inr q =>
            obtain ⟨a2, g2, t2⟩ := q
            rw [hr2] at i2
            obtain ⟨k1, k2, k3, k4, k5, _⟩ := i2
            rw [if_pos (by omega)] at j5 k5
            refine ⟨by omega, k2, by omega, k4, ?_, by omega⟩
            rw [if_pos (by omega)]
            have : tsh (.sub t t') = min (tsh t) (tsh t') := rfl
            omega
      · exact ⟨by omega, h2, by omega, h5, by rw [if_pos (by omega)]; omega, by omega⟩
    · simp only
      split
      · rename_i hc
        have hp : p < n := by
          rcases hc with hc | hc
          · exact sgB_in hc
          · exact hr_in (c := c) (n := n) (p := p) (by omega)
        have i1 := ih 3 t p g h1 h2 (fun _ => hp) h4 h5
        cases hr1 : PZ c n f 3 t p g with
        | inl e => rw [hr1] at i1; exact i1
        | inr q =>
          obtain ⟨a, g', t'⟩ := q
          rw [hr1] at i1
          obtain ⟨j1, j2, j3, j4, j5, j6⟩ := i1
          have i2 := ih 2 (.add t t') a g' (by omega) j2 (by omega) (by omega) j4
          simp only
          cases hr2 : PZ c n f 2 (.add t t') a g' with
          | inl e => rw [hr2] at i2; exact ⟨by have := i2.1; omega, i2.2⟩
          | inr q =>
            obtain ⟨a2, g2, t2⟩ := q
            rw [hr2] at i2
            obtain ⟨k1, k2, k3, k4, k5, _⟩ := i2
            rw [if_neg (by omega)] at j5
            rw [if_pos (by omega)] at k5
            refine ⟨by omega, k2, by omega, k4, ?_, by omega⟩
            rw [if_pos (by omega)]
            have : tsh (.add t t') = tsh t + tsh t' := rfl
            omega
      · exact ⟨by omega, h2, by omega, h5, by rw [if_pos (by omega)]; omega, by omega⟩
    · simp only
      have i1 := ih 4 t p g h1 h2 (fun _ => h3 (by omega)) h4 h5
      cases hr1 : PZ c n f 4 t p g with
      | inl e => rw [hr1] at i1; exact i1
      | inr q =>
        obtain ⟨a, g', t'⟩ := q
        rw [hr1] at i1
        obtain ⟨j1, j2, j3, j4, j5, j6⟩ := i1
        have j7 := j6 (by omega)
        rw [if_neg (by omega)] at j5
        have t0 := tsh_0 t'
        simp only
        split
        · rename_i hc
          have := hr_in (c := c) (n := n) (p := a) (by omega)
          refine ⟨by omega, by omega, by omega, j4, ?_, by omega⟩
          rw [if_neg (by omega)]
          have : tsh (.mulR t' (-1)) = 0 := rfl
          omega
        · split
          · exact ⟨by omega, by omega, by omega, j4, by rw [if_neg (by omega)]; omega, by omega⟩
          · rename_i hc
            have := hr_in (c := c) (n := n) (p := a) (by omega)
            split
            · exact ⟨by omega, by omega⟩
            · refine ⟨by omega, by omega, by omega, j4, ?_, by omega⟩
              split
              · rw [if_neg (by omega)]
                have : tsh (.neg t') = 0 := rfl
                omega
              · rw [if_neg (by omega)]
                have : tsh (.mulR t' 0) = tsh t' := rfl
                omega
    · simp only
      have hp := h3 (by omega)
      split
      · split
        · exact ⟨by omega, h2⟩
        · rename_i hg
          have i1 := ih 0 t (p + 1) (g + 1) (by omega) (by omega) (by omega) (by omega) (by omega)
          cases hr1 : PZ c n f 0 t (p + 1) (g + 1) with
          | inl e => rw [hr1] at i1; exact ⟨by have := i1.1; omega, i1.2⟩
          | inr q =>
            obtain ⟨a, g', t'⟩ := q
            rw [hr1] at i1
            obtain ⟨j1, j2, j3, j4, j5, _⟩ := i1
            rw [if_neg (by omega)] at j5
            simp only
            split
            · rename_i hc
              have := hr_in (c := c) (n := n) (p := a) (by omega)
              refine ⟨by omega, by omega, by omega, j4, ?_, by omega⟩
              rw [if_neg (by omega)]
              have : tsh (.mulR t' (g + 1)) = tsh t' := if_neg (by omega)
              omega
            · exact ⟨by omega, j2⟩
      · split
        · have hb : (if hr c n (p + 1) = 94 then p + 2 else p + 1) ≤ n := by
            split
            · rename_i h94
              have := hr_in (c := c) (n := n) (p := p + 1) (by omega)
              omega
            · omega
          have hb2 : p + 1 ≤ (if hr c n (p + 1) = 94 then p + 2 else p + 1) := by split <;> omega
          generalize (if hr c n (p + 1) = 94 then p + 2 else p + 1) = b at hb hb2 ⊢
          have hs := scn_rg (c := c) (n := n) 30 b
          split
          · exact ⟨by omega, by omega⟩
          · rename_i hc
            have := hr_in (c := c) (n := n) (p := scn c n 30 b) (by omega)
            refine ⟨by omega, by omega, by omega, h5, ?_, by omega⟩
            have tl : ∀ z y, tsh (.mulL z y) = 1 := fun _ _ => rfl
            rw [tl, if_neg (by omega)]; omega
        · refine ⟨by omega, by omega, by omega, h5, ?_, by omega⟩
          split
          · rw [if_neg (by omega)]
            have : tsh (.num 1) = 1 := rfl
            omega
          · rw [if_neg (by omega)]
            have : tsh (.num (hr c n p)) ≤ 1 := by unfold tsh; split <;> omega
            omega
