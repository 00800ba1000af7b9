/-! the machine finds what the search without memory finds -/
section DFU
variable {op : Int → Int × Int × Int} {fit : Int → Int → Bool} {acc : Int → Bool}
theorem fst1_le {f f' : Nat} {s p : Int} {w : Int → Int} {r : Option (Int × (Int → Int))} (h : fst1 op fit acc f s p w = some r) (hl : f ≤ f') : fst1 op fit acc f' s p w = some r := by
  induction f' with
  | zero => rw [Nat.le_zero.mp hl] at h; exact h
  | succ k ih =>
    rcases Nat.lt_or_ge f (k + 1) with h1 | h1
    · exact fst1_up _ _ _ _ _ _ _ _ (ih (by omega))
    · rw [show f = k + 1 by omega] at h; exact h
theorem fst1_none {f : Nat} {s p : Int} {w : Int → Int} (h : fst1 op fit acc f s p w = none) (w' : Int → Int) : fst1 op fit acc f s p w' = none := by
  have := fst1_mk op fit acc f s p w w'
  rw [h] at this
  cases hx : fst1 op fit acc f s p w' with
  | none => rfl
  | some r => rw [hx] at this; cases this
theorem Fl_none {f : Nat} {v : Int × Int} {w : Int → Int} {r : Option (Int × (Int → Int))} (h : Fl op fit acc v) (hr : fst1 op fit acc f v.1 v.2 w = some r) : r = none := by
  obtain ⟨f', w', h'⟩ := h
  have h1 := fst1_le h' (Nat.le_max_left f' f)
  have h2 := fst1_le hr (Nat.le_max_right f' f)
  have := fst1_mk op fit acc (max f' f) v.1 v.2 w' w
  rw [h1, h2] at this
  cases r with
  | none => rfl
  | some q => cases this
theorem DI_mono {f : Nat} {vis : List (Int × Int)} (h : DI op fit acc (f + 1) vis) : DI op fit acc f vis := by
  intro v hv
  rcases h v hv with h1 | h1
  · exact Or.inl h1
  · refine Or.inr (fun w => ?_)
    cases hx : fst1 op fit acc f v.1 v.2 w with
    | none => rfl
    | some r =>
      have h2 := h1 w
      rw [fst1_up _ _ _ _ _ _ _ _ hx] at h2
      cases h2
theorem DI_cons {f : Nat} {vis : List (Int × Int)} {a b : Int} {w : Int → Int} (h : DI op fit acc f vis) (hn : fst1 op fit acc f a b w = none) : DI op fit acc f ((a, b) :: vis) := by
  intro v hv
  rcases List.mem_cons.mp hv with rfl | hv
  · exact Or.inr (fun w' => fst1_none hn w')
  · exact h v hv
end DFU
