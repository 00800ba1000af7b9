/-! .. in full -/
section DFV
variable {op : Int → Int × Int × Int} {fit : Int → Int → Bool} {acc : Int → Bool}
def OpOk (op : Int → Int × Int × Int) : Prop := ∀ s, 0 ≤ s → ((op s).1 = 1 → 0 ≤ (op s).2.1 ∧ 0 ≤ (op s).2.2) ∧ ((op s).1 = 2 → 0 ≤ (op s).2.1) ∧ ((op s).1 = 3 → 0 ≤ (op s).2.1)
def DO (op : Int → Int × Int × Int) (fit : Int → Int → Bool) (acc : Int → Bool) (T : DT) (k : List (Int × Int)) (w : Int → Int) (vis : List (Int × Int)) (r : Option (Int × (Int → Int))) : Prop := match r with
  | none => ∃ n vis', dgo op fit acc n T = some (k, w, vis') ∧ ∀ v, v ∈ vis' → v ∈ vis ∨ Fl op fit acc v
  | some q => ∃ n T' vis', dgo op fit acc n T = some T' ∧ dstep op fit acc T' = .inr (some q, vis')
theorem DO_step {T T' : DT} {k : List (Int × Int)} {w : Int → Int} {vis : List (Int × Int)} {r : Option (Int × (Int → Int))} (h : dstep op fit acc T = .inl T') (hd : DO op fit acc T' k w vis r) : DO op fit acc T k w vis r := by
  cases r with
  | none =>
    obtain ⟨n, vis', h1, h2⟩ := hd
    exact ⟨n + 1, vis', by rw [dgo_s, h]; exact h1, h2⟩
  | some q =>
    obtain ⟨n, T2, vis', h1, h2⟩ := hd
    exact ⟨n + 1, T2, vis', by rw [dgo_s, h]; exact h1, h2⟩
/-- what is visited may grow by what fails -/
theorem DO_vis {T : DT} {k : List (Int × Int)} {w : Int → Int} {vis vis2 : List (Int × Int)} {r : Option (Int × (Int → Int))} (hd : DO op fit acc T k w vis2 r) (hv : ∀ v, v ∈ vis2 → v ∈ vis ∨ (r = none → Fl op fit acc v)) : DO op fit acc T k w vis r := by
  cases r with
  | none =>
    obtain ⟨n, vis', h1, h2⟩ := hd
    refine ⟨n, vis', h1, fun v hm => ?_⟩
    rcases h2 v hm with h3 | h3
    · rcases hv v h3 with h4 | h4
      · exact Or.inl h4
      · exact Or.inr (h4 rfl)
    · exact Or.inr h3
  | some q => exact hd
theorem DO_seq {T T1 : DT} {n : Nat} {k : List (Int × Int)} {w : Int → Int} {vis : List (Int × Int)} {r : Option (Int × (Int → Int))} (h : dgo op fit acc n T = some T1) (hd : DO op fit acc T1 k w vis r) : DO op fit acc T k w vis r := by
  cases r with
  | none =>
    obtain ⟨m, vis', h1, h2⟩ := hd
    exact ⟨n + m, vis', by rw [dgo_add _ _ _ _ _ _ _ h]; exact h1, h2⟩
  | some q =>
    obtain ⟨m, T2, vis', h1, h2⟩ := hd
    exact ⟨n + m, T2, vis', by rw [dgo_add _ _ _ _ _ _ _ h]; exact h1, h2⟩
theorem up_up {w : Int → Int} {x b : Int} : up (up w x b) x (w x) = w := by
  funext j
  unfold up
  by_cases h : j = x
  · rw [if_pos h, h]
  · rw [if_neg h, if_neg h]
theorem dfs_ok (hop : OpOk op) : ∀ (f : Nat) (a b : Int) (w : Int → Int) (r : Option (Int × (Int → Int))) (vis k : List (Int × Int)), 0 ≤ a → fst1 op fit acc f a b w = some r → DI op fit acc f vis → DO op fit acc ((a, b) :: k, w, vis) k w vis r := by
  intro f
  induction f with
  | zero => intro a b w r vis k ha h; cases h
  | succ f ih =>
    intro a b w r vis k ha h hI
    by_cases hv : (a, b) ∈ vis
    · have hr : r = none := by
        rcases hI _ hv with h1 | h1
        · exact Fl_none h1 h
        · rw [h1 w] at h; cases h
      subst hr
      refine DO_step (T' := (k, w, vis)) ?_ ⟨0, vis, rfl, fun v hv => Or.inl hv⟩
      show (if a < 0 then _ else if (a, b) ∈ vis then _ else _) = _
      rw [if_neg (by omega), if_pos hv]
    cases hm : fst1 op fit acc f a b w with
    | some r' =>
      have := fst1_up _ _ _ _ _ _ _ _ hm
      rw [h] at this
      cases this
      exact ih a b w r vis k ha hm (DI_mono hI)
    | none =>
    have hI2 := DI_cons (DI_mono hI) hm
    have hFl : r = none → Fl op fit acc (a, b) := fun hr => ⟨f + 1, w, by rw [hr] at h; exact h⟩
    have hvis : ∀ v, v ∈ (a, b) :: vis → v ∈ vis ∨ (r = none → Fl op fit acc v) := fun v hm => by
      rcases List.mem_cons.mp hm with rfl | hm
      · exact Or.inr hFl
      · exact Or.inl hm
    unfold fst1 at h
    have hds : ∀ T', (if (op a).1 = 0 then (if fit a b = true then (.inl ((a + 1, b + 1) :: k, w, (a, b) :: vis) : DT ⊕ (Option (Int × (Int → Int)) × List (Int × Int))) else .inl (k, w, (a, b) :: vis))
    else if (op a).1 = 1 then .inl (((op a).2.1, b) :: ((op a).2.2, b) :: k, w, (a, b) :: vis)
    else if (op a).1 = 2 then .inl (((op a).2.1, b) :: k, w, (a, b) :: vis)
    else if (op a).1 = 3 then .inl ((a + 1, b) :: (-1 - (op a).2.1, w (op a).2.1) :: k, up w (op a).2.1 b, (a, b) :: vis)
    else if acc b = true then .inr (some (b, w), (a, b) :: vis) else .inl (k, w, (a, b) :: vis)) = T' → dstep op fit acc ((a, b) :: k, w, vis) = T' := fun T' hT => by
      rw [← hT]
      show (if a < 0 then _ else if (a, b) ∈ vis then _ else _) = _
      rw [if_neg (by omega), if_neg hv]
    by_cases h0 : (op a).1 = 0
    · rw [if_pos h0] at h
      by_cases hf : fit a b = true
      · rw [if_pos hf] at h
        refine DO_vis (DO_step (hds _ (by rw [if_pos h0, if_pos hf])) (ih _ _ w r _ k (by omega) h hI2)) hvis
      · rw [if_neg hf] at h
        cases h
        exact DO_vis (DO_step (hds _ (by rw [if_pos h0, if_neg hf])) ⟨0, _, rfl, fun v hv => Or.inl hv⟩) hvis
    rw [if_neg h0] at h
    by_cases h1 : (op a).1 = 1
    · rw [if_pos h1] at h
      have hxy := (hop a ha).1 h1
      cases hx : fst1 op fit acc f (op a).2.1 b w with
      | none => rw [hx] at h; cases h
      | some r1 =>
        rw [hx] at h
        have i1 := ih _ b w r1 _ (((op a).2.2, b) :: k) hxy.1 hx hI2
        cases r1 with
        | some q =>
          cases h
          exact DO_step (hds _ (by rw [if_neg h0, if_pos h1])) i1
        | none =>
          obtain ⟨n, vis', j1, j2⟩ := i1
          have hI3 : DI op fit acc f vis' := fun v hm => by
            rcases j2 v hm with h3 | h3
            · exact hI2 v h3
            · exact Or.inl h3
          have i2 := ih _ b w r vis' k hxy.2 h hI3
          refine DO_vis (DO_step (hds _ (by rw [if_neg h0, if_pos h1])) (DO_seq j1 i2)) (fun v hm => ?_)
          rcases j2 v hm with h3 | h3
          · exact hvis v h3
          · exact Or.inr (fun _ => h3)
    rw [if_neg h1] at h
    by_cases h2 : (op a).1 = 2
    · rw [if_pos h2] at h
      exact DO_vis (DO_step (hds _ (by rw [if_neg h0, if_neg h1, if_pos h2])) (ih _ _ w r _ k ((hop a ha).2.1 h2) h hI2)) hvis
    rw [if_neg h2] at h
    by_cases h3 : (op a).1 = 3
    · rw [if_pos h3] at h
      have i1 := ih _ b (up w (op a).2.1 b) r _ ((-1 - (op a).2.1, w (op a).2.1) :: k) (by omega) h hI2
      refine DO_vis (DO_step (hds _ (by rw [if_neg h0, if_neg h1, if_neg h2, if_pos h3])) ?_) hvis
      cases r with
      | some q => exact i1
      | none =>
        obtain ⟨n, vis', j1, j2⟩ := i1
        refine DO_vis (DO_seq j1 (DO_step (T' := (k, w, vis')) ?_ ⟨0, vis', rfl, fun v hv => Or.inl hv⟩)) (fun v hm => ?_)
        · have hs0 := (hop a ha).2.2 h3
          show (if -1 - (op a).2.1 < 0 then _ else _) = _
          rw [if_pos (by omega), show -1 - (-1 - (op a).2.1) = (op a).2.1 by omega, up_up]
        · rcases j2 v hm with h4 | h4
          · exact Or.inl h4
          · exact Or.inr (fun _ => h4)
    rw [if_neg h3] at h
    by_cases hac : acc b = true
    · rw [if_pos hac] at h
      cases h
      exact ⟨0, _, _, rfl, hds _ (by rw [if_neg h0, if_neg h1, if_neg h2, if_neg h3, if_pos hac])⟩
    · rw [if_neg hac] at h
      cases h
      exact DO_vis (DO_step (hds _ (by rw [if_neg h0, if_neg h1, if_neg h2, if_neg h3, if_neg hac])) ⟨0, _, rfl, fun v hv => Or.inl hv⟩) hvis
end DFV
