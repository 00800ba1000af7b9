/-! the machine with memory: a stack of choices (step, position) and of marks to be restored (-1 - slot, old) -/
abbrev DT : Type := List (Int × Int) × (Int → Int) × List (Int × Int)
section DFT
variable (op : Int → Int × Int × Int) (fit : Int → Int → Bool) (acc : Int → Bool)
def dstep (T : DT) : DT ⊕ (Option (Int × (Int → Int)) × List (Int × Int)) := match T with
  | ([], _, vis) => .inr (none, vis)
  | ((a, b) :: k, w, vis) =>
    if a < 0 then .inl (k, up w (-1 - a) b, vis)
    else if (a, b) ∈ vis then .inl (k, w, vis)
    else if (op a).1 = 0 then (if fit a b = true then .inl ((a + 1, b + 1) :: k, w, (a, b) :: vis) else .inl (k, w, (a, b) :: vis))
    else if (op a).1 = 1 then .inl (((op a).2.1, b) :: ((op a).2.2, b) :: k, w, (a, b) :: vis)
    else if (op a).1 = 2 then .inl (((op a).2.1, b) :: k, w, (a, b) :: vis)
    else if (op a).1 = 3 then .inl ((a + 1, b) :: (-1 - (op a).2.1, w (op a).2.1) :: k, up w (op a).2.1 b, (a, b) :: vis)
    else if acc b = true then .inr (some (b, w), (a, b) :: vis) else .inl (k, w, (a, b) :: vis)
def dgo : Nat → DT → Option DT
  | 0, T => some T
  | n + 1, T => match dstep op fit acc T with
    | .inl T' => dgo n T'
    | .inr _ => none
theorem dgo_s (n : Nat) (T : DT) : dgo op fit acc (n + 1) T = match dstep op fit acc T with
    | .inl T' => dgo op fit acc n T'
    | .inr _ => none := rfl
theorem dgo_add : ∀ (n k : Nat) (T T1 : DT), dgo op fit acc n T = some T1 → dgo op fit acc (n + k) T = dgo op fit acc k T1 := by
  intro n
  induction n with
  | zero => intro k T T1 h; cases h; rw [Nat.zero_add]
  | succ n ih =>
    intro k T T1 h
    rw [show n + 1 + k = (n + k) + 1 by omega, dgo_s]
    rw [dgo_s] at h
    cases hs : dstep op fit acc T with
    | inl T' =>
      rw [hs] at h
      exact ih k T' T1 h
    | inr q => rw [hs] at h; cases h
/-- fails, whatever the marks -/
def Fl (v : Int × Int) : Prop := ∃ f w, fst1 op fit acc f v.1 v.2 w = some none
def DI (f : Nat) (vis : List (Int × Int)) : Prop := ∀ v, v ∈ vis → Fl op fit acc v ∨ ∀ w, fst1 op fit acc f v.1 v.2 w = none
end DFT
