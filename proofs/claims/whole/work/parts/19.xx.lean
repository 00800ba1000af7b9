/-! RUNS, SAID BY THEIR ENDS: XX: from this frame the run ends, and Q holds of how. B: places at which a rewriting run halts (it says nothing). -/
theorem run_up {X : JX} : ∀ (n d mid : Nat) (F : JF) (q : JR × JM), run X n d mid F = some q → run X (n + 1) d mid F = some q := by
  intro n
  induction n with
  | zero => intro d mid F q h; cases h
  | succ n ih =>
    intro d mid F q h
    unfold run at h ⊢
    cases hs : step X mid F with
    | none => rw [hs] at h; cases h
    | some js =>
    rw [hs] at h
    rcases js with F' | q' | ⟨mid', args, F'⟩
    · exact ih _ _ _ _ h
    · exact h
    · simp only at h ⊢
      cases d with
      | zero => cases h
      | succ d =>
      simp only at h ⊢
      split at h
      case isFalse => cases h
      rename_i hl
      rw [if_pos hl]
      cases hr : run X n d mid' (ent mid' args F'.2.2.2) with
      | none => rw [hr] at h; cases h
      | some q1 =>
      obtain ⟨r1, M1⟩ := q1
      rw [hr] at h
      rw [ih _ _ _ _ hr]
      cases r1 with
      | inl v => exact ih _ _ _ _ h
      | inr e =>
        simp only at h ⊢
        split at h
        · cases h
        rename_i hi
        rw [if_neg hi]
        split at h
        · rename_i hx; rw [if_pos hx]; exact h
        rename_i hx
        rw [if_neg hx]
        split at h
        · cases h
        · rename_i t k hh
          split at h
          · rename_i hw; rw [if_pos hw]; exact ih _ _ _ _ h
          · cases h
theorem run_le {X : JX} {n k d mid : Nat} {F : JF} {q : JR × JM} (h : run X n d mid F = some q) (hk : n ≤ k) : run X k d mid F = some q := by
  induction k with
  | zero => rw [Nat.le_zero.mp hk] at h; exact h
  | succ k ih =>
    rcases Nat.lt_or_ge n (k + 1) with h1 | h1
    · exact run_up _ _ _ _ _ (ih (by omega))
    · rw [show n = k + 1 by omega] at h; exact h
def XX (X : JX) (d mid : Nat) (F : JF) (Q : JR → JM → Prop) : Prop := ∃ (n : Nat) (r : JR) (M' : JM), run X n d mid F = some (r, M') ∧ Q r M'
/-- a call, from its first frame -/
def CC (X : JX) (d mid : Nat) (args : List Value) (M : JM) (Q : JR → JM → Prop) : Prop := (entL args).length ≤ mL mid ∧ ∃ (n : Nat) (r : JR) (M' : JM), run X n d mid (ent mid args M) = some (r, M') ∧ Q r M'
theorem CC_mono {X : JX} {d mid : Nat} {args : List Value} {M : JM} {Q Q' : JR → JM → Prop} (h : CC X d mid args M Q) (hq : ∀ r M', Q r M' → Q' r M') : CC X d mid args M Q' := by
  obtain ⟨h1, n, r, M', h2, h3⟩ := h
  exact ⟨h1, n, r, M', h2, hq _ _ h3⟩
theorem XX_mono {X : JX} {d mid : Nat} {F : JF} {Q Q' : JR → JM → Prop} (h : XX X d mid F Q) (hq : ∀ r M', Q r M' → Q' r M') : XX X d mid F Q' := by
  obtain ⟨n, r, M', h2, h3⟩ := h
  exact ⟨n, r, M', h2, hq _ _ h3⟩
/-- a run begun -/
theorem CC_of {X : JX} {d mid : Nat} {args : List Value} {M : JM} {Q : JR → JM → Prop} (h1 : (entL args).length ≤ mL mid) (h2 : XX X d mid (ent mid args M) Q) : CC X d mid args M Q := ⟨h1, h2⟩
/-- one row of the program, at a frame -/
def stepI (X : JX) (mid : Nat) (q : Instr × Nat × List Nat) (F : JF) : Option JS := match F with
  | (pc, L, st, M) => match q with
    | (i, ln, r) =>
      match ldK i with
      | some (k, n) => (match L[n]? with
        | some (some v) => if kOk k v = true then nx (pc + ln, L, v :: st, M) else none
        | _ => none)
      | none => match stK i with
      | some (k, n) => (match st with
        | v :: st => if kOk k v = true then (match stL L n v with | some L => nx (pc + ln, L, st, M) | none => none) else none
        | _ => none)
      | none => match cst i r with
      | some v => nx (pc + ln, L, v :: st, M)
      | none => if r = [1] then (match scrOp X i st with | some st => nx (pc + ln, L, st, M) | none => none) else
      match sop i st with
      | some st => nx (pc + ln, L, st, M)
      | none => match bop i st with
      | some (b, st) => nx (if b = true then r.getD 0 0 else pc + ln, L, st, M)
      | none => if isAld i = true then (match st with
          | .int k :: .ref a :: st => (match M.2.2 a with
            | some (.inl (t, n, g)) => if aldT i t = true ∧ ¬ (k < 0 ∨ n ≤ k.toNatClampNeg) then nx (pc + ln, L, g k.toNatClampNeg :: st, M) else none
            | _ => none)
          | _ => none)
      else if isAst i = true then (match st with
          | v :: .int k :: .ref a :: st => (match M.2.2 a with
            | some (.inl (t, n, g)) => (match astV i t v (mcl M) with
              | some w => if ¬ (k < 0 ∨ n ≤ k.toNatClampNeg) then nx (pc + ln, L, st, mset M a (.inl (t, n, va_up g k.toNatClampNeg w))) else none
              | none => none)
            | _ => none)
          | _ => none)
      else match st with
      | [v] => if rOk i (mR mid) v = true then some (.inr (.inl (.inl (some v), M))) else (match exO M pc ln r L st i with | some s => some s | none => exC M pc ln r L st i)
      | [] => if i = .return_ then (if mR mid = none then some (.inr (.inl (.inl none, M))) else none) else (match exO M pc ln r L st i with | some s => some s | none => exC M pc ln r L st i)
      | _ => (match exO M pc ln r L st i with | some s => some s | none => exC M pc ln r L st i)
theorem step_eq (X : JX) (mid pc : Nat) (L : List (Option Value)) (st : List Value) (M : JM) : step X mid (pc, L, st, M) = (match cd mid pc with | none => none | some q => stepI X mid q (pc, L, st, M)) := by
  unfold step stepI
  simp only
  cases cd mid pc with
  | none => rfl
  | some q => rfl
/-- behind a call -/
def XB (X : JX) (d mid pc : Nat) (F' : JF) (Q : JR → JM → Prop) : JR → JM → Prop := fun r M' => match r with
  | .inl v => XX X d mid (F'.1, F'.2.1, v.toList ++ F'.2.2.1, M') Q
  | .inr e => if isI mid pc = true then False else if mX mid = [] then Q (.inr e) M' else match hdl (mX mid) pc e with
    | none => False
    | some (t, k) => if k = 0 ∨ wide F'.2.1[k - 1]? = false then XX X d mid (t, F'.2.1.set k none, [], M') Q else False
def XS (X : JX) (d mid pc : Nat) (o : Option JS) (Q : JR → JM → Prop) : Prop := match o with
  | none => False
  | some (.inl F') => XX X d mid F' Q
  | some (.inr (.inl q)) => Q q.1 q.2
  | some (.inr (.inr (mid', args, F'))) => match d with
    | 0 => False
    | d + 1 => CC X d mid' args F'.2.2.2 (XB X (d + 1) mid pc F' Q)
def XI (X : JX) (d mid : Nat) (q : Option (Instr × Nat × List Nat)) (pc : Nat) (L : List (Option Value)) (st : List Value) (M : JM) (Q : JR → JM → Prop) : Prop := match q with
  | none => False
  | some q => XS X d mid pc (stepI X mid q (pc, L, st, M)) Q
theorem XX_step {X : JX} {d mid pc : Nat} {L : List (Option Value)} {st : List Value} {M : JM} {Q : JR → JM → Prop} : XX X d mid (pc, L, st, M) Q ↔ XS X d mid pc (step X mid (pc, L, st, M)) Q := by
  constructor
  · rintro ⟨n, r, M', h, hQ⟩
    cases n with
    | zero => cases h
    | succ n =>
    unfold run at h
    cases hs : step X mid (pc, L, st, M) with
    | none => rw [hs] at h; cases h
    | some js =>
    rw [hs] at h
    rcases js with F' | q' | ⟨mid', args, F'⟩
    · exact ⟨n, r, M', h, hQ⟩
    · have : q' = (r, M') := Option.some.inj h
      subst this
      exact hQ
    · simp only at h
      cases d with
      | zero => cases h
      | succ d =>
      simp only at h
      split at h
      case isFalse => cases h
      rename_i hl
      cases hr : run X n d mid' (ent mid' args F'.2.2.2) with
      | none => rw [hr] at h; cases h
      | some q1 =>
      obtain ⟨r1, M1⟩ := q1
      rw [hr] at h
      refine ⟨hl, n, r1, M1, hr, ?_⟩
      cases r1 with
      | inl v => exact ⟨n, r, M', h, hQ⟩
      | inr e =>
        simp only at h
        unfold XB
        simp only
        split at h
        · cases h
        rename_i hi
        rw [if_neg hi]
        split at h
        · rename_i hx
          rw [if_pos hx]
          have : ((.inr e : JR), M1) = (r, M') := Option.some.inj h
          cases this
          exact hQ
        rename_i hx
        rw [if_neg hx]
        split at h
        · cases h
        · rename_i t k hh
          split at h
          · rename_i hw
            rw [hh]
            simp only
            rw [if_pos hw]
            exact ⟨n, r, M', h, hQ⟩
          · cases h
  · intro h
    unfold XS at h
    cases hs : step X mid (pc, L, st, M) with
    | none => rw [hs] at h; exact h.elim
    | some js =>
    rw [hs] at h
    rcases js with F' | q' | ⟨mid', args, F'⟩
    · obtain ⟨n, r, M', h1, h2⟩ := h
      exact ⟨n + 1, r, M', by unfold run; rw [hs]; exact h1, h2⟩
    · exact ⟨1, q'.1, q'.2, by unfold run; rw [hs], h⟩
    · simp only at h
      cases d with
      | zero => exact h.elim
      | succ d =>
      simp only at h
      obtain ⟨hl, n, r1, M1, hr, hB⟩ := h
      cases r1 with
      | inl v =>
        obtain ⟨n2, r, M', h1, h2⟩ := hB
        refine ⟨max n n2 + 1, r, M', ?_, h2⟩
        unfold run
        rw [hs]
        simp only
        rw [if_pos hl, run_le hr (Nat.le_max_left _ _)]
        exact run_le h1 (Nat.le_max_right _ _)
      | inr e =>
        unfold XB at hB
        simp only at hB
        split at hB
        · exact hB.elim
        rename_i hi
        split at hB
        · rename_i hx
          refine ⟨n + 1, _, _, ?_, hB⟩
          unfold run
          rw [hs]
          simp only
          rw [if_pos hl, hr]
          simp only
          rw [if_neg hi, if_pos hx]
        rename_i hx
        split at hB
        · exact hB.elim
        · rename_i t k hh
          split at hB
          · rename_i hw
            obtain ⟨n2, r, M', h1, h2⟩ := hB
            refine ⟨max n n2 + 1, r, M', ?_, h2⟩
            unfold run
            rw [hs]
            simp only
            rw [if_pos hl, run_le hr (Nat.le_max_left _ _)]
            simp only
            rw [if_neg hi, if_neg hx, hh]
            simp only
            rw [if_pos hw]
            exact run_le h1 (Nat.le_max_right _ _)
          · exact hB.elim
theorem XX_go {X : JX} {d mid pc : Nat} {L : List (Option Value)} {st : List Value} {M : JM} {Q : JR → JM → Prop} : XX X d mid (pc, L, st, M) Q = XI X d mid (cd mid pc) pc L st M Q := by
  apply propext
  rw [XX_step, step_eq]
  unfold XI
  cases cd mid pc with
  | none => rfl
  | some q => rfl
