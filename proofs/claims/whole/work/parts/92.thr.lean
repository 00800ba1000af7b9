/-! threads: all ways at once find what the search finds -/
section THR
variable (op : Int → Int × Int × Int) (fit : Int → Int → Bool) (acc : Int → Bool)
/-- within f steps that take nothing all ways end -/
def FT : Nat → Int → Prop
  | 0, _ => False
  | f + 1, s => ((op s).1 = 1 → FT f (op s).2.1 ∧ FT f (op s).2.2) ∧ ((op s).1 = 2 → FT f (op s).2.1) ∧ ((op s).1 = 3 → FT f (s + 1))
theorem FT_up : ∀ (f : Nat) (s : Int), FT op f s → FT op (f + 1) s := by
  intro f
  induction f with
  | zero => intro s h; exact h.elim
  | succ f ih =>
    intro s h
    exact ⟨fun q => ⟨ih _ (h.1 q).1, ih _ (h.1 q).2⟩, fun q => ih _ (h.2.1 q), fun q => ih _ (h.2.2 q)⟩
def FTe (s : Int) : Prop := ∃ f, FT op f s
variable {op : Int → Int × Int × Int} {fit : Int → Int → Bool} {acc : Int → Bool}
theorem FT_le {f f' : Nat} {s : Int} (h : FT op f s) (hl : f ≤ f') : FT op f' s := by
  induction f' with
  | zero => rw [Nat.le_zero.mp hl] at h; exact h
  | succ k ih =>
    rcases Nat.lt_or_ge f (k + 1) with h1 | h1
    · exact FT_up op _ _ (ih (by omega))
    · rw [show f = k + 1 by omega] at h; exact h
theorem FTe_1 {s : Int} (h : (op s).1 = 1) (h1 : FTe op (op s).2.1) (h2 : FTe op (op s).2.2) : FTe op s := by
  obtain ⟨f1, h1⟩ := h1
  obtain ⟨f2, h2⟩ := h2
  exact ⟨max f1 f2 + 1, fun _ => ⟨FT_le h1 (Nat.le_max_left _ _), FT_le h2 (Nat.le_max_right _ _)⟩, fun q => by omega, fun q => by omega⟩
theorem FTe_2 {s : Int} (h : (op s).1 = 2) (h1 : FTe op (op s).2.1) : FTe op s := by
  obtain ⟨f1, h1⟩ := h1
  exact ⟨f1 + 1, fun q => by omega, fun _ => h1, fun q => by omega⟩
theorem FTe_3 {s : Int} (h : (op s).1 = 3) (h1 : FTe op (s + 1)) : FTe op s := by
  obtain ⟨f1, h1⟩ := h1
  exact ⟨f1 + 1, fun q => by omega, fun q => by omega, fun _ => h1⟩
theorem FTe_0 {s : Int} (h : (op s).1 = 0 ∨ 4 ≤ (op s).1) : FTe op s := ⟨1, fun q => by omega, fun q => by omega, fun q => by omega⟩
/-- the end that is found from a step at a position -/
def En (op : Int → Int × Int × Int) (fit : Int → Int → Bool) (acc : Int → Bool) (s p : Int) (o : Option Int) : Prop := ∃ w r, Tm op fit acc s p w r ∧ r.map (fun q => q.1) = o
noncomputable def en (op : Int → Int × Int × Int) (fit : Int → Int → Bool) (acc : Int → Bool) (s p : Int) : Option Int := Classical.epsilon (En op fit acc s p)
theorem Tm_mk {s p : Int} {w w' : Int → Int} {r r' : RA} (h : Tm op fit acc s p w r) (h' : Tm op fit acc s p w' r') : r.map (fun q => q.1) = r'.map (fun q => q.1) := by
  obtain ⟨f1, h1⟩ := h
  obtain ⟨f2, h2⟩ := h'
  have e1 := fst1_le h1 (Nat.le_max_left f1 f2)
  have e2 := fst1_le h2 (Nat.le_max_right f1 f2)
  have := fst1_mk op fit acc (max f1 f2) s p w w'
  rw [e1, e2] at this
  exact Option.some.inj this
theorem en_eq {s p : Int} {w : Int → Int} {r : RA} (h : Tm op fit acc s p w r) : en op fit acc s p = r.map (fun q => q.1) := by
  have hx : ∃ o, En op fit acc s p o := ⟨_, w, r, h, rfl⟩
  obtain ⟨w', r', h1, h2⟩ := Classical.epsilon_spec hx
  unfold en
  rw [← h2]
  exact Tm_mk h1 h
/-- all ways end -/
def Tot (op : Int → Int × Int × Int) (fit : Int → Int → Bool) (acc : Int → Bool) (N L : Int) : Prop := ∀ s p, 0 ≤ s → s < N → 0 ≤ p → p ≤ L → ∀ w, ∃ r, Tm op fit acc s p w r
theorem tot_of {N L : Int} (hop : OpR op N) (hfit : ∀ s p, fit s p = true → p < L) (hF : ∀ s, 0 ≤ s → s < N → FTe op s) : Tot op fit acc N L := by
  have key : ∀ (m : Nat) (p : Int), 0 ≤ p → p ≤ L → L - p = m → ∀ s, 0 ≤ s → s < N → ∀ w, ∃ r, Tm op fit acc s p w r := by
    intro m
    induction m using Nat.strongRecOn with
    | ind m ihm =>
    intro p p0 p1 hm s s0 s1
    obtain ⟨f, hf⟩ := hF s s0 s1
    have inner : ∀ (f : Nat) (s : Int), 0 ≤ s → s < N → FT op f s → ∀ w, ∃ r, Tm op fit acc s p w r := by
      intro f
      induction f with
      | zero => intro s _ _ h; exact h.elim
      | succ f ih =>
        intro s s0 s1 h w
        obtain ⟨o0, o1, o2, o3, o4, o5⟩ := hop s s0 s1
        rcases (show (op s).1 = 0 ∨ (op s).1 = 1 ∨ (op s).1 = 2 ∨ (op s).1 = 3 ∨ (op s).1 = 4 by omega) with e | e | e | e | e
        · by_cases hfi : fit s p = true
          · have hp := hfit s p hfi
            obtain ⟨r, hr⟩ := ihm (m - 1) (by omega) (p + 1) (by omega) (by omega) (by omega) (s + 1) (by omega) (o2 e) w
            exact ⟨r, Tm_t e hfi hr⟩
          · exact ⟨none, Tm_tf e hfi⟩
        · have hx := o3 e
          obtain ⟨r1, h1⟩ := ih _ hx.1 hx.2.1 (h.1 e).1 w
          obtain ⟨r2, h2⟩ := ih _ hx.2.2.1 hx.2.2.2 (h.1 e).2 w
          exact ⟨_, Tm_c e h1 h2⟩
        · have hx := o4 e
          obtain ⟨r1, h1⟩ := ih _ hx.1 hx.2 (h.2.1 e) w
          exact ⟨_, Tm_j e h1⟩
        · have hx := o5 e
          obtain ⟨r1, h1⟩ := ih (s + 1) (by omega) hx.1 (h.2.2 e) (up w (op s).2.1 p)
          exact ⟨_, Tm_m e h1⟩
        · exact ⟨_, Tm_a e⟩
    exact inner f s s0 s1 hf
  intro s p s0 s1 p0 p1 w
  exact key (L - p).toNat p p0 p1 (by omega) s s0 s1 w
def oo (a b : Option Int) : Option Int := match a with
  | some r => some r
  | none => b
section ENS
variable {N L : Int} (hT : Tot op fit acc N L)
theorem en_0 {s p : Int} (e : (op s).1 = 0) (s0 : 0 ≤ s) (s1 : s + 1 < N) (p0 : 0 ≤ p) (hfit : fit s p = true → p < L) (hT : Tot op fit acc N L) : en op fit acc s p = if fit s p = true then en op fit acc (s + 1) (p + 1) else none := by
  by_cases hf : fit s p = true
  · rw [if_pos hf]
    have := hfit hf
    obtain ⟨r, hr⟩ := hT (s + 1) (p + 1) (by omega) s1 (by omega) (by omega) (fun _ => 0)
    rw [en_eq hr, en_eq (Tm_t e hf hr)]
  · rw [if_neg hf, en_eq (w := fun _ => 0) (Tm_tf e hf)]; rfl
theorem en_1 {s p : Int} (e : (op s).1 = 1) (h : 0 ≤ (op s).2.1 ∧ (op s).2.1 < N ∧ 0 ≤ (op s).2.2 ∧ (op s).2.2 < N) (p0 : 0 ≤ p) (p1 : p ≤ L) (hT : Tot op fit acc N L) : en op fit acc s p = oo (en op fit acc (op s).2.1 p) (en op fit acc (op s).2.2 p) := by
  obtain ⟨r1, h1⟩ := hT _ p h.1 h.2.1 p0 p1 (fun _ => 0)
  obtain ⟨r2, h2⟩ := hT _ p h.2.2.1 h.2.2.2 p0 p1 (fun _ => 0)
  rw [en_eq (Tm_c e h1 h2), en_eq h1, en_eq h2]
  cases r1 <;> rfl
theorem en_2 {s p : Int} (e : (op s).1 = 2) (h : 0 ≤ (op s).2.1 ∧ (op s).2.1 < N) (p0 : 0 ≤ p) (p1 : p ≤ L) (hT : Tot op fit acc N L) : en op fit acc s p = en op fit acc (op s).2.1 p := by
  obtain ⟨r1, h1⟩ := hT _ p h.1 h.2 p0 p1 (fun _ => 0)
  rw [en_eq (Tm_j e h1), en_eq h1]
theorem en_3 {s p : Int} (e : (op s).1 = 3) (s0 : 0 ≤ s) (s1 : s + 1 < N) (p0 : 0 ≤ p) (p1 : p ≤ L) (hT : Tot op fit acc N L) : en op fit acc s p = en op fit acc (s + 1) p := by
  obtain ⟨r1, h1⟩ := hT (s + 1) p (by omega) s1 p0 p1 (up (fun _ => 0) (op s).2.1 p)
  rw [en_eq (Tm_m e h1), en_eq h1]
theorem en_4 {s p : Int} (e : (op s).1 = 4) : en op fit acc s p = if acc p = true then some p else none := by
  rw [en_eq (w := fun _ => 0) (Tm_a e)]
  split <;> rfl
end ENS
/-- the first of these threads that finds an end: its origin, the end -/
noncomputable def ans (op : Int → Int × Int × Int) (fit : Int → Int → Bool) (acc : Int → Bool) (p : Int) : ML → Option (Int × Int)
  | [] => none
  | v :: l => match en op fit acc v.1 p with
    | some e => some (v.2, e)
    | none => ans op fit acc p l
def o2 (a b : Option (Int × Int)) : Option (Int × Int) := match a with
  | some r => some r
  | none => b
theorem o2_as (a b c : Option (Int × Int)) : o2 (o2 a b) c = o2 a (o2 b c) := by cases a <;> rfl
theorem o2_n (a : Option (Int × Int)) : o2 a none = a := by cases a <;> rfl
theorem ans_app (p : Int) : ∀ l l' : ML, ans op fit acc p (l ++ l') = o2 (ans op fit acc p l) (ans op fit acc p l') := by
  intro l
  induction l with
  | nil => intro l'; rfl
  | cons v l ih =>
    intro l'
    show (match en op fit acc v.1 p with | some e => some (v.2, e) | none => ans op fit acc p (l ++ l')) = o2 (match en op fit acc v.1 p with | some e => some (v.2, e) | none => ans op fit acc p l) _
    cases en op fit acc v.1 p with
    | some e => rfl
    | none => exact ih l'
def mo (o : Int) (a : Option Int) : Option (Int × Int) := a.map (fun e => (o, e))
theorem mo_oo (o : Int) (a b : Option Int) : mo o (oo a b) = o2 (mo o a) (mo o b) := by cases a <;> rfl
theorem ans_1 (p s o : Int) : ans op fit acc p [(s, o)] = mo o (en op fit acc s p) := by
  unfold ans
  cases en op fit acc s p <;> rfl
abbrev ST : Type := List Int × List Int × ML
/-- one turn of the spreading: waiting steps, reached ones, the threads that come -/
def sst (op : Int → Int × Int × Int) (o : Int) (T : ST) : ST := match T with
  | ([], V, D) => ([], V, D)
  | (s :: K, V, D) => if s ∈ V then (K, V, D) else if (op s).1 = 1 then ((op s).2.1 :: (op s).2.2 :: K, s :: V, D) else if (op s).1 = 2 then ((op s).2.1 :: K, s :: V, D) else if (op s).1 = 3 then ((s + 1) :: K, s :: V, D) else (K, s :: V, D ++ [(s, o)])
def sgo (op : Int → Int × Int × Int) (o : Int) : Nat → ST → ST
  | 0, T => T
  | n + 1, T => sgo op o n (sst op o T)
theorem sgo_add (o : Int) : ∀ (n k : Nat) (T : ST), sgo op o (n + k) T = sgo op o k (sgo op o n T) := by
  intro n
  induction n with
  | zero => intro k T; rw [Nat.zero_add]; rfl
  | succ n ih => intro k T; rw [show n + 1 + k = (n + k) + 1 by omega]; exact ih k _
def SI (op : Int → Int × Int × Int) (fit : Int → Int → Bool) (acc : Int → Bool) (p : Int) (f : Nat) (V : List Int) (D : ML) : Prop := ∀ v, v ∈ V → en op fit acc v p = none ∨ ans op fit acc p D ≠ none ∨ ¬ FT op f v
/-- all that is reached is answered for -/
def S0 (op : Int → Int × Int × Int) (fit : Int → Int → Bool) (acc : Int → Bool) (p : Int) (V : List Int) (D : ML) : Prop := ∀ v, v ∈ V → en op fit acc v p = none ∨ ans op fit acc p D ≠ none
theorem spread_ok {N L : Int} (hop : OpR op N) (hT : Tot op fit acc N L) {p o : Int} (p0 : 0 ≤ p) (p1 : p ≤ L) : ∀ (f : Nat) (s : Int) (K V : List Int) (D : ML), 0 ≤ s → s < N → FT op f s → SI op fit acc p f V D → ∃ n V' D', sgo op o n (s :: K, V, D) = (K, V', D') ∧ ans op fit acc p D' = o2 (ans op fit acc p D) (mo o (en op fit acc s p)) ∧ (ans op fit acc p D ≠ none → ans op fit acc p D' ≠ none) ∧ ∀ v, v ∈ V' → v ∈ V ∨ en op fit acc v p = none ∨ ans op fit acc p D' ≠ none := by
  intro f
  induction f with
  | zero => intro s K V D _ _ h; exact h.elim
  | succ f ih =>
    intro s K V D s0 s1 hF hI
    have mono : ∀ {a b : Option (Int × Int)}, a ≠ none → o2 a b ≠ none := fun {a b} h => by
      cases a with
      | none => exact absurd rfl h
      | some q => intro h2; cases h2
    by_cases hv : s ∈ V
    · refine ⟨1, V, D, ?_, ?_, fun h => h, fun v h => Or.inl h⟩
      · show sst op o (s :: K, V, D) = _
        show (if s ∈ V then _ else _) = _
        rw [if_pos hv]
      · rcases hI s hv with h | h | h
        · rw [h]; exact (o2_n _).symm
        · cases hx : ans op fit acc p D with
          | none => exact absurd hx h
          | some q => rfl
        · exact absurd hF h
    by_cases hF' : FT op f s
    · refine ih s K V D s0 s1 hF' (fun v hm => ?_)
      rcases hI v hm with h | h | h
      · exact Or.inl h
      · exact Or.inr (Or.inl h)
      · exact Or.inr (Or.inr (fun q => h (FT_up op _ _ q)))
    obtain ⟨q0, q1, q2, q3, q4, q5⟩ := hop s s0 s1
    have hI2 : SI op fit acc p f (s :: V) D := by
      intro v hm
      rcases List.mem_cons.mp hm with rfl | hm
      · exact Or.inr (Or.inr hF')
      · rcases hI v hm with h | h | h
        · exact Or.inl h
        · exact Or.inr (Or.inl h)
        · exact Or.inr (Or.inr (fun q => h (FT_up op _ _ q)))
    have hst : ∀ T', (if (op s).1 = 1 then (((op s).2.1 :: (op s).2.2 :: K, s :: V, D) : ST) else if (op s).1 = 2 then ((op s).2.1 :: K, s :: V, D) else if (op s).1 = 3 then ((s + 1) :: K, s :: V, D) else (K, s :: V, D ++ [(s, o)])) = T' → sst op o (s :: K, V, D) = T' := fun T' h => by
      rw [← h]
      show (if s ∈ V then _ else _) = _
      rw [if_neg hv]
    by_cases e1 : (op s).1 = 1
    · have hx := q3 e1
      have hen := en_1 e1 hx p0 p1 hT
      obtain ⟨n1, V1, D1, a1, a2, a3, a4⟩ := ih (op s).2.1 ((op s).2.2 :: K) (s :: V) D hx.1 hx.2.1 (hF.1 e1).1 hI2
      obtain ⟨n2, V2, D2, b1, b2, b3, b4⟩ := ih (op s).2.2 K V1 D1 hx.2.2.1 hx.2.2.2 (hF.1 e1).2 (fun v hm => by
        rcases a4 v hm with h | h | h
        · rcases hI2 v h with h | h | h
          · exact Or.inl h
          · exact Or.inr (Or.inl (a3 h))
          · exact Or.inr (Or.inr h)
        · exact Or.inl h
        · exact Or.inr (Or.inl h))
      have hres : ans op fit acc p D2 = o2 (ans op fit acc p D) (mo o (en op fit acc s p)) := by rw [b2, a2, hen, mo_oo, o2_as]
      refine ⟨1 + (n1 + n2), V2, D2, ?_, hres, fun h => b3 (a3 h), fun v hm => ?_⟩
      · rw [sgo_add, sgo_add]
        show sgo op o n2 (sgo op o n1 (sst op o (s :: K, V, D))) = _
        rw [hst _ (if_pos e1), a1, b1]
      · have last : ∀ {v}, v = s → en op fit acc v p = none ∨ ans op fit acc p D2 ≠ none := fun {v} hvs => by
          rw [hvs, hres]
          cases hes : en op fit acc s p with
          | none => exact Or.inl rfl
          | some e => exact Or.inr (by cases ans op fit acc p D <;> (intro h2; cases h2))
        rcases b4 v hm with h | h | h
        · rcases a4 v h with h | h | h
          · rcases List.mem_cons.mp h with h | h
            · exact Or.inr (last h)
            · exact Or.inl h
          · exact Or.inr (Or.inl h)
          · exact Or.inr (Or.inr (b3 h))
        · exact Or.inr (Or.inl h)
        · exact Or.inr (Or.inr h)
    have one : ∀ (s' : Int), 0 ≤ s' → s' < N → FT op f s' → en op fit acc s p = en op fit acc s' p → sst op o (s :: K, V, D) = (s' :: K, s :: V, D) → ∃ n V' D', sgo op o n (s :: K, V, D) = (K, V', D') ∧ ans op fit acc p D' = o2 (ans op fit acc p D) (mo o (en op fit acc s p)) ∧ (ans op fit acc p D ≠ none → ans op fit acc p D' ≠ none) ∧ ∀ v, v ∈ V' → v ∈ V ∨ en op fit acc v p = none ∨ ans op fit acc p D' ≠ none := by
      intro s' h0 h1 hf he hs
      obtain ⟨n1, V1, D1, a1, a2, a3, a4⟩ := ih s' K (s :: V) D h0 h1 hf hI2
      have hres : ans op fit acc p D1 = o2 (ans op fit acc p D) (mo o (en op fit acc s p)) := by rw [a2, he]
      refine ⟨1 + n1, V1, D1, ?_, hres, a3, fun v hm => ?_⟩
      · rw [sgo_add]
        show sgo op o n1 (sst op o (s :: K, V, D)) = _
        rw [hs, a1]
      · rcases a4 v hm with h | h | h
        · rcases List.mem_cons.mp h with h | h
          · rw [h, hres]
            cases hes : en op fit acc s p with
            | none => exact Or.inr (Or.inl rfl)
            | some e => exact Or.inr (Or.inr (by cases ans op fit acc p D <;> (intro h2; cases h2)))
          · exact Or.inl h
        · exact Or.inr (Or.inl h)
        · exact Or.inr (Or.inr h)
    by_cases e2 : (op s).1 = 2
    · have hx := q4 e2
      exact one _ hx.1 hx.2 (hF.2.1 e2) (en_2 e2 hx p0 p1 hT) (hst _ (by rw [if_neg e1, if_pos e2]))
    by_cases e3 : (op s).1 = 3
    · have hx := q5 e3
      exact one _ (by omega) hx.1 (hF.2.2 e3) (en_3 e3 s0 hx.1 p0 p1 hT) (hst _ (by rw [if_neg e1, if_neg e2, if_pos e3]))
    · have hres : ans op fit acc p (D ++ [(s, o)]) = o2 (ans op fit acc p D) (mo o (en op fit acc s p)) := by rw [ans_app, ans_1]
      refine ⟨1, s :: V, D ++ [(s, o)], hst _ (by rw [if_neg e1, if_neg e2, if_neg e3]), hres, fun h => by rw [hres]; exact mono h, fun v hm => ?_⟩
      rcases List.mem_cons.mp hm with h | h
      · rw [h, hres]
        cases hes : en op fit acc s p with
        | none => exact Or.inr (Or.inl rfl)
        | some e => exact Or.inr (Or.inr (by cases ans op fit acc p D <;> (intro h2; cases h2)))
      · exact Or.inl h
end THR
