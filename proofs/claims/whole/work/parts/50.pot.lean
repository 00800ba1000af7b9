/-! sums; the potential of a machine with memory; what stays true of its states -/
def sm : Nat → (Int → Int) → Int
  | 0, _ => 0
  | n + 1, f => sm n f + f n
theorem sm_s (n : Nat) (f : Int → Int) : sm (n + 1) f = sm n f + f n := rfl
theorem sm_ext {f g : Int → Int} : ∀ {n : Nat}, (∀ k : Int, 0 ≤ k → k < n → f k = g k) → sm n f = sm n g := by
  intro n
  induction n with
  | zero => intro _; rfl
  | succ n ih =>
    intro h
    rw [sm_s, sm_s, ih (fun k a b => h k a (by omega)), h n (by omega) (by omega)]
theorem sm_upd {f g : Int → Int} {k : Int} : ∀ {n : Nat}, 0 ≤ k → k < n → (∀ j : Int, 0 ≤ j → j < n → j ≠ k → g j = f j) → sm n g = sm n f - f k + g k := by
  intro n
  induction n with
  | zero => intro h0 h1 _; omega
  | succ n ih =>
    intro h0 h1 h
    rw [sm_s, sm_s]
    by_cases hk : k = n
    · subst hk
      rw [sm_ext (f := g) (g := f) (fun j a b => h j a (by omega) (by omega))]; omega
    · rw [ih h0 (by omega) (fun j a b c => h j a (by omega) c), h n (by omega) (by omega) (by omega)]; omega
theorem sm_0 {f : Int → Int} : ∀ {n : Nat}, (∀ k : Int, 0 ≤ k → k < n → 0 ≤ f k) → 0 ≤ sm n f := by
  intro n
  induction n with
  | zero => intro _; exact Int.le_refl _
  | succ n ih =>
    intro h
    rw [sm_s]
    have := ih (fun k a b => h k a (by omega))
    have := h n (by omega) (by omega)
    omega
theorem sm_c (c : Int) : ∀ n : Nat, sm n (fun _ => c) = n * c := by
  intro n
  induction n with
  | zero => show (0 : Int) = ((0 : Nat) : Int) * c; rw [Int.natCast_zero, Int.zero_mul]
  | succ n ih => rw [sm_s, ih, show ((n + 1 : Nat) : Int) = (n : Int) + 1 from rfl, Int.add_mul, Int.one_mul]
theorem sm_m (c : Int) (f : Int → Int) : ∀ n : Nat, sm n (fun k => c * f k) = c * sm n f := by
  intro n
  induction n with
  | zero => show (0 : Int) = c * 0; rw [Int.mul_zero]
  | succ n ih => rw [sm_s, sm_s, ih, Int.mul_add]
theorem sm_le {f g : Int → Int} : ∀ {n : Nat}, (∀ k : Int, 0 ≤ k → k < n → f k ≤ g k) → sm n f ≤ sm n g := by
  intro n
  induction n with
  | zero => intro _; exact Int.le_refl _
  | succ n ih =>
    intro h
    rw [sm_s, sm_s]
    have := ih (fun k a b => h k a (by omega))
    have := h n (by omega) (by omega)
    omega
/-- what is not visited yet, weighed -/
def ph (wt : Int → Int) (N : Nat) (vis : List (Int × Int)) : Int := sm N (fun s => sm 41 (fun p => if (s, p) ∈ vis then 0 else wt s))
theorem ph_nil {wt : Int → Int} {N : Nat} : ph wt N [] = 41 * sm N wt := by
  unfold ph
  rw [← sm_m]
  refine sm_ext (fun s _ _ => ?_)
  rw [sm_ext (g := fun _ => wt s) (fun p _ _ => if_neg (by simp)), sm_c]; rfl
theorem ph_0 {wt : Int → Int} {N : Nat} {vis : List (Int × Int)} (h : ∀ s : Int, 0 ≤ s → s < N → 0 ≤ wt s) : 0 ≤ ph wt N vis := by
  refine sm_0 (fun s a b => sm_0 (fun p _ _ => ?_))
  split
  · omega
  · exact h s a b
theorem ph_cons {wt : Int → Int} {N : Nat} {vis : List (Int × Int)} {s p : Int} (hs : 0 ≤ s ∧ s < N) (hp : 0 ≤ p ∧ p ≤ 40) (hn : (s, p) ∉ vis) : ph wt N ((s, p) :: vis) = ph wt N vis - wt s := by
  unfold ph
  have hin : sm 41 (fun p' => if (s, p') ∈ (s, p) :: vis then 0 else wt s) = sm 41 (fun p' => if (s, p') ∈ vis then 0 else wt s) - wt s := by
    rw [sm_upd (f := fun p' => if (s, p') ∈ vis then 0 else wt s) (k := p) (by omega) (by omega) (fun j a b c => ?_)]
    · rw [if_neg hn, if_pos (List.mem_cons_self ..)]; omega
    · by_cases hj : (s, j) ∈ vis
      · rw [if_pos hj, if_pos (List.mem_cons_of_mem _ hj)]
      · rw [if_neg hj, if_neg (fun q => by rcases List.mem_cons.mp q with q | q; exact c (Prod.mk.inj q).2; exact hj q)]
  rw [sm_upd (f := fun s => sm 41 (fun p => if (s, p) ∈ vis then 0 else wt s)) (k := s) (by omega) (by omega) (fun j a b c => ?_)]
  · rw [hin]; omega
  · refine sm_ext (fun q a b => ?_)
    by_cases hj : (j, q) ∈ vis
    · rw [if_pos hj, if_pos (List.mem_cons_of_mem _ hj)]
    · rw [if_neg hj, if_neg (fun r => by rcases List.mem_cons.mp r with r | r; exact c (Prod.mk.inj r).1; exact hj r)]
/-- where the steps lead, within N steps; marks 0 to 9 -/
def OpR (op : Int → Int × Int × Int) (N : Int) : Prop := ∀ s, 0 ≤ s → s < N → 0 ≤ (op s).1 ∧ (op s).1 ≤ 4 ∧ ((op s).1 = 0 → s + 1 < N) ∧ ((op s).1 = 1 → 0 ≤ (op s).2.1 ∧ (op s).2.1 < N ∧ 0 ≤ (op s).2.2 ∧ (op s).2.2 < N) ∧ ((op s).1 = 2 → 0 ≤ (op s).2.1 ∧ (op s).2.1 < N) ∧ ((op s).1 = 3 → s + 1 < N ∧ 0 ≤ (op s).2.1 ∧ (op s).2.1 ≤ 9)
def WtOk (op : Int → Int × Int × Int) (N : Int) (wt : Int → Int) : Prop := ∀ s, 0 ≤ s → s < N → 0 ≤ wt s ∧ ((op s).1 = 1 ∨ (op s).1 = 3 → 1 ≤ wt s)
def TI (wt : Int → Int) (N : Nat) (L B : Int) (T : DT) : Prop := (∀ v, v ∈ T.1 → (0 ≤ v.1 → v.1 < N ∧ 0 ≤ v.2 ∧ v.2 ≤ L) ∧ (v.1 < 0 → -10 ≤ v.1 ∧ -1 ≤ v.2 ∧ v.2 ≤ L)) ∧ (∀ j, -1 ≤ T.2.1 j ∧ T.2.1 j ≤ L) ∧ (∀ v, v ∈ T.2.2 → 0 ≤ v.1 ∧ v.1 < N ∧ 0 ≤ v.2 ∧ v.2 ≤ L) ∧ (T.1.length : Int) + ph wt N T.2.2 ≤ B
section TIS
variable {op : Int → Int × Int × Int} {fit : Int → Int → Bool} {acc : Int → Bool} {wt : Int → Int} {N : Nat} {L B : Int}
theorem TI_step (hL : L ≤ 40) (hL0 : 0 ≤ L) (hop : OpR op N) (hwt : WtOk op N wt) (hfit : ∀ s p, fit s p = true → p < L) {T T' : DT} (hT : TI wt N L B T) (h : dstep op fit acc T = .inl T') : TI wt N L B T' := by
  obtain ⟨k, w, vis⟩ := T
  obtain ⟨h1, h2, h3, h4⟩ := hT
  simp only at h1 h2 h3 h4
  cases k with
  | nil => cases h
  | cons v k =>
  obtain ⟨a, b⟩ := v
  have hv := h1 (a, b) (List.mem_cons_self ..)
  have hk : ∀ v, v ∈ k → (0 ≤ v.1 → v.1 < N ∧ 0 ≤ v.2 ∧ v.2 ≤ L) ∧ (v.1 < 0 → -10 ≤ v.1 ∧ -1 ≤ v.2 ∧ v.2 ≤ L) := fun v hm => h1 v (List.mem_cons_of_mem _ hm)
  have hlen : (((a, b) :: k).length : Int) = (k.length : Int) + 1 := by rw [List.length_cons]; rfl
  rw [hlen] at h4
  unfold dstep at h
  simp only at h hv
  by_cases ha : a < 0
  · rw [if_pos ha] at h
    cases h
    refine ⟨hk, fun j => ?_, h3, by show (k.length : Int) + ph wt N vis ≤ B; omega⟩
    show -1 ≤ up w (-1 - a) b j ∧ up w (-1 - a) b j ≤ L
    have := hv.2 ha
    have := h2 j
    unfold up
    split <;> omega
  rw [if_neg ha] at h
  have hva := hv.1 (by omega)
  by_cases hin : (a, b) ∈ vis
  · rw [if_pos hin] at h
    cases h
    exact ⟨hk, h2, h3, by show (k.length : Int) + ph wt N vis ≤ B; omega⟩
  rw [if_neg hin] at h
  have ho := hop a (by omega) hva.1
  have hw := hwt a (by omega) hva.1
  have hph := ph_cons (wt := wt) (N := N) (s := a) (p := b) ⟨by omega, hva.1⟩ ⟨hva.2.1, by omega⟩ hin
  have h3' : ∀ v, v ∈ (a, b) :: vis → 0 ≤ v.1 ∧ v.1 < N ∧ 0 ≤ v.2 ∧ v.2 ≤ L := fun v hm => by
    rcases List.mem_cons.mp hm with rfl | hm
    · exact ⟨by omega, hva.1, hva.2.1, hva.2.2⟩
    · exact h3 v hm
  by_cases h0 : (op a).1 = 0
  · rw [if_pos h0] at h
    by_cases hf : fit a b = true
    · rw [if_pos hf] at h
      cases h
      have := hfit a b hf
      refine ⟨fun v hm => ?_, h2, h3', by show ((k.length + 1 : Nat) : Int) + ph wt N ((a, b) :: vis) ≤ B; omega⟩
      rcases List.mem_cons.mp hm with rfl | hm
      · exact ⟨fun _ => ⟨ho.2.2.1 h0, by show 0 ≤ b + 1; omega, by show b + 1 ≤ L; omega⟩, fun q => by have q' : a + 1 < 0 := q; omega⟩
      · exact hk v hm
    · rw [if_neg hf] at h
      cases h
      exact ⟨hk, h2, h3', by show (k.length : Int) + ph wt N ((a, b) :: vis) ≤ B; omega⟩
  rw [if_neg h0] at h
  by_cases h1' : (op a).1 = 1
  · rw [if_pos h1'] at h
    cases h
    have ht := ho.2.2.2.1 h1'
    have hw1 := hw.2 (Or.inl h1')
    refine ⟨fun v hm => ?_, h2, h3', by show ((k.length + 1 + 1 : Nat) : Int) + ph wt N ((a, b) :: vis) ≤ B; omega⟩
    rcases List.mem_cons.mp hm with rfl | hm
    · exact ⟨fun _ => ⟨ht.2.1, hva.2.1, hva.2.2⟩, fun q => by have q' : (op a).2.1 < 0 := q; omega⟩
    rcases List.mem_cons.mp hm with rfl | hm
    · exact ⟨fun _ => ⟨ht.2.2.2, hva.2.1, hva.2.2⟩, fun q => by have q' : (op a).2.2 < 0 := q; omega⟩
    · exact hk v hm
  rw [if_neg h1'] at h
  by_cases h2' : (op a).1 = 2
  · rw [if_pos h2'] at h
    cases h
    have ht := ho.2.2.2.2.1 h2'
    refine ⟨fun v hm => ?_, h2, h3', by show ((k.length + 1 : Nat) : Int) + ph wt N ((a, b) :: vis) ≤ B; omega⟩
    rcases List.mem_cons.mp hm with rfl | hm
    · exact ⟨fun _ => ⟨ht.2, hva.2.1, hva.2.2⟩, fun q => by have q' : (op a).2.1 < 0 := q; omega⟩
    · exact hk v hm
  rw [if_neg h2'] at h
  by_cases h3'' : (op a).1 = 3
  · rw [if_pos h3''] at h
    cases h
    have ht := ho.2.2.2.2.2 h3''
    have hw1 := hw.2 (Or.inr h3'')
    refine ⟨fun v hm => ?_, fun j => ?_, h3', by show ((k.length + 1 + 1 : Nat) : Int) + ph wt N ((a, b) :: vis) ≤ B; omega⟩
    · rcases List.mem_cons.mp hm with rfl | hm
      · exact ⟨fun _ => ⟨ht.1, hva.2.1, hva.2.2⟩, fun q => by have q' : a + 1 < 0 := q; omega⟩
      rcases List.mem_cons.mp hm with rfl | hm
      · have q2 := h2 (op a).2.1
        exact ⟨fun q => by have q' : 0 ≤ -1 - (op a).2.1 := q; omega, fun _ => ⟨by show -10 ≤ -1 - (op a).2.1; omega, q2⟩⟩
      · exact hk v hm
    · show -1 ≤ up w (op a).2.1 b j ∧ up w (op a).2.1 b j ≤ L
      have := h2 j
      unfold up
      split <;> omega
  rw [if_neg h3''] at h
  by_cases hac : acc b = true
  · rw [if_pos hac] at h; cases h
  · rw [if_neg hac] at h
    cases h
    exact ⟨hk, h2, h3', by show (k.length : Int) + ph wt N ((a, b) :: vis) ≤ B; omega⟩
theorem OpR.ok (h : OpR op N) (h2 : ∀ s, (N : Int) ≤ s → (op s).1 = 4) : OpOk op := by
  intro s hs
  rcases Int.lt_or_le s N with hN | hN
  · obtain ⟨a, b, c, d, e, f⟩ := h s hs hN
    exact ⟨fun q => ⟨(d q).1, (d q).2.2.1⟩, fun q => (e q).1, fun q => (f q).2.1⟩
  · have := h2 s hN
    exact ⟨fun q => by omega, fun q => by omega, fun q => by omega⟩
end TIS
