/-! the class's backtracker: its loop finds what the machine finds -/
theorem uN_id {s : Nat → Int} {k : Nat} : uN s k (s k) = s := by
  funext j
  unfold uN
  split
  · rename_i h; rw [h]
  · rfl
def enc (v : Int × Int) : Int := if 0 ≤ v.1 then v.1 * 64 + v.2 else 4096 + (1 - v.1) * 64 + (v.2 + 1)
def SBe (A : Int → Int) : List (Int × Int) → Prop
  | [] => True
  | v :: k => A (k.length : Int) = enc v ∧ SBe A k
theorem SBe_fr {A A' : Int → Int} : ∀ {k : List (Int × Int)}, (∀ i : Int, i < k.length → A' i = A i) → SBe A k → SBe A' k := by
  intro k
  induction k with
  | nil => intro _ _; trivial
  | cons v k ih =>
    intro h hs
    have hl : ((v :: k).length : Int) = (k.length : Int) + 1 := by rw [List.length_cons]; rfl
    exact ⟨(h (k.length : Int) (by omega)).trans hs.1, ih (fun i hi => h i (by omega)) hs.2⟩
theorem SBe_push {A : Int → Int} {k : List (Int × Int)} {v : Int × Int} {z : Int} (h : SBe A k) (hz : z = enc v) : SBe (up A (k.length : Int) z) (v :: k) := ⟨by rw [up_s, hz], SBe_fr (fun i hi => up_n (by omega)) h⟩
def CK (start : Int) (N : Nat) (C : CS) (T : DT) : Prop := C.1 49 = (T.1.length : Int) ∧ SBe (C.2.1 49) T.1 ∧ C.1 51 = 12 ∧ C.2.1 51 0 = start ∧ (∀ j, 0 ≤ j → j ≤ 9 → C.2.1 51 (j + 2) = T.2.1 j) ∧ (∀ s p, 0 ≤ s → s < (N : Int) → 0 ≤ p → p ≤ 40 → tb (C.2.2.2.1 p) s = decide ((s, p) ∈ T.2.2))
/-- what backtracking leaves alone -/
def BF (C C' : CS) : Prop := (∀ k, k ≠ 49 → k ≠ 51 → C'.1 k = C.1 k) ∧ (∀ k, k ≠ 49 → k ≠ 51 → C'.2.1 k = C.2.1 k) ∧ C'.2.2.1 = C.2.2.1 ∧ C'.2.2.2.2 = C.2.2.2.2
theorem BF.refl (C : CS) : BF C C := ⟨fun _ _ _ => rfl, fun _ _ _ => rfl, rfl, rfl⟩
theorem BF.trans {A B C : CS} (h : BF A B) (h' : BF B C) : BF A C := ⟨fun k a b => (h'.1 k a b).trans (h.1 k a b), fun k a b => (h'.2.1 k a b).trans (h.2.1 k a b), h'.2.2.1.trans h.2.2.1, h'.2.2.2.trans h.2.2.2⟩
/-- what holds while a pattern is matched -/
def CX2 (M0 : JM) (x p : Nat) (C0 : CS) (n : Int) (c : Int → Int) (N : Nat) (k f s : Int → Int) (L : Int) : Prop := (∃ g lo hi, PAO M0 p n c N k f s g lo hi) ∧ x + 70 ≤ p ∧ C0.1 7 = L ∧ (0 ≤ L ∧ L ≤ 40) ∧ (∀ j, 0 ≤ j → j < L → 0 ≤ C0.2.1 7 j ∧ C0.2.1 7 j ≤ 65535) ∧ (0 ≤ n ∧ n ≤ 30) ∧ (∀ j, 0 ≤ j → j < n → 0 ≤ c j ∧ c j ≤ 65535) ∧ (1 ≤ N ∧ N ≤ 61) ∧ (∀ i, 0 ≤ i → i < (N : Int) - 1 → StC k f s n ((N : Int) - 1) i) ∧ k ((N : Int) - 1) = 8 ∧ sF (fwC k) 0 ((N : Int) - 1) ≤ 30
/-- the potential falls at each turn -/
def psi (N : Nat) (T : DT) : Int := (T.1.length : Int) + 3 * ph (fun _ => 1) N T.2.2
section PSI
variable {op : Int → Int × Int × Int} {fit : Int → Int → Bool} {acc : Int → Bool} {wt : Int → Int} {N : Nat} {L B : Int}
theorem psi_step (hL : L ≤ 40) {T T' : DT} (hT : TI wt N L B T) (h : dstep op fit acc T = .inl T') : psi N T' + 1 ≤ psi N T := by
  obtain ⟨k, w, vis⟩ := T
  obtain ⟨h1, h2, h3, h4⟩ := hT
  cases k with
  | nil => cases h
  | cons v k =>
  obtain ⟨a, b⟩ := v
  have hv := h1 (a, b) (List.mem_cons_self ..)
  simp only at hv
  have hlen : (((a, b) :: k).length : Int) = (k.length : Int) + 1 := by rw [List.length_cons]; rfl
  unfold psi
  by_cases ha : a < 0
  · have e : dstep op fit acc ((a, b) :: k, w, vis) = .inl (k, up w (-1 - a) b, vis) := if_pos ha
    rw [e] at h
    cases h
    simp only [hlen]
    omega
  have hva := hv.1 (by omega)
  by_cases hin : (a, b) ∈ vis
  · rw [ds_vis (by omega) hin] at h
    cases h
    simp only [hlen]
    omega
  have hph := ph_cons (wt := fun _ => 1) (N := N) (s := a) (p := b) ⟨by omega, hva.1⟩ ⟨hva.2.1, by omega⟩ hin
  rw [ds_neg (by omega) hin] at h
  split at h
  · split at h
    · cases h; simp only [List.length_cons] at *; omega
    · cases h; simp only [List.length_cons] at *; omega
  · split at h
    · cases h; simp only [List.length_cons] at *; omega
    · split at h
      · cases h; simp only [List.length_cons] at *; omega
      · split at h
        · cases h; simp only [List.length_cons] at *; omega
        · split at h
          · cases h
          · cases h; simp only [List.length_cons] at *; omega
theorem psi_0 {T : DT} : 0 ≤ psi N T := by
  have := ph_0 (wt := fun _ => 1) (N := N) (vis := T.2.2) (fun _ _ _ => by omega)
  unfold psi
  omega
theorem psi_dgo (hL : L ≤ 40) (hL0 : 0 ≤ L) (hop : OpR op N) (hwt : WtOk op N wt) (hfit : ∀ s p, fit s p = true → p < L) : ∀ (n : Nat) (T T' : DT), TI wt N L B T → dgo op fit acc n T = some T' → psi N T' + n ≤ psi N T := by
  intro n
  induction n with
  | zero => intro T T' hT h; cases h; omega
  | succ n ih =>
    intro T T' hT h
    rw [dgo_s] at h
    cases hs : dstep op fit acc T with
    | inr q => rw [hs] at h; cases h
    | inl T1 =>
      rw [hs] at h
      have h1 := psi_step hL hT hs
      have h2 := ih T1 T' (TI_step hL hL0 hop hwt hfit hT hs) h
      omega
end PSI
theorem CX2_op {M0 : JM} {x p : Nat} {C0 : CS} {n : Int} {c : Int → Int} {N : Nat} {k f s : Int → Int} {L : Int} (h : CX2 M0 x p C0 n c N k f s L) : OpR (opC k f s N) N := by
  obtain ⟨h1, h2, h3, h4, h5, h6, h7, h8, h9, h10, h11⟩ := h
  intro i i0 i1
  by_cases hi : i < (N : Int) - 1
  · have hs := h9 i i0 hi
    unfold StC at hs
    rcases hs with hs | hs | hs | hs | hs | hs
    · rw [opC_0 (by omega) (by omega)]; exact ⟨by omega, by omega, fun _ => by omega, fun q => by omega, fun q => by omega, fun q => by omega⟩
    · rw [opC_0 (by omega) (by omega)]; exact ⟨by omega, by omega, fun _ => by omega, fun q => by omega, fun q => by omega, fun q => by omega⟩
    · rw [opC_0 (by omega) (by omega)]; exact ⟨by omega, by omega, fun _ => by omega, fun q => by omega, fun q => by omega, fun q => by omega⟩
    · rw [opC_5 (by omega) (by omega)]; exact ⟨by omega, by omega, fun q => by omega, fun _ => ⟨by show 0 ≤ i + f i; omega, by show i + f i < N; omega, by show 0 ≤ i + s i; omega, by show i + s i < N; omega⟩, fun q => by omega, fun q => by omega⟩
    · rw [opC_6 (by omega) (by omega)]; exact ⟨by omega, by omega, fun q => by omega, fun q => by omega, fun _ => ⟨by show 0 ≤ i + f i; omega, by show i + f i < N; omega⟩, fun q => by omega⟩
    · rw [opC_7 (by omega) (by omega)]; exact ⟨by omega, by omega, fun q => by omega, fun q => by omega, fun q => by omega, fun _ => ⟨by omega, by show 0 ≤ f i - 2; omega, by show f i - 2 ≤ 9; omega⟩⟩
  · rw [show i = (N : Int) - 1 by omega, opC_8 h10]
    exact ⟨by omega, by omega, fun q => by omega, fun q => by omega, fun q => by omega, fun q => by omega⟩
theorem CX2_fw {M0 : JM} {x p : Nat} {C0 : CS} {n : Int} {c : Int → Int} {N : Nat} {k f s : Int → Int} {L : Int} (h : CX2 M0 x p C0 n c N k f s L) : sm N (fw (opC k f s N)) ≤ 30 := by
  obtain ⟨h1, h2, h3, h4, h5, h6, h7, h8, h9, h10, h11⟩ := h
  rw [← sF_n, sF_add (a := 0) (b := (N : Int) - 1) (by omega) (by omega), sF_1 (a := (N : Int) - 1) (b := N) (by omega)]
  have e1 : fw (opC k f s N) ((N : Int) - 1) = 0 := by
    unfold fw
    rw [opC_8 h10, if_neg (by omega)]
  have e2 : sF (fw (opC k f s N)) 0 ((N : Int) - 1) = sF (fwC k) 0 ((N : Int) - 1) := by
    unfold sF
    refine sm_ext (fun i i0 i1 => ?_)
    have hs := h9 (0 + i) (by omega) (by omega)
    unfold fw fwC
    unfold StC at hs
    rcases hs with hs | hs | hs | hs | hs | hs
    · rw [opC_0 (by omega) (by omega), if_neg (by omega), if_neg (by omega)]
    · rw [opC_0 (by omega) (by omega), if_neg (by omega), if_neg (by omega)]
    · rw [opC_0 (by omega) (by omega), if_neg (by omega), if_neg (by omega)]
    · rw [opC_5 (by omega) (by omega), if_pos (Or.inl rfl), if_pos (by omega)]
    · rw [opC_6 (by omega) (by omega), if_neg (by omega), if_neg (by omega)]
    · rw [opC_7 (by omega) (by omega), if_pos (Or.inr rfl), if_pos (by omega)]
  rw [e1, e2]
  omega
