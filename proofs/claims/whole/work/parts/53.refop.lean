/-! what the reader makes is well made; the reference's steps in the machine's words -/
theorem PZ_ind {c : Int → Int} {n : Int} {P : RT → Prop} (h0 : P (.num 0)) (h1 : P (.num 1)) (hs : ∀ z, sgn z → P (.num z)) (hset : ∀ b e k : Int, 0 < b → b < k → k < n → (e = k ∨ e = -(k + 1)) → P (.mulL b (.num e))) (hadd : ∀ a b, P a → P b → P (.add a b)) (hsub : ∀ a b, P a → P b → P (.sub a b)) (hneg : ∀ a, P a → 0 < tsh a → P (.neg a)) (hplus : ∀ a, P a → 0 < tsh a → P (.mulR a 0)) (hmay : ∀ a, P a → P (.mulR a (-1))) (hgrp : ∀ a k, P a → 1 ≤ k → k ≤ 5 → P (.mulR a k)) : ∀ (f mo : Nat) (t : RT) (p g a g' : Int) (t' : RT), 0 ≤ p → p ≤ n → (3 ≤ mo → p < n ∧ (sgB (hr c n p) = true ∨ hr c n p = 46 ∨ hr c n p = 40 ∨ hr c n p = 91)) → 0 ≤ g → g ≤ 5 → (mo = 1 ∨ mo = 2 → P t) → PZ c n f mo t p g = .inr (a, g', t') → P t' := by
  intro f
  induction f with
  | zero => intro mo t p g a g' t' _ _ _ _ _ _ h; cases h
  | succ f ih =>
    intro mo t p g a g' t' q1 q2 q3 q4 q5 hP h
    unfold PZ at h
    rcases mo with _ | _ | _ | _ | mo
    · simp only at h
      have i1 := PZ_rg (c := c) (n := n) f 2 (.num 0) p g q1 q2 (by omega) q4 q5
      cases hr1 : PZ c n f 2 (.num 0) p g with
      | inl e => rw [hr1] at h; cases h
      | inr q =>
        obtain ⟨b, g1, t1⟩ := q
        rw [hr1] at h i1
        obtain ⟨j1, j2, j3, j4, j5, _⟩ := i1
        have k1 := ih 2 (.num 0) p g b g1 t1 q1 q2 (by omega) q4 q5 (fun _ => h0) hr1
        exact ih 1 t1 b g1 a g' t' (by omega) j2 (by omega) (by omega) j4 (fun _ => k1) h
    · simp only at h
      split at h
      · rename_i hc
        have hp := hr_in (c := c) (n := n) (p := p) (by omega)
        have i1 := PZ_rg (c := c) (n := n) f 2 (.num 0) (p + 1) g (by omega) (by omega) (by omega) q4 q5
        cases hr1 : PZ c n f 2 (.num 0) (p + 1) g with
        | inl e => rw [hr1] at h; cases h
        | inr q =>
          obtain ⟨b, g1, t1⟩ := q
          rw [hr1] at h i1
          obtain ⟨j1, j2, j3, j4, j5, _⟩ := i1
          have k1 := ih 2 (.num 0) (p + 1) g b g1 t1 (by omega) (by omega) (by omega) q4 q5 (fun _ => h0) hr1
          exact ih 1 (.sub t t1) b g1 a g' t' (by omega) j2 (by omega) (by omega) j4 (fun _ => hsub _ _ (hP (Or.inl rfl)) k1) h
      · cases h
        exact hP (Or.inl rfl)
    · simp only at h
      split at h
      · rename_i hc
        have hp : p < n := by
          rcases hc with hc | hc
          · exact sgB_in hc
          · exact hr_in (c := c) (n := n) (p := p) (by omega)
        have i1 := PZ_rg (c := c) (n := n) f 3 t p g q1 q2 (fun _ => hp) q4 q5
        cases hr1 : PZ c n f 3 t p g with
        | inl e => rw [hr1] at h; cases h
        | inr q =>
          obtain ⟨b, g1, t1⟩ := q
          rw [hr1] at h i1
          obtain ⟨j1, j2, j3, j4, j5, j6⟩ := i1
          have k1 := ih 3 t p g b g1 t1 q1 q2 (fun _ => ⟨hp, hc⟩) q4 q5 (by omega) hr1
          exact ih 2 (.add t t1) b g1 a g' t' (by omega) j2 (by omega) (by omega) j4 (fun _ => hadd _ _ (hP (Or.inr rfl)) k1) h
      · cases h
        exact hP (Or.inr rfl)
    · simp only at h
      have i1 := PZ_rg (c := c) (n := n) f 4 t p g q1 q2 (fun _ => (q3 (by omega)).1) q4 q5
      cases hr1 : PZ c n f 4 t p g with
      | inl e => rw [hr1] at h; cases h
      | inr q =>
        obtain ⟨b, g1, t1⟩ := q
        rw [hr1] at h i1
        have k1 := ih 4 t p g b g1 t1 q1 q2 (fun _ => q3 (by omega)) q4 q5 (by omega) hr1
        simp only at h
        split at h
        · cases h; exact hmay _ k1
        · split at h
          · cases h; exact k1
          · split at h
            · cases h
            · rename_i hz
              have z0 := tsh_0 t1
              cases h
              split
              · exact hneg _ k1 (by omega)
              · exact hplus _ k1 (by omega)
    · simp only at h
      obtain ⟨hp, hst⟩ := q3 (by omega)
      split at h
      · split at h
        · cases h
        · rename_i hg
          cases hr1 : PZ c n f 0 t (p + 1) (g + 1) with
          | inl e => rw [hr1] at h; cases h
          | inr q =>
            obtain ⟨b, g1, t1⟩ := q
            rw [hr1] at h
            have k1 := ih 0 t (p + 1) (g + 1) b g1 t1 (by omega) (by omega) (by omega) (by omega) (by omega) (by omega) hr1
            simp only at h
            split at h
            · cases h; exact hgrp _ _ k1 (by omega) (by omega)
            · cases h
      · rename_i hno
        split at h
        · by_cases h94 : hr c n (p + 1) = 94
          · simp only [if_pos h94] at h
            have hsc := scn_rg (c := c) (n := n) 30 (p + 2)
            split at h
            · cases h
            · rename_i hx
              have hx1 := hr_in (c := c) (n := n) (p := scn c n 30 (p + 2)) (by omega)
              cases h
              exact hset _ _ (scn c n 30 (p + 2)) (by omega) (by omega) hx1 (Or.inr rfl)
          · simp only [if_neg h94] at h
            have hsc := scn_rg (c := c) (n := n) 30 (p + 1)
            split at h
            · cases h
            · rename_i hx
              have hx1 := hr_in (c := c) (n := n) (p := scn c n 30 (p + 1)) (by omega)
              cases h
              exact hset _ _ (scn c n 30 (p + 1)) (by omega) (by omega) hx1 (Or.inl rfl)
        · cases h
          split
          · exact h1
          · refine hs _ (sgB_t.mp ?_)
            rcases hst with hh | hh
            · exact hh
            · omega
theorem PS_ind {c : Int → Int} {n g : Int} {t : RT} {P : RT → Prop} (hn : 0 ≤ n) (h0 : P (.num 0)) (h1 : P (.num 1)) (hs : ∀ z, sgn z → P (.num z)) (hset : ∀ b e k : Int, 0 < b → b < k → k < n → (e = k ∨ e = -(k + 1)) → P (.mulL b (.num e))) (hadd : ∀ a b, P a → P b → P (.add a b)) (hsub : ∀ a b, P a → P b → P (.sub a b)) (hneg : ∀ a, P a → 0 < tsh a → P (.neg a)) (hplus : ∀ a, P a → 0 < tsh a → P (.mulR a 0)) (hmay : ∀ a, P a → P (.mulR a (-1))) (hgrp : ∀ a k, P a → 1 ≤ k → k ≤ 5 → P (.mulR a k)) (h : PS c n = .inr (g, t)) : P t := by
  unfold PS at h
  cases hr1 : PZ c n 130 0 (.num 0) 0 0 with
  | inl e => rw [hr1] at h; cases h
  | inr q =>
    obtain ⟨a, g', t'⟩ := q
    rw [hr1] at h
    simp only at h
    split at h
    · cases h
    · cases h
      exact PZ_ind h0 h1 hs hset hadd hsub hneg hplus hmay hgrp 130 0 (.num 0) 0 0 a _ _ (by omega) hn (by omega) (by omega) (by omega) (by omega) hr1
theorem PS_TW {c : Int → Int} {n g : Int} {t : RT} (hn : 0 ≤ n) (h : PS c n = .inr (g, t)) : TW n t := by
  refine PS_ind hn (Or.inl rfl) (Or.inr (Or.inl rfl)) (fun z hz => Or.inr (Or.inr hz)) (fun b e k a1 a2 a3 a4 => ?_) (fun a b ha hb => ⟨ha, hb⟩) (fun a b ha hb => ⟨ha, hb⟩) (fun a ha hz => ⟨ha, hz⟩) (fun a ha hz => ⟨ha, by omega, by omega, fun _ => hz⟩) (fun a ha => ⟨ha, by omega, by omega, fun q => absurd q (by omega)⟩) (fun a k ha k1 k2 => ⟨ha, by omega, k2, fun q => by omega⟩) h
  have e1 : tn (.num e) = e := rfl
  unfold TW
  rw [e1]
  rcases a4 with rfl | rfl <;> exact ⟨by omega, by omega, by omega, by omega⟩
def opR (A : Nat → Int → Int) (N s : Int) : Int × Int × Int := if N ≤ s then (4, 0, 0) else if A 12 s = 10 then (1, A 13 s, A 14 s) else if A 12 s = 11 then (2, A 13 s, 0) else if A 12 s = 12 then (3, A 13 s, 0) else if A 12 s = 13 then (4, 0, 0) else (0, 0, 0)
def fitR (A : Nat → Int → Int) (L s p : Int) : Bool := if p < L then tkB (A 6) (A 12 s) (A 13 s) (A 14 s) (A 0 (126 + p)) else false
def lfT (c tx : Int → Int) (L : Int) (t : RT) (p : Int) : Bool := if p < L then (match t with
  | .num z => if z = 1 then true else if tx p = z then true else false
  | .mulL b e => inS c (tx p) b (tn e)
  | _ => false) else false
theorem lfT_L {c tx : Int → Int} {L p : Int} {t : RT} (h : lfT c tx L t p = true) : p < L := by
  unfold lfT at h
  by_cases hp : p < L
  · exact hp
  · rw [if_neg hp] at h; cases h
theorem opR_10 {A : Nat → Int → Int} {N s : Int} (hN : s < N) (h : A 12 s = 10) : opR A N s = (1, A 13 s, A 14 s) := by
  unfold opR
  rw [if_neg (by omega), if_pos h]
theorem opR_11 {A : Nat → Int → Int} {N s : Int} (hN : s < N) (h : A 12 s = 11) : opR A N s = (2, A 13 s, 0) := by
  unfold opR
  rw [if_neg (by omega), if_neg (by omega), if_pos h]
theorem opR_12 {A : Nat → Int → Int} {N s : Int} (hN : s < N) (h : A 12 s = 12) : opR A N s = (3, A 13 s, 0) := by
  unfold opR
  rw [if_neg (by omega), if_neg (by omega), if_neg (by omega), if_pos h]
theorem opR_13 {A : Nat → Int → Int} {N s : Int} (h : A 12 s = 13) : opR A N s = (4, 0, 0) := by
  unfold opR
  by_cases hN : N ≤ s
  · rw [if_pos hN]
  rw [if_neg hN, if_neg (by omega), if_neg (by omega), if_neg (by omega), if_pos h]
theorem opR_0 {A : Nat → Int → Int} {N s : Int} (hN : s < N) (h : A 12 s < 10) : opR A N s = (0, 0, 0) := by
  unfold opR
  rw [if_neg (by omega), if_neg (by omega), if_neg (by omega), if_neg (by omega), if_neg (by omega)]
theorem fit_num {A : Nat → Int → Int} {L s z : Int} (h0 : z ≠ 0) (h : if z = 1 then A 12 s = 2 else A 12 s = 1 ∧ A 13 s = z) (p : Int) : fitR A L s p = lfT (A 6) (fun k => A 0 (126 + k)) L (.num z) p := by
  unfold fitR lfT tkB
  by_cases hp : p < L
  · rw [if_pos hp, if_pos hp]
    simp only
    by_cases h1 : z = 1
    · rw [if_pos h1] at h ⊢
      rw [if_pos h]
    · rw [if_neg h1] at h ⊢
      rw [if_neg (by omega), if_pos h.1, h.2]
  · rw [if_neg hp, if_neg hp]
theorem LC_LR {A : Nat → Int → Int} {N L n : Int} : ∀ (t : RT) (b : Int), TW n t → LC A t b → b + tsz t ≤ N → LR (opR A N) (fitR A L) (lfT (A 6) (fun k => A 0 (126 + k)) L) t b := by
  intro t
  induction t with
  | num z =>
    intro b hW hl hb
    by_cases h0 : z = 0
    · exact Or.inl h0
    refine Or.inr ?_
    have e : tsz (.num z) = 1 := if_neg h0
    have hl' : if z = 1 then A 12 b = 2 else A 12 b = 1 ∧ A 13 b = z := by
      unfold LC at hl
      rw [if_neg h0] at hl
      exact hl
    refine ⟨?_, fit_num h0 hl'⟩
    rw [opR_0 (by omega)]
    by_cases h1 : z = 1
    · rw [if_pos h1] at hl'; omega
    · rw [if_neg h1] at hl'; omega
  | var v => intro b hW hl hb; trivial
  | add x y ihx ihy =>
    intro b hW hl hb
    have e : tsz (.add x y) = tsz x + tsz y := rfl
    have s1 := tsz_0 x
    have s2 := tsz_0 y
    exact ⟨ihx _ hW.1 hl.1 (by omega), ihy _ hW.2 hl.2 (by omega)⟩
  | sub x y ihx ihy =>
    intro b hW hl hb
    have e : tsz (.sub x y) = tsz x + tsz y + 2 := rfl
    have s1 := tsz_0 x
    have s2 := tsz_0 y
    unfold LC at hl
    obtain ⟨l1, l2, l3, l4, l5, l6, l7⟩ := hl
    refine ⟨by rw [opR_10 (by omega) l1, l2, l3], ihx _ hW.1 l4 (by omega), by rw [opR_11 (by omega) l5], by rw [opR_11 (by omega) l5]; exact l6, ihy _ hW.2 l7 (by omega)⟩
  | neg x ihx =>
    intro b hW hl hb
    have e : tsz (.neg x) = tsz x + 2 := rfl
    have s1 := tsz_0 x
    unfold LC at hl
    obtain ⟨l1, l2, l3, l4, l5, l6⟩ := hl
    refine ⟨by rw [opR_10 (by omega) l1, l2, l3], ihx _ hW.1 l4 (by omega), by rw [opR_11 (by omega) l5], by rw [opR_11 (by omega) l5]; exact l6⟩
  | mulL x y _ =>
    intro b hW hl hb
    have e : ∀ q r, tsz (.mulL q r) = 1 := fun _ _ => rfl
    rw [e] at hb
    unfold LC at hl
    obtain ⟨l1, l2, l3⟩ := hl
    refine ⟨by rw [opR_0 (by omega) (by omega)], fun p => ?_⟩
    unfold fitR lfT tkB
    by_cases hp : p < L
    · rw [if_pos hp, if_pos hp, if_neg (by omega), if_neg (by omega), if_pos l1, l2, l3]
    · rw [if_neg hp, if_neg hp]
  | mulR x k ihx =>
    intro b hW hl hb
    have s1 := tsz_0 x
    unfold LC at hl
    unfold LR
    by_cases hk0 : k = 0
    · have e : tsz (.mulR x k) = tsz x + 1 := if_pos (Or.inl hk0)
      rw [if_pos hk0] at hl ⊢
      obtain ⟨l1, l2, l3, l4⟩ := hl
      exact ⟨ihx _ hW.1 l1 (by omega), by rw [opR_10 (by omega) l2, l3, l4]⟩
    rw [if_neg hk0] at hl ⊢
    by_cases hk1 : k = -1
    · have e : tsz (.mulR x k) = tsz x + 1 := if_pos (Or.inr hk1)
      rw [if_pos hk1] at hl ⊢
      obtain ⟨l1, l2, l3, l4⟩ := hl
      exact ⟨by rw [opR_10 (by omega) l1, l2, l3], ihx _ hW.1 l4 (by omega)⟩
    · have e : tsz (.mulR x k) = tsz x + 2 := if_neg (by omega)
      rw [if_neg hk1] at hl ⊢
      obtain ⟨l1, l2, l3, l4, l5⟩ := hl
      exact ⟨by rw [opR_12 (by omega) l1], by rw [opR_12 (by omega) l1]; exact l2, ihx _ hW.1 l3 (by omega), by rw [opR_12 (by omega) l4], by rw [opR_12 (by omega) l4]; exact l5⟩
/-- what lies at each step -/
def StL (A : Nat → Int → Int) (n s : Int) : Prop := 1 ≤ A 12 s ∧ A 12 s ≤ 12 ∧ (A 12 s = 1 → 0 ≤ A 13 s ∧ A 13 s ≤ 65535) ∧ (A 12 s = 3 → 0 ≤ A 13 s ∧ A 13 s ≤ n ∧ -n - 1 ≤ A 14 s ∧ A 14 s ≤ n) ∧ (A 12 s = 1 ∨ A 12 s = 2 ∨ A 12 s = 3 ∨ 10 ≤ A 12 s)
theorem StL_hi {A : Nat → Int → Int} {n s : Int} (h : 10 ≤ A 12 s ∧ A 12 s ≤ 12) : StL A n s := ⟨by omega, h.2, fun q => by omega, fun q => by omega, by omega⟩
theorem LC_st {A : Nat → Int → Int} {n : Int} : ∀ (t : RT) (b : Int), TW n t → LC A t b → ∀ s, b ≤ s → s < b + tsz t → StL A n s := by
  intro t
  induction t with
  | num z =>
    intro b hW hl s h1 h2
    by_cases h0 : z = 0
    · have e : tsz (.num z) = 0 := if_pos h0
      omega
    have e : tsz (.num z) = 1 := if_neg h0
    rw [show s = b by omega]
    unfold LC at hl
    rw [if_neg h0] at hl
    by_cases h1 : z = 1
    · rw [if_pos h1] at hl
      exact ⟨by omega, by omega, fun q => by omega, fun q => by omega, by omega⟩
    · rw [if_neg h1] at hl
      have : sgn z := by rcases hW with q | q | q; exact absurd q h0; exact absurd q h1; exact q
      unfold sgn at this
      exact ⟨by omega, by omega, fun q => by omega, fun q => by omega, by omega⟩
  | var v => intro b hW hl s h1 h2; have e : tsz (.var v) = 0 := rfl; omega
  | add x y ihx ihy =>
    intro b hW hl s h1 h2
    have e : tsz (.add x y) = tsz x + tsz y := rfl
    by_cases hs : s < b + tsz x
    · exact ihx _ hW.1 hl.1 s h1 hs
    · exact ihy _ hW.2 hl.2 s (by omega) (by omega)
  | sub x y ihx ihy =>
    intro b hW hl s h1 h2
    have e : tsz (.sub x y) = tsz x + tsz y + 2 := rfl
    unfold LC at hl
    obtain ⟨l1, l2, l3, l4, l5, l6, l7⟩ := hl
    by_cases hs : s = b
    · rw [hs]; exact StL_hi (by omega)
    by_cases hs2 : s < b + 1 + tsz x
    · exact ihx _ hW.1 l4 s (by omega) hs2
    by_cases hs3 : s = b + 1 + tsz x
    · rw [hs3]; exact StL_hi (by omega)
    · exact ihy _ hW.2 l7 s (by omega) (by omega)
  | neg x ihx =>
    intro b hW hl s h1 h2
    have e : tsz (.neg x) = tsz x + 2 := rfl
    unfold LC at hl
    obtain ⟨l1, l2, l3, l4, l5, l6⟩ := hl
    by_cases hs : s = b
    · rw [hs]; exact StL_hi (by omega)
    by_cases hs2 : s < b + 1 + tsz x
    · exact ihx _ hW.1 l4 s (by omega) hs2
    · rw [show s = b + 1 + tsz x by omega]; exact StL_hi (by omega)
  | mulL x y _ =>
    intro b hW hl s h1 h2
    have e : ∀ q r, tsz (.mulL q r) = 1 := fun _ _ => rfl
    rw [e] at h2
    unfold LC at hl
    obtain ⟨l1, l2, l3⟩ := hl
    obtain ⟨w1, w2, w3, w4⟩ := hW
    rw [show s = b by omega]
    exact ⟨by omega, by omega, fun q => by omega, fun q => by omega, by omega⟩
  | mulR x k ihx =>
    intro b hW hl s h1 h2
    unfold LC at hl
    by_cases hk0 : k = 0
    · have e : tsz (.mulR x k) = tsz x + 1 := if_pos (Or.inl hk0)
      rw [if_pos hk0] at hl
      obtain ⟨l1, l2, l3, l4⟩ := hl
      by_cases hs : s < b + tsz x
      · exact ihx _ hW.1 l1 s h1 hs
      · rw [show s = b + tsz x by omega]; exact StL_hi (by omega)
    rw [if_neg hk0] at hl
    by_cases hk1 : k = -1
    · have e : tsz (.mulR x k) = tsz x + 1 := if_pos (Or.inr hk1)
      rw [if_pos hk1] at hl
      obtain ⟨l1, l2, l3, l4⟩ := hl
      by_cases hs : s = b
      · rw [hs]; exact StL_hi (by omega)
      · exact ihx _ hW.1 l4 s (by omega) (by omega)
    · have e : tsz (.mulR x k) = tsz x + 2 := if_neg (by omega)
      rw [if_neg hk1] at hl
      obtain ⟨l1, l2, l3, l4, l5⟩ := hl
      by_cases hs : s = b
      · rw [hs]; exact StL_hi (by omega)
      by_cases hs2 : s < b + 1 + tsz x
      · exact ihx _ hW.1 l3 s (by omega) hs2
      · rw [show s = b + 1 + tsz x by omega]; exact StL_hi (by omega)
