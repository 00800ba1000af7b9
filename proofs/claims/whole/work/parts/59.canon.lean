/-! what depends on what: the reader on the characters, the match on the characters and the text; what a match is like -/
theorem scn_ge {c : Int → Int} {n : Int} (f : Nat) (k : Int) : k ≤ scn c n f k := (scn_rg f k).1
theorem PZ_ge {c : Int → Int} {n : Int} : ∀ (f mo : Nat) (t : RT) (p g a g' : Int) (t' : RT), PZ c n f mo t p g = .inr (a, g', t') → p ≤ a := by
  intro f
  induction f with
  | zero => intro mo t p g a g' t' h; cases h
  | succ f ih =>
    intro mo t p g a g' t' h
    unfold PZ at h
    rcases mo with _ | _ | _ | _ | mo
    · simp only at h
      cases hr1 : PZ c n f 2 (.num 0) p g with
      | inl e => rw [hr1] at h; cases h
      | inr q =>
        obtain ⟨b, g1, t1⟩ := q
        rw [hr1] at h
        have := ih _ _ _ _ _ _ _ hr1
        have := ih _ _ _ _ _ _ _ h
        omega
    · simp only at h
      split at h
      · cases hr1 : PZ c n f 2 (.num 0) (p + 1) g with
        | inl e => rw [hr1] at h; cases h
        | inr q =>
          obtain ⟨b, g1, t1⟩ := q
          rw [hr1] at h
          have := ih _ _ _ _ _ _ _ hr1
          have := ih _ _ _ _ _ _ _ h
          omega
      · cases h; omega
    · simp only at h
      split at h
      · cases hr1 : PZ c n f 3 t p g with
        | inl e => rw [hr1] at h; cases h
        | inr q =>
          obtain ⟨b, g1, t1⟩ := q
          rw [hr1] at h
          have := ih _ _ _ _ _ _ _ hr1
          have := ih _ _ _ _ _ _ _ h
          omega
      · cases h; omega
    · simp only at h
      cases hr1 : PZ c n f 4 t p g with
      | inl e => rw [hr1] at h; cases h
      | inr q =>
        obtain ⟨b, g1, t1⟩ := q
        rw [hr1] at h
        have := ih _ _ _ _ _ _ _ hr1
        simp only at h
        split at h
        · cases h; omega
        · split at h
          · cases h; omega
          · split at h
            · cases h
            · cases h; omega
    · simp only at h
      split at h
      · split at h
        · cases h
        · cases hr1 : PZ c n f 0 t (p + 1) (g + 1) with
          | inl e => rw [hr1] at h; cases h
          | inr q =>
            obtain ⟨b, g1, t1⟩ := q
            rw [hr1] at h
            have := ih _ _ _ _ _ _ _ hr1
            simp only at h
            split at h
            · cases h; omega
            · cases h
      · split at h
        · have hb2 : p + 1 ≤ (if hr c n (p + 1) = 94 then p + 2 else p + 1) := by split <;> omega
          have h3 := scn_ge (c := c) (n := n) 30 (if hr c n (p + 1) = 94 then p + 2 else p + 1)
          generalize (if hr c n (p + 1) = 94 then p + 2 else p + 1) = b at hb2 h h3
          split at h
          · cases h
          · cases h; omega
        · cases h; omega
theorem scn_ext {c c' : Int → Int} {n : Int} (hc : ∀ p, 0 ≤ p → hr c' n p = hr c n p) : ∀ (f : Nat) (k : Int), 0 ≤ k → scn c' n f k = scn c n f k := by
  intro f
  induction f with
  | zero => intro k _; rfl
  | succ f ih =>
    intro k hk
    unfold scn
    rw [hc k hk, ih (k + 1) (by omega)]
theorem PZ_ext {c c' : Int → Int} {n : Int} (hc : ∀ p, 0 ≤ p → hr c' n p = hr c n p) : ∀ (f mo : Nat) (t : RT) (p g : Int), 0 ≤ p → PZ c' n f mo t p g = PZ c n f mo t p g := by
  intro f
  induction f with
  | zero => intro mo t p g _; rfl
  | succ f ih =>
    intro mo t p g hp
    unfold PZ
    rcases mo with _ | _ | _ | _ | mo
    · simp only
      rw [ih 2 _ p g hp]
      cases hr1 : PZ c n f 2 (.num 0) p g with
      | inl e => rfl
      | inr q =>
        obtain ⟨b, g1, t1⟩ := q
        have := PZ_ge _ _ _ _ _ _ _ _ hr1
        exact ih _ _ _ _ (by omega)
    · simp only
      rw [hc p hp, ih 2 _ (p + 1) g (by omega)]
      split
      · cases hr1 : PZ c n f 2 (.num 0) (p + 1) g with
        | inl e => rfl
        | inr q =>
          obtain ⟨b, g1, t1⟩ := q
          have := PZ_ge _ _ _ _ _ _ _ _ hr1
          exact ih _ _ _ _ (by omega)
      · rfl
    · simp only
      rw [hc p hp, ih 3 _ p g hp]
      split
      · cases hr1 : PZ c n f 3 t p g with
        | inl e => rfl
        | inr q =>
          obtain ⟨b, g1, t1⟩ := q
          have := PZ_ge _ _ _ _ _ _ _ _ hr1
          exact ih _ _ _ _ (by omega)
      · rfl
    · simp only
      rw [ih 4 _ p g hp]
      cases hr1 : PZ c n f 4 t p g with
      | inl e => rfl
      | inr q =>
        obtain ⟨b, g1, t1⟩ := q
        have := PZ_ge _ _ _ _ _ _ _ _ hr1
        simp only
        rw [hc b (by omega)]
    · simp only
      rw [hc p hp, hc (p + 1) (by omega), ih 0 _ (p + 1) (g + 1) (by omega)]
      have hb2 : p + 1 ≤ (if hr c n (p + 1) = 94 then p + 2 else p + 1) := by split <;> omega
      have h3 := scn_ge (c := c) (n := n) 30 (if hr c n (p + 1) = 94 then p + 2 else p + 1)
      rw [scn_ext hc 30 _ (by omega), hc (scn c n 30 (if hr c n (p + 1) = 94 then p + 2 else p + 1)) (by omega)]
      split
      · split
        · rfl
        · cases hr1 : PZ c n f 0 t (p + 1) (g + 1) with
          | inl e => rfl
          | inr q =>
            obtain ⟨b, g1, t1⟩ := q
            have := PZ_ge _ _ _ _ _ _ _ _ hr1
            simp only
            rw [hc b (by omega)]
      · rfl
theorem PS_ext {c c' : Int → Int} {n : Int} (hc : ∀ p, 0 ≤ p → p < n → c' p = c p) : PS c' n = PS c n := by
  unfold PS
  rw [PZ_ext (c := c) (c' := c') (fun p hp => ?_) 130 0 _ 0 0 (Int.le_refl _)]
  unfold hr
  split
  · exact hc p hp (by assumption)
  · rfl
theorem anyB_ext {c c' : Int → Int} {ch : Int} : ∀ (f : Nat) (k : Int), (∀ j, k ≤ j → j < k + f → c' j = c j) → anyB c' ch f k = anyB c ch f k := by
  intro f
  induction f with
  | zero => intro k _; rfl
  | succ f ih =>
    intro k h
    unfold anyB
    rw [h k (by omega) (by omega), ih (k + 1) (fun j a b => h j (by omega) (by omega))]
theorem lfT_ext {c c' tx tx' : Int → Int} {n L : Int} (hc : ∀ p, 0 ≤ p → p < n → c' p = c p) (hx : ∀ p, 0 ≤ p → p < L → tx' p = tx p) {t : RT} (hW : TW n t) {p : Int} (hp : 0 ≤ p) : lfT c' tx' L t p = lfT c tx L t p := by
  unfold lfT
  by_cases hl : p < L
  · rw [if_pos hl, if_pos hl, hx p hp hl]
    cases t with
    | mulL b e =>
      obtain ⟨w1, w2, w3, w4⟩ := hW
      simp only
      unfold inS
      rw [anyB_ext (c := c) (c' := c') _ _ (fun j a b => hc j (by omega) (by omega)), anyB_ext (c := c) (c' := c') _ _ (fun j a b => hc j (by omega) (by omega))]
    | _ => rfl
  · rw [if_neg hl, if_neg hl]
theorem mst_ext {M M' : Int → (Int → Int) → RK → RA} (hM : ∀ p w κ κ', 0 ≤ p → (∀ p' w', 0 ≤ p' → κ' p' w' = κ p' w') → M' p w κ' = M p w κ) : ∀ (f : Nat) (p : Int) (w : Int → Int) (κ κ' : RK), 0 ≤ p → (∀ p' w', 0 ≤ p' → κ' p' w' = κ p' w') → mst M' f κ' p w = mst M f κ p w := by
  intro f
  induction f with
  | zero => intro p w κ κ' _ _; rfl
  | succ f ih =>
    intro p w κ κ' hp hk
    unfold mst
    rw [hM p w (mst M f κ) (mst M' f κ') hp (fun p' w' h => ih p' w' κ κ' h hk), hk p w hp]
theorem mt_ext {lf lf' : RT → Int → Bool} {n : Int} (hlf : ∀ t p, TW n t → 0 ≤ p → lf' t p = lf t p) : ∀ (t : RT), TW n t → ∀ (p : Int) (w : Int → Int) (κ κ' : RK), 0 ≤ p → (∀ p' w', 0 ≤ p' → κ' p' w' = κ p' w') → mt lf' t p w κ' = mt lf t p w κ := by
  intro t
  induction t with
  | num c =>
    intro hW p w κ κ' hp hk
    unfold mt
    rw [hlf _ p hW hp, hk p w hp, hk (p + 1) w (by omega)]
  | var v => intro hW p w κ κ' hp hk; exact hk p w hp
  | add a b iha ihb =>
    intro hW p w κ κ' hp hk
    exact iha hW.1 p w _ _ hp (fun p' w' h => ihb hW.2 p' w' κ κ' h hk)
  | sub a b iha ihb =>
    intro hW p w κ κ' hp hk
    unfold mt
    rw [iha hW.1 p w κ κ' hp hk, ihb hW.2 p w κ κ' hp hk]
  | neg a iha =>
    intro hW p w κ κ' hp hk
    exact mst_ext (fun p w κ κ' h1 h2 => iha hW.1 p w κ κ' h1 h2) 42 p w κ κ' hp hk
  | mulL b e _ =>
    intro hW p w κ κ' hp hk
    unfold mt
    rw [hlf _ p hW hp, hk (p + 1) w (by omega)]
  | mulR a k iha =>
    intro hW p w κ κ' hp hk
    unfold mt
    split
    · exact iha hW.1 p w _ _ hp (fun p' w' h => mst_ext (fun p w κ κ' h1 h2 => iha hW.1 p w κ κ' h1 h2) 42 p' w' κ κ' h hk)
    · split
      · rw [iha hW.1 p w κ κ' hp hk, hk p w hp]
      · exact iha hW.1 p _ _ _ hp (fun p' w' h => hk p' _ h)
theorem mRt_ext {c c' tx tx' : Int → Int} {n L : Int} (hc : ∀ p, 0 ≤ p → p < n → c' p = c p) (hx : ∀ p, 0 ≤ p → p < L → tx' p = tx p) {t : RT} (hW : TW n t) {wh : Bool} {s : Int} (hs : 0 ≤ s) : mRt c' tx' L t wh s = mRt c tx L t wh s := mt_ext (fun t p hW hp => lfT_ext hc hx hW hp) t hW s _ _ _ hs (fun _ _ _ => rfl)
theorem fstS_ext {R R' : Int → RA} : ∀ (f : Nat) (s : Int), 0 ≤ s → (∀ s, 0 ≤ s → R' s = R s) → fstS R' f s = fstS R f s := by
  intro f
  induction f with
  | zero => intro s _ _; rfl
  | succ f ih =>
    intro s hs h
    unfold fstS
    rw [h s hs, ih (s + 1) (by omega) h]
/-- what comes of marks on the way -/
def Ex (L : Int) (w w' : Int → Int) : Prop := (∀ j, 0 ≤ w j → 0 ≤ w' j) ∧ ((∀ j, -1 ≤ w j ∧ w j ≤ L) → ∀ j, -1 ≤ w' j ∧ w' j ≤ L) ∧ ((∀ k, 0 ≤ w (2 * k - 1) → 0 ≤ w (2 * k - 2)) → ∀ k, 0 ≤ w' (2 * k - 1) → 0 ≤ w' (2 * k - 2))
theorem Ex.refl (L : Int) (w : Int → Int) : Ex L w w := ⟨fun _ h => h, fun h => h, fun h => h⟩
theorem Ex.trans {L : Int} {a b c : Int → Int} (h : Ex L a b) (h' : Ex L b c) : Ex L a c := ⟨fun j x => h'.1 j (h.1 j x), fun x => h'.2.1 (h.2.1 x), fun x => h'.2.2 (h.2.2 x)⟩
theorem Ex_s {L p k : Int} {w : Int → Int} (hp : 0 ≤ p ∧ p ≤ L) : Ex L w (up w (2 * k - 2) p) := by
  refine ⟨fun j h => ?_, fun h j => ?_, fun h j hj => ?_⟩
  · unfold up; split <;> omega
  · have := h j
    unfold up; split <;> omega
  · rw [up_n (by omega)] at hj
    have := h j hj
    unfold up; split <;> omega
theorem Ex_e {L p k : Int} {w : Int → Int} (hp : 0 ≤ p ∧ p ≤ L) (hw : 0 ≤ w (2 * k - 2)) : Ex L w (up w (2 * k - 1) p) := by
  refine ⟨fun j h => ?_, fun h j => ?_, fun h j hj => ?_⟩
  · unfold up; split <;> omega
  · have := h j
    unfold up; split <;> omega
  · rw [up_n (by omega)]
    by_cases hk : j = k
    · rw [hk]; exact hw
    · rw [up_n (by omega)] at hj
      exact h j hj
section INV
variable {lf : RT → Int → Bool} {L : Int} {P : Int × (Int → Int) → Prop}
theorem mst_inv {M : Int → (Int → Int) → RK → RA} (hM : ∀ p w κ q, 0 ≤ p → p ≤ L → (∀ p' w', p ≤ p' → p' ≤ L → Ex L w w' → ∀ q, κ p' w' = some q → P q) → M p w κ = some q → P q) : ∀ (f : Nat) (p : Int) (w : Int → Int) (κ : RK) (q : Int × (Int → Int)), 0 ≤ p → p ≤ L → (∀ p' w', p ≤ p' → p' ≤ L → Ex L w w' → ∀ q, κ p' w' = some q → P q) → mst M f κ p w = some q → P q := by
  intro f
  induction f with
  | zero => intro p w κ q _ _ _ h; cases h
  | succ f ih =>
    intro p w κ q h0 h1 hk h
    unfold mst at h
    cases hx : M p w (mst M f κ) with
    | some q1 =>
      rw [hx] at h
      cases h
      exact hM p w _ _ h0 h1 (fun p' w' a b e q2 h2 => ih p' w' κ q2 (by omega) b (fun p2 w2 a2 b2 e2 => hk p2 w2 (by omega) b2 (e.trans e2)) h2) hx
    | none =>
      rw [hx] at h
      exact hk p w (Int.le_refl _) h1 (Ex.refl L w) q h
theorem mt_inv (hlf : ∀ t p, lf t p = true → p < L) : ∀ (t : RT) (p : Int) (w : Int → Int) (κ : RK) (q : Int × (Int → Int)), 0 ≤ p → p ≤ L → (∀ p' w', p ≤ p' → p' ≤ L → Ex L w w' → ∀ q, κ p' w' = some q → P q) → mt lf t p w κ = some q → P q := by
  intro t
  induction t with
  | num c =>
    intro p w κ q h0 h1 hk h
    unfold mt at h
    split at h
    · exact hk p w (Int.le_refl _) h1 (Ex.refl L w) q h
    · split at h
      · rename_i hl
        have := hlf _ _ hl
        exact hk (p + 1) w (by omega) (by omega) (Ex.refl L w) q h
      · cases h
  | var v => intro p w κ q h0 h1 hk h; exact hk p w (Int.le_refl _) h1 (Ex.refl L w) q h
  | add a b iha ihb =>
    intro p w κ q h0 h1 hk h
    exact iha p w _ q h0 h1 (fun p' w' a b e q2 h2 => ihb p' w' κ q2 (by omega) b (fun p2 w2 a2 b2 e2 => hk p2 w2 (by omega) b2 (e.trans e2)) h2) h
  | sub a b iha ihb =>
    intro p w κ q h0 h1 hk h
    unfold mt at h
    cases hx : mt lf a p w κ with
    | some q1 => rw [hx] at h; cases h; exact iha p w κ _ h0 h1 hk hx
    | none => rw [hx] at h; exact ihb p w κ q h0 h1 hk h
  | neg a iha =>
    intro p w κ q h0 h1 hk h
    exact mst_inv iha 42 p w κ q h0 h1 hk h
  | mulL b e _ =>
    intro p w κ q h0 h1 hk h
    unfold mt at h
    split at h
    · rename_i hl
      have := hlf _ _ hl
      exact hk (p + 1) w (by omega) (by omega) (Ex.refl L w) q h
    · cases h
  | mulR a k iha =>
    intro p w κ q h0 h1 hk h
    unfold mt at h
    split at h
    · exact iha p w _ q h0 h1 (fun p' w' a b e q2 h2 => mst_inv iha 42 p' w' κ q2 (by omega) b (fun p2 w2 a2 b2 e2 => hk p2 w2 (by omega) b2 (e.trans e2)) h2) h
    · split at h
      · cases hx : mt lf a p w κ with
        | some q1 => rw [hx] at h; cases h; exact iha p w κ _ h0 h1 hk hx
        | none => rw [hx] at h; exact hk p w (Int.le_refl _) h1 (Ex.refl L w) q h
      · refine iha p _ _ q h0 h1 (fun p' w' a b e q2 h2 => hk p' _ a b (((Ex_s ⟨h0, h1⟩).trans e).trans (Ex_e (k := k) ⟨by omega, b⟩ (e.1 _ (by rw [up_s]; exact h0)))) q2 h2) h
end INV
/-- a match is like this -/
def MOk (L s : Int) (q : Int × (Int → Int)) : Prop := s ≤ q.1 ∧ q.1 ≤ L ∧ (∀ j, -1 ≤ q.2 j ∧ q.2 j ≤ L) ∧ (∀ k, 0 ≤ q.2 (2 * k - 1) → 0 ≤ q.2 (2 * k - 2))
theorem mRt_ok {c tx : Int → Int} {L s : Int} {t : RT} {wh : Bool} {q : Int × (Int → Int)} (hs : 0 ≤ s ∧ s ≤ L) (h : mRt c tx L t wh s = some q) : MOk L s q := by
  refine mt_inv (P := MOk L s) (fun t p h => lfT_L h) t s _ _ q hs.1 hs.2 (fun p' w' a b e q2 h2 => ?_) h
  unfold kW at h2
  split at h2
  · cases h2
    exact ⟨a, b, e.2.1 (fun j => ⟨by show (-1 : Int) ≤ -1; omega, by show (-1 : Int) ≤ L; omega⟩), e.2.2 (fun k hk => absurd (show (0 : Int) ≤ -1 from hk) (by omega))⟩
  · cases h2
theorem fstS_ok {R : Int → RA} {P : Int → Int × (Int → Int) → Prop} : ∀ (f : Nat) (s : Int) (q : Int × Int × (Int → Int)), (∀ k q, s ≤ k → k < s + f → R k = some q → P k q) → fstS R f s = some q → s ≤ q.1 ∧ q.1 < s + f ∧ P q.1 q.2 := by
  intro f
  induction f with
  | zero => intro s q _ h; cases h
  | succ f ih =>
    intro s q hR h
    unfold fstS at h
    cases hx : R s with
    | some q1 =>
      rw [hx] at h
      cases h
      exact ⟨Int.le_refl _, by show s < _; omega, hR s q1 (Int.le_refl _) (by omega) hx⟩
    | none =>
      rw [hx] at h
      have := ih (s + 1) q (fun k q a b => hR k q (by omega) (by omega)) h
      exact ⟨by omega, by omega, this.2.2⟩
