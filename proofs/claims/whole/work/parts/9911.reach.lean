/-! the class's reader: where it comes to, what it has laid -/
def reach (c : Int → Int) (p : Int) (P : RS) (a : Int) (P' : RS) : Prop := p ≤ a ∧ rds c (a - p).toNat p P = some P'
def stuck (c : Int → Int) (n p : Int) (P : RS) (e : Int) : Prop := ∃ P', reach c p P e P' ∧ e ≤ n ∧ (e < n → acc P' (c e) e = none) ∧ (e = n → P'.1 11 ≠ 0 ∨ 0 < P'.1 10)
def ALt (P : RS) (alt : Option RT) : Prop := match alt with
  | none => cur P 3 = cur P 2 ∧ cur P 10 = 1000000 ∧ cur P 11 = 0
  | some a => LK (P.2.1 4) (P.2.1 6) (P.2.1 8) a (some pend) (cur P 2) ∧ cur P 3 = cur P 2 + tsz a + 2 ∧ cur P 10 = tsh a ∧ cur P 11 = tlo a
def LKn (P : RS) (t : RT) (b : Int) : Prop := LK (P.2.1 4) (P.2.1 6) (P.2.1 8) t none b
def LSt (P : RS) (alt : Option RT) (u : RT) : Prop := P.1 11 = 0 ∧ ALt P alt ∧ LKn P u (cur P 3) ∧ P.1 4 = cur P 3 + tsz u ∧ stl (cur P) 8 = tsh u ∧ stl (cur P) 9 = tlo u ∧ ∀ x y, u ≠ .sub x y
def ATm (P : RS) (alt : Option RT) (u w : RT) : Prop := P.1 11 = 0 ∧ ALt P alt ∧ LKn P u (cur P 3) ∧ LKn P w (cur P 3 + tsz u) ∧ P.1 4 = cur P 3 + tsz u + tsz w ∧ cur P 4 = 1 ∧ cur P 5 = cur P 3 + tsz u ∧ cur P 6 = tsh w ∧ cur P 7 = tlo w ∧ cur P 8 = tsh u ∧ cur P 9 = tlo u
def mk (alt : Option RT) (u : RT) : RT := match alt with
  | none => u
  | some a => .sub a u
def sameU (P P' : RS) (b : Int) : Prop := ∀ i, 0 ≤ i → i < b → P'.2.1 4 i = P.2.1 4 i ∧ P'.2.1 6 i = P.2.1 6 i ∧ P'.2.1 8 i = P.2.1 8 i
/-- what stays: the other levels, the steps before b, the depth -/
def Fr (b : Int) (P P' : RS) : Prop := P'.2.2.2.2.2 = P.2.2.2.2.2 ∧ P.2.2.2.2.1 ≤ P'.2.2.2.2.1 ∧ (∀ i, i < P.2.2.2.2.1 → P'.2.2.2.1 i = P.2.2.2.1 i) ∧ (∀ j, j < P.2.2.2.2.1 → j ≠ P.2.2.2.2.2 → P'.2.2.1 j = P.2.2.1 j) ∧ sameU P P' b ∧ cur P' 2 = cur P 2 ∧ P'.1 10 = P.1 10
section REA
variable {c : Int → Int} {p a b e n : Int} {P P' P'' : RS}
theorem rds_s {k : Nat} : rds c (k + 1) p P = match acc P (c p) p with
    | none => none
    | some P' => rds c k (p + 1) P' := rfl
theorem rds_add : ∀ (j k : Nat) (p : Int) (P P' : RS), rds c j p P = some P' → rds c (j + k) p P = rds c k (p + j) P' := by
  intro j
  induction j with
  | zero =>
    intro k p P P' h
    have e : P = P' := by injection h
    rw [e, Nat.zero_add, show p + ((0 : Nat) : Int) = p by omega]
  | succ j ih =>
    intro k p P P' h
    rw [rds_s] at h
    rw [show j + 1 + k = (j + k) + 1 by omega, rds_s]
    cases ha : acc P (c p) p with
    | none => rw [ha] at h; cases h
    | some P1 =>
      rw [ha] at h
      simp only at h ⊢
      rw [ih k (p + 1) P1 P' h, show p + 1 + (j : Int) = p + ((j + 1 : Nat) : Int) by omega]
theorem reach_0 : reach c p P p P := ⟨Int.le_refl _, by rw [show (p - p).toNat = 0 by omega]; rfl⟩
theorem reach_tr (h : reach c p P a P') (h' : reach c a P' b P'') : reach c p P b P'' := by
  obtain ⟨h1, h2⟩ := h
  obtain ⟨h3, h4⟩ := h'
  refine ⟨by omega, ?_⟩
  rw [show (b - p).toNat = (a - p).toNat + (b - a).toNat by omega, rds_add _ _ _ _ _ h2, show p + ((a - p).toNat : Int) = a by omega]
  exact h4
theorem reach_1 (h : acc P (c p) p = some P') : reach c p P (p + 1) P' := by
  refine ⟨by omega, ?_⟩
  rw [show (p + 1 - p).toNat = 0 + 1 by omega, rds_s, h]
  rfl
theorem stuck_tr (h : reach c p P a P') (h' : stuck c n a P' e) : stuck c n p P e := by
  obtain ⟨P2, h1, h2⟩ := h'
  exact ⟨P2, reach_tr h h1, h2⟩
theorem RI_rds (hc : ∀ k, 0 ≤ k → k < n → 0 ≤ c k ∧ c k ≤ 65535) (hn : n ≤ 30) : ∀ (k : Nat) (p : Int) (P P' : RS), RI P p → p + k ≤ n → rds c k p P = some P' → RI P' (p + k) := by
  intro k
  induction k with
  | zero =>
    intro p P P' h hp hr
    have e : P = P' := by injection hr
    rw [← e, show p + ((0 : Nat) : Int) = p by omega]
    exact h
  | succ k ih =>
    intro p P P' h hp hr
    rw [rds_s] at hr
    have h0 := h.2.2.1
    cases ha : acc P (c p) p with
    | none => rw [ha] at hr; cases hr
    | some P1 =>
      rw [ha] at hr
      have := ih (p + 1) P1 P' (RI_acc h (by omega) (hc p h0 (by omega)) ha) (by omega) hr
      rw [show p + ((k + 1 : Nat) : Int) = p + 1 + (k : Int) by omega]
      exact this
theorem RI_reach (hc : ∀ k, 0 ≤ k → k < n → 0 ≤ c k ∧ c k ≤ 65535) (hn : n ≤ 30) (h : RI P p) (hr : reach c p P a P') (ha : a ≤ n) : RI P' a := by
  obtain ⟨h1, h2⟩ := hr
  have := RI_rds hc hn _ _ _ _ h (by omega) h2
  rw [show p + ((a - p).toNat : Int) = a by omega] at this
  exact this
theorem Fr.tr {b' : Int} (h : Fr b P P') (h' : Fr b' P' P'') (hb : b ≤ b') : Fr b P P'' := by
  obtain ⟨a1, a2, a3, a4, a5, a6, a7⟩ := h
  obtain ⟨b1, b2, b3, b4, b5, b6, b7⟩ := h'
  refine ⟨b1.trans a1, by omega, fun i hi => (b3 i (by omega)).trans (a3 i hi), fun j hj hl => (b4 j (by omega) (by omega)).trans (a4 j hj hl), fun i h0 hi => ?_, b6.trans a6, b7.trans a7⟩
  have q1 := a5 i h0 hi
  have q2 := b5 i h0 (by omega)
  exact ⟨q2.1.trans q1.1, q2.2.1.trans q1.2.1, q2.2.2.trans q1.2.2⟩
theorem Fr.refl : Fr b P P := ⟨rfl, Nat.le_refl _, fun _ _ => rfl, fun _ _ _ => rfl, fun _ _ _ => ⟨rfl, rfl, rfl⟩, rfl, rfl⟩
theorem Fr.le {b' : Int} (h : Fr b P P') (hb : b' ≤ b) : Fr b' P P' := by
  obtain ⟨a1, a2, a3, a4, a5, a6, a7⟩ := h
  exact ⟨a1, a2, a3, a4, fun i h0 hi => a5 i h0 (by omega), a6, a7⟩
theorem LKn_fr {t : RT} (h : LKn P t a) (ha : 0 ≤ a) (hs : sameU P P' (a + tsz t)) : LKn P' t a := by
  have := LK_mv (k' := P'.2.1 4) (f' := P'.2.1 6) (s' := P'.2.1 8) (dl := 0) t none none a h trivial (fun i q1 q2 => by
    rw [Int.add_zero]
    exact hs i (by omega) (by simpa using q2))
  rw [Int.add_zero] at this
  exact this
theorem ALt_fr {alt : Option RT} (h : ALt P alt) (h0 : 0 ≤ cur P 2) (h2 : cur P' 2 = cur P 2) (h3 : cur P' 3 = cur P 3) (h10 : cur P' 10 = cur P 10) (h11 : cur P' 11 = cur P 11) (hs : sameU P P' (cur P 3)) : ALt P' alt := by
  cases alt with
  | none =>
    obtain ⟨a1, a2, a3⟩ := h
    exact ⟨by omega, by omega, by omega⟩
  | some t =>
    obtain ⟨a1, a2, a3, a4⟩ := h
    refine ⟨?_, by omega, by omega, by omega⟩
    have := LK_mv (k' := P'.2.1 4) (f' := P'.2.1 6) (s' := P'.2.1 8) (dl := 0) t (some pend) (some pend) (cur P 2) a1 (fun j z _ _ hj => hj) (fun i q1 q2 => by
      rw [Int.add_zero]
      exact hs i (by omega) (by simp only at q2; omega))
    rw [Int.add_zero] at this
    rw [h2]
    exact this
theorem ATm_LSt {alt : Option RT} {u w : RT} (h : ATm P alt u w) : LSt P alt (.add u w) := by
  obtain ⟨a1, a2, a3, a4, a5, a6, a7, a8, a9, a10, a11⟩ := h
  have e : tsz (.add u w) = tsz u + tsz w := rfl
  have e1 : tsh (.add u w) = tsh u + tsh w := rfl
  have e2 : tlo (.add u w) = min 1000000 (tlo u + tlo w) := rfl
  refine ⟨a1, a2, ⟨a3, a4⟩, by omega, ?_, ?_, fun x y h => by cases h⟩
  · rw [stl_1 a6]
    simp (disch := omega) only [uN_s, uN_n, uA_s, uA_n, up_s, up_n, uN_uN, uA_uA]
    omega
  · rw [stl_1 a6]
    simp (disch := omega) only [uN_s, uN_n, uA_s, uA_n, up_s, up_n, uN_uN, uA_uA]
    rw [e2, a9, a11]
end REA
