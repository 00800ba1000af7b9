/-! the class's reader reads what the reference's reader reads -/
def iTm (c : Int → Int) (n p : Int) : Prop := sgB (hr c n p) = true ∨ hr c n p = 46 ∨ hr c n p = 40 ∨ hr c n p = 91
def NSg (c : Int → Int) (n : Int) (P : RS) (p : Int) : Prop := cur P 4 = 1 → hr c n p ≠ 42 ∧ hr c n p ≠ 43 ∧ hr c n p ≠ 63
def O4 (c : Int → Int) (n p : Int) (P : RS) (alt : Option RT) (u : RT) (r : Int ⊕ (Int × Int × RT)) : Prop := match r with
  | .inl e => stuck c n p P e
  | .inr (a, g, w) => ∃ P', reach c p P a P' ∧ ATm P' alt u w ∧ Fr (P.1 4) P P' ∧ P'.1 14 = g
def O3 (c : Int → Int) (n p : Int) (P : RS) (alt : Option RT) (u : RT) (r : Int ⊕ (Int × Int × RT)) : Prop := match r with
  | .inl e => stuck c n p P e
  | .inr (a, g, w) => ∃ P', reach c p P a P' ∧ LSt P' alt (.add u w) ∧ NSg c n P' a ∧ Fr (cur P 3) P P' ∧ P'.1 14 = g
def O2 (c : Int → Int) (n p : Int) (P : RS) (alt : Option RT) (r : Int ⊕ (Int × Int × RT)) : Prop := match r with
  | .inl e => stuck c n p P e
  | .inr (a, g, w) => ∃ P', reach c p P a P' ∧ LSt P' alt w ∧ NSg c n P' a ∧ ¬ iTm c n a ∧ Fr (cur P 3) P P' ∧ P'.1 14 = g
def O1 (c : Int → Int) (n p : Int) (P : RS) (r : Int ⊕ (Int × Int × RT)) : Prop := match r with
  | .inl e => stuck c n p P e
  | .inr (a, g, t) => ∃ P' alt u, reach c p P a P' ∧ LSt P' alt u ∧ mk alt u = t ∧ tsh u ≤ 1000000 ∧ NSg c n P' a ∧ ¬ iTm c n a ∧ hr c n a ≠ 124 ∧ Fr (cur P 2) P P' ∧ P'.1 14 = g
def B4 (c : Int → Int) (n : Int) (f : Nat) : Prop := ∀ (P : RS) (alt : Option RT) (u t : RT) (p : Int), LSt P alt u → RI P p → p < n → 4 * (n - p) - 1 ≤ f → iTm c n p → 0 ≤ P.1 10 → O4 c n p P alt u (PZ c n f 4 t p (P.1 14))
def B3 (c : Int → Int) (n : Int) (f : Nat) : Prop := ∀ (P : RS) (alt : Option RT) (u t : RT) (p : Int), LSt P alt u → RI P p → p < n → 4 * (n - p) ≤ f → iTm c n p → 0 ≤ P.1 10 → O3 c n p P alt u (PZ c n f 3 t p (P.1 14))
def B2 (c : Int → Int) (n : Int) (f : Nat) : Prop := ∀ (P : RS) (alt : Option RT) (t : RT) (p : Int), LSt P alt t → NSg c n P p → RI P p → p ≤ n → 4 * (n - p) + 1 ≤ f → 0 ≤ P.1 10 → O2 c n p P alt (PZ c n f 2 t p (P.1 14))
def B1 (c : Int → Int) (n : Int) (f : Nat) : Prop := ∀ (P : RS) (alt : Option RT) (u : RT) (p : Int), LSt P alt u → tsh u ≤ 1000000 → NSg c n P p → ¬ iTm c n p → RI P p → p ≤ n → 4 * (n - p) + 1 ≤ f → 0 ≤ P.1 10 → O1 c n p P (PZ c n f 1 (mk alt u) p (P.1 14))
def B0 (c : Int → Int) (n : Int) (f : Nat) : Prop := ∀ (P : RS) (t : RT) (p : Int), LSt P none (.num 0) → cur P 4 = 0 → RI P p → p ≤ n → 4 * (n - p) + 2 ≤ f → 0 ≤ P.1 10 → O1 c n p P (PZ c n f 0 t p (P.1 14))
section MOD
variable {c : Int → Int} {n : Int} {f : Nat}
theorem g_rg {P : RS} {p : Int} (h : RI P p) : 0 ≤ P.1 14 ∧ P.1 14 ≤ 5 := by
  obtain ⟨hS, i1, i2, i3, i4, i5, i6, _⟩ := h
  omega
theorem rej {P : RS} {p : Int} (h : P.1 11 = 0) (hI : RI P p) (hN : NSg c n P p) (hT : ¬ iTm c n p) (h124 : hr c n p ≠ 124) (h41 : hr c n p ≠ 41 ∨ P.2.2.2.2.2 = 0) (hp : p < n) : acc P (c p) p = none := by
  have h4 := (hI.2.2.2.2.2.2.2.2.1 _ hI.2.2.2.2.1).1.1
  unfold iTm at hT
  unfold NSg at hN
  rw [hr_c hp] at *
  exact acc_no h (fun q => hT (Or.inl q)) ⟨fun q => hT (Or.inr (Or.inl q)), fun q => hT (Or.inr (Or.inr (Or.inr q))), fun q => hT (Or.inr (Or.inr (Or.inl q))), h124⟩ h41 (fun hr => by
    have h4' : cur P 4 = 0 ∨ cur P 4 = 1 := h4
    rcases h4' with h4' | h4'
    · exact h4'
    · have := hN h4'
      omega)
theorem B4_s (hc : ∀ k, 0 ≤ k → k < n → 0 ≤ c k ∧ c k ≤ 65535) (hn : n ≤ 30) (h0 : B0 c n f) : B4 c n (f + 1) := by
  intro P alt u t p hL hI hp hf hT hD
  have hp0 := hI.2.2.1
  have hg := g_rg hI
  unfold PZ
  simp only
  by_cases h40 : hr c n p = 40
  · rw [if_pos h40]
    have e40 : c p = 40 := by rw [← hr_c (c := c) hp]; exact h40
    have ha := acc_40 (P := P) (p := p) hL.1
    by_cases h5 : P.1 14 = 5
    · rw [if_pos h5]
      rw [if_neg (by omega)] at ha
      exact ⟨P, reach_0, by omega, fun _ => by rw [e40]; exact ha, fun h => by omega⟩
    · rw [if_neg h5]
      rw [if_pos (by omega)] at ha
      have r1 : reach c p P (p + 1) (opg P) := reach_1 (by rw [e40]; exact ha)
      have hI1 := RI_reach hc hn hI r1 (by omega)
      obtain ⟨o1, o2, o3, o4, o5, o6, o7, o8, o9⟩ := opg_ok hI hL.1
      have h := h0 (opg P) t (p + 1) o1 o5 hI1 (by omega) (by omega) (by omega)
      rw [o7] at h
      have hR := PZ_rg (c := c) (n := n) f 0 t (p + 1) (P.1 14 + 1) (by omega) (by omega) (by omega) (by omega) (by omega)
      cases hz : PZ c n f 0 t (p + 1) (P.1 14 + 1) with
      | inl e =>
        rw [hz] at h
        exact stuck_tr r1 h
      | inr q =>
        obtain ⟨a, g', t'⟩ := q
        rw [hz] at h hR
        obtain ⟨P2, alt2, u2, r2, l2, m2, s2, n2, it2, b2, f2, g2⟩ := h
        obtain ⟨R1, R2, _⟩ := hR
        have hI2 := RI_reach hc hn hI1 r2 R2
        have f27 := f2.2.2.2.2.2.2
        simp only
        obtain ⟨c1, c2, c3, c4⟩ := clg_ok hI hL hI2 l2 f2 s2
        by_cases h41 : hr c n a = 41
        · rw [if_pos h41]
          have hlt := hr_in (c := c) (n := n) (p := a) (by omega)
          have e41 : c a = 41 := by rw [← hr_c (c := c) hlt]; exact h41
          have ha2 := acc_41 (P := P2) (p := a) l2.1
          rw [if_neg c4] at ha2
          refine ⟨clg P2, reach_tr r1 (reach_tr r2 (reach_1 (by rw [e41]; exact ha2))), ?_, c2, c3.trans g2⟩
          rw [← m2]
          exact c1
        · rw [if_neg h41]
          exact stuck_tr r1 (stuck_tr r2 ⟨P2, reach_0, R2, fun hlt => rej l2.1 hI2 n2 it2 b2 (Or.inl h41) hlt, fun _ => Or.inr (by omega)⟩)
  rw [if_neg h40]
  by_cases h91 : hr c n p = 91
  · rw [if_pos h91]
    generalize hb : (if hr c n (p + 1) = 94 then p + 2 else p + 1) = b
    generalize hs : scn c n 30 b = s
    have h := brk_ok hc hn hL hI hp h91 hb.symm hs.symm
    by_cases hbad : s = b ∨ hr c n s ≠ 93
    · rw [if_pos hbad] at h ⊢
      exact h
    · rw [if_neg hbad] at h ⊢
      exact h
  rw [if_neg h91]
  by_cases h46 : hr c n p = 46
  · rw [if_pos h46]
    have e46 : c p = 46 := by rw [← hr_c (c := c) hp]; exact h46
    obtain ⟨A1, A2, A3⟩ := atm_ok (kk := 2) (ff := 0) (ss := 0) (w := .num 1) hI hL rfl rfl rfl (fun P' q1 q2 q3 => Or.inr (by rw [if_pos rfl]; exact q1))
    exact ⟨_, reach_1 (by rw [e46]; exact acc_46 hL.1), A1, A2, A3⟩
  rw [if_neg h46]
  have hs : sgB (hr c n p) = true := by
    rcases hT with h | h | h | h
    · exact h
    · exact absurd h h46
    · exact absurd h h40
    · exact absurd h h91
  have hr' := hr_c (c := c) hp
  rw [hr'] at hs ⊢
  have h32 := sgB_t.mp hs
  unfold sgn at h32
  obtain ⟨A1, A2, A3⟩ := atm_ok (kk := 1) (ff := c p) (ss := 0) (w := .num (c p)) hI hL (if_neg (by omega)) (if_neg (by omega)) (if_neg (by omega)) (fun P' q1 q2 q3 => Or.inr (by rw [if_neg (by omega)]; exact ⟨q1, q2⟩))
  exact ⟨_, reach_1 (acc_sg hL.1 hs), A1, A2, A3⟩
theorem B3_s (hc : ∀ k, 0 ≤ k → k < n → 0 ≤ c k ∧ c k ≤ 65535) (hn : n ≤ 30) (h4 : B4 c n f) : B3 c n (f + 1) := by
  intro P alt u t p hL hI hp hf hT hD
  have hp0 := hI.2.2.1
  have hg := g_rg hI
  have hv3 : cur P 3 ≤ P.1 4 := (hI.2.2.2.2.2.2.2.2.1 _ hI.2.2.2.2.1).2.2.2.2.2.1
  have h := h4 P alt u t p hL hI hp (by omega) hT hD
  have hR := PZ_rg (c := c) (n := n) f 4 t p (P.1 14) hp0 (by omega) (fun _ => hp) hg.1 hg.2
  rw [PZ_3]
  cases hz : PZ c n f 4 t p (P.1 14) with
  | inl e =>
    rw [hz] at h
    exact h
  | inr q =>
    obtain ⟨a, g', t'⟩ := q
    rw [hz] at h hR
    obtain ⟨P1, r1, a1, f1, g1⟩ := h
    obtain ⟨R1, R2, _⟩ := hR
    have hI1 := RI_reach hc hn hI r1 R2
    have c4 := a1.2.2.2.2.2.1
    have c6 := a1.2.2.2.2.2.2.2.1
    have s0 := tsz_0 u
    have e3 : cur P1 3 = cur P 3 := by
      have q1 := a1.2.2.2.2.1
      have q2 := a1.2.2.2.2.2.2.1
      have q3 := hL.2.2.2.1
      have q4 := f1.2.2.2.2.2.1
      have q5 := a1.2.1
      have q6 := hL.2.1
      cases alt with
      | none =>
        obtain ⟨w1, _⟩ := q5
        obtain ⟨w2, _⟩ := q6
        omega
      | some z =>
        obtain ⟨_, w1, _⟩ := q5
        obtain ⟨_, w2, _⟩ := q6
        omega
    have f1' := f1.le hv3
    simp only
    by_cases h63 : hr c n a = 63
    · rw [if_pos h63]
      have hlt := hr_in (c := c) (n := n) (p := a) (by omega)
      have e63 : c a = 63 := by rw [← hr_c (c := c) hlt]; exact h63
      obtain ⟨k1, k2, k3, k4⟩ := rpq_ok hI1 a1
      have ha := acc_r (P := P1) (p := a) (ch := 63) a1.1 (by omega)
      rw [if_neg (by omega), if_neg (by omega), if_neg (by omega)] at ha
      exact ⟨rpq P1, reach_tr r1 (reach_1 (by rw [e63]; exact ha)), k1, fun h => by omega, f1'.tr k2 (by omega), k4.trans g1⟩
    rw [if_neg h63]
    by_cases hno : hr c n a ≠ 42 ∧ hr c n a ≠ 43
    · rw [if_pos hno]
      exact ⟨P1, r1, ATm_LSt a1, fun _ => ⟨hno.1, hno.2, h63⟩, f1', g1⟩
    rw [if_neg hno]
    have hlt := hr_in (c := c) (n := n) (p := a) (by omega)
    have ha := acc_r (P := P1) (p := a) (ch := c a) a1.1 (by rw [← hr_c (c := c) (n := n) hlt]; omega)
    by_cases hsh : tsh t' = 0
    · rw [if_pos hsh]
      rw [if_pos (Or.inr ⟨by rw [← hr_c (c := c) (n := n) hlt]; exact h63, by omega⟩)] at ha
      exact stuck_tr r1 ⟨P1, reach_0, R2, fun _ => ha, fun h => by omega⟩
    rw [if_neg hsh]
    rw [if_neg (by omega)] at ha
    rw [hr_c hlt] at hno ⊢
    by_cases h42 : c a = 42
    · rw [if_pos h42]
      rw [if_neg (by omega), if_pos h42] at ha
      obtain ⟨k1, k2, k3, k4⟩ := rps_ok hI1 a1
      exact ⟨rps P1, reach_tr r1 (reach_1 ha), k1, fun h => by omega, f1'.tr k2 (by omega), k4.trans g1⟩
    · rw [if_neg h42]
      rw [if_pos (by omega)] at ha
      obtain ⟨k1, k2, k3, k4⟩ := rpp_ok hI1 a1
      exact ⟨rpp P1, reach_tr r1 (reach_1 ha), k1, fun h => by omega, f1'.tr k2 (by omega), k4.trans g1⟩
theorem B2_s (hc : ∀ k, 0 ≤ k → k < n → 0 ≤ c k ∧ c k ≤ 65535) (hn : n ≤ 30) (h3 : B3 c n f) (h2 : B2 c n f) : B2 c n (f + 1) := by
  intro P alt t p hL hN hI hp hf hD
  have hp0 := hI.2.2.1
  have hg := g_rg hI
  rw [PZ_2]
  by_cases hT : iTm c n p
  case neg =>
    have hT' : ¬ (sgB (hr c n p) = true ∨ hr c n p = 46 ∨ hr c n p = 40 ∨ hr c n p = 91) := hT
    rw [if_neg hT']
    exact ⟨P, reach_0, hL, hN, hT, Fr.refl, rfl⟩
  have hT' : (sgB (hr c n p) = true ∨ hr c n p = 46 ∨ hr c n p = 40 ∨ hr c n p = 91) := hT
  rw [if_pos hT']
  have hlt : p < n := by
    rcases hT' with h | h
    · exact sgB_in h
    · exact hr_in (c := c) (n := n) (p := p) (by omega)
  have h := h3 P alt t t p hL hI hlt (by omega) hT hD
  have hR := PZ_rg (c := c) (n := n) f 3 t p (P.1 14) hp0 (by omega) (fun _ => hlt) hg.1 hg.2
  cases hz : PZ c n f 3 t p (P.1 14) with
  | inl e =>
    rw [hz] at h
    exact h
  | inr q =>
    obtain ⟨a, g', t'⟩ := q
    rw [hz] at h hR
    obtain ⟨P1, r1, l1, n1, f1, g1⟩ := h
    obtain ⟨R1, R2, _, _, _, R3⟩ := hR
    have R3 := R3 (by omega)
    have hI1 := RI_reach hc hn hI r1 R2
    have h := h2 P1 alt (.add t t') a l1 n1 hI1 R2 (by omega) (by have := f1.2.2.2.2.2.2; omega)
    rw [g1] at h
    have e3 : cur P1 3 = cur P 3 := by
      have q4 := f1.2.2.2.2.2.1
      have q5 := l1.2.1
      have q6 := hL.2.1
      cases alt with
      | none =>
        obtain ⟨w1, _⟩ := q5
        obtain ⟨w2, _⟩ := q6
        omega
      | some z =>
        obtain ⟨_, w1, _⟩ := q5
        obtain ⟨_, w2, _⟩ := q6
        omega
    simp only
    cases hz2 : PZ c n f 2 (.add t t') a g' with
    | inl e =>
      rw [hz2] at h
      exact stuck_tr r1 h
    | inr q =>
      obtain ⟨a2, g2, t2⟩ := q
      rw [hz2] at h
      obtain ⟨P2, r2, l2, n2, it2, f2, g2⟩ := h
      exact ⟨P2, reach_tr r1 r2, l2, n2, it2, f1.tr f2 (by omega), g2⟩
theorem B1_s (hc : ∀ k, 0 ≤ k → k < n → 0 ≤ c k ∧ c k ≤ 65535) (hn : n ≤ 30) (h2 : B2 c n f) (h1 : B1 c n f) : B1 c n (f + 1) := by
  intro P alt u p hL hu hN hT hI hp hf hD
  have hp0 := hI.2.2.1
  have hg := g_rg hI
  have hv23 : cur P 2 ≤ cur P 3 := (hI.2.2.2.2.2.2.2.2.1 _ hI.2.2.2.2.1).2.2.2.2.1
  rw [PZ_1]
  by_cases h124 : hr c n p = 124
  case neg =>
    rw [if_neg h124]
    exact ⟨P, alt, u, reach_0, hL, rfl, hu, hN, hT, h124, Fr.refl, rfl⟩
  rw [if_pos h124]
  have hlt := hr_in (c := c) (n := n) (p := p) (by omega)
  have e124 : c p = 124 := by rw [← hr_c (c := c) hlt]; exact h124
  obtain ⟨k1, k2, k3, k4⟩ := brn_ok hI hL hu
  have r0 : reach c p P (p + 1) (brn P) := reach_1 (by rw [e124]; exact acc_124 hL.1)
  have hI0 := RI_reach hc hn hI r0 (by omega)
  have h := h2 (brn P) (some (mk alt u)) (.num 0) (p + 1) k1 (fun h => by omega) hI0 (by omega) (by omega) (by have := k2.2.2.2.2.2.2; omega)
  rw [k4] at h
  have hR := PZ_rg (c := c) (n := n) f 2 (.num 0) (p + 1) (P.1 14) (by omega) (by omega) (by omega) hg.1 hg.2
  cases hz : PZ c n f 2 (.num 0) (p + 1) (P.1 14) with
  | inl e =>
    rw [hz] at h
    exact stuck_tr r0 h
  | inr q =>
    obtain ⟨a, g', t'⟩ := q
    rw [hz] at h hR
    obtain ⟨P1, r1, l1, n1, it1, f1, g1⟩ := h
    obtain ⟨R1, R2, _, _, R5, _⟩ := hR
    rw [if_pos (by omega)] at R5
    have t00 : tsh (.num 0) = 0 := rfl
    have hI1 := RI_reach hc hn hI0 r1 R2
    have h := h1 P1 (some (mk alt u)) t' a l1 (by omega) n1 it1 hI1 R2 (by omega) (by have := f1.2.2.2.2.2.2; have := k2.2.2.2.2.2.2; omega)
    rw [g1] at h
    have hv1 := hI0.2.2.2.2.2.2.2.2.1 _ hI0.2.2.2.2.1
    have hv123 : cur (brn P) 2 ≤ cur (brn P) 3 := hv1.2.2.2.2.1
    have e2 : cur (brn P) 2 = cur P 2 := k2.2.2.2.2.2.1
    have e21 : cur P1 2 = cur (brn P) 2 := f1.2.2.2.2.2.1
    simp only
    show O1 c n p P (PZ c n f 1 (mk (some (mk alt u)) t') a g')
    cases hz2 : PZ c n f 1 (mk (some (mk alt u)) t') a g' with
    | inl e =>
      rw [hz2] at h
      exact stuck_tr r0 (stuck_tr r1 h)
    | inr q =>
      obtain ⟨a2, g2, t2⟩ := q
      rw [hz2] at h
      obtain ⟨P2, alt2, u2, r2, l2, m2, s2, n2, it2, b2, f2, g2⟩ := h
      exact ⟨P2, alt2, u2, reach_tr r0 (reach_tr r1 r2), l2, m2, s2, n2, it2, b2, ((k2.le hv23).tr (f1.le (by omega : cur P 2 ≤ cur (brn P) 3)) (Int.le_refl _)).tr f2 (by omega), g2⟩
theorem B0_s (hc : ∀ k, 0 ≤ k → k < n → 0 ≤ c k ∧ c k ≤ 65535) (hn : n ≤ 30) (h2 : B2 c n f) (h1 : B1 c n f) : B0 c n (f + 1) := by
  intro P t p hL h4 hI hp hf hD
  have hp0 := hI.2.2.1
  have hg := g_rg hI
  have hv23 : cur P 2 ≤ cur P 3 := (hI.2.2.2.2.2.2.2.2.1 _ hI.2.2.2.2.1).2.2.2.2.1
  rw [PZ_0]
  have h := h2 P none (.num 0) p hL (fun h => by omega) hI hp (by omega) hD
  have hR := PZ_rg (c := c) (n := n) f 2 (.num 0) p (P.1 14) hp0 hp (by omega) hg.1 hg.2
  cases hz : PZ c n f 2 (.num 0) p (P.1 14) with
  | inl e =>
    rw [hz] at h
    exact h
  | inr q =>
    obtain ⟨a, g', t'⟩ := q
    rw [hz] at h hR
    obtain ⟨P1, r1, l1, n1, it1, f1, g1⟩ := h
    obtain ⟨R1, R2, _, _, R5, _⟩ := hR
    rw [if_pos (by omega)] at R5
    have t00 : tsh (.num 0) = 0 := rfl
    have hI1 := RI_reach hc hn hI r1 R2
    have h := h1 P1 none t' a l1 (by omega) n1 it1 hI1 R2 (by omega) (by have := f1.2.2.2.2.2.2; omega)
    rw [g1] at h
    have e2 : cur P1 2 = cur P 2 := f1.2.2.2.2.2.1
    simp only
    show O1 c n p P (PZ c n f 1 (mk none t') a g')
    cases hz2 : PZ c n f 1 (mk none t') a g' with
    | inl e =>
      rw [hz2] at h
      exact stuck_tr r1 h
    | inr q =>
      obtain ⟨a2, g2, t2⟩ := q
      rw [hz2] at h
      obtain ⟨P2, alt2, u2, r2, l2, m2, s2, n2, it2, b2, f2, g2⟩ := h
      exact ⟨P2, alt2, u2, reach_tr r1 r2, l2, m2, s2, n2, it2, b2, (f1.le hv23).tr f2 (by omega), g2⟩
theorem B_all (hc : ∀ k, 0 ≤ k → k < n → 0 ≤ c k ∧ c k ≤ 65535) (hn : n ≤ 30) : ∀ f : Nat, B0 c n f ∧ B1 c n f ∧ B2 c n f ∧ B3 c n f ∧ B4 c n f := by
  intro f
  induction f with
  | zero =>
    refine ⟨?_, ?_, ?_, ?_, ?_⟩
    · intro P t p hL h4 hI hp hf; omega
    · intro P alt u p hL hu hN hT hI hp hf; omega
    · intro P alt t p hL hN hI hp hf; omega
    · intro P alt u t p hL hI hp hf; omega
    · intro P alt u t p hL hI hp hf; omega
  | succ f ih =>
    obtain ⟨a0, a1, a2, a3, a4⟩ := ih
    exact ⟨B0_s hc hn a2 a1, B1_s hc hn a2 a1, B2_s hc hn a3 a2, B3_s hc hn a4, B4_s hc hn a0⟩
end MOD
