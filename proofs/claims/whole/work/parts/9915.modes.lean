/-! the class's reader: brackets as the reference's -/
section BRC
variable {P P' : RS} {p a n e : Int} {c : Int → Int} {alt : Option RT} {u w : RT}
theorem hr_c (hp : p < n) : hr c n p = c p := if_pos hp
theorem brk_scan : ∀ (f : Nat) (b : Int) (P : RS), 1 ≤ P.1 11 → reach c b P (scn c n f b) (if scn c n f b = b then P else rsN P 11 3) := by
  intro f
  induction f with
  | zero =>
    intro b P h
    show reach c b P b (if b = b then P else _)
    rw [if_pos rfl]
    exact reach_0
  | succ f ih =>
    intro b P h
    unfold scn
    split
    · rename_i hs
      have hb := sgB_in hs
      rw [hr_c hb] at hs
      have hg := (scn_rg (c := c) (n := n) f (b + 1)).1
      have ha : acc P (c b) b = some (rsN P 11 3) := by
        unfold acc
        rw [if_neg (by omega), if_pos hs]
      have := ih (b + 1) (rsN P 11 3) (by show 1 ≤ uN P.1 11 3 11; rw [uN_s]; omega)
      rw [if_neg (by omega)]
      refine reach_tr (reach_1 ha) ?_
      have e3 : rsN (rsN P 11 3) 11 3 = rsN P 11 3 := by
        unfold rsN
        simp (disch := omega) only [uN_s, uN_n, uA_s, uA_n, up_s, up_n, uN_uN, uA_uA]
      rw [e3] at this
      split at this <;> exact this
    · rw [if_pos rfl]
      exact reach_0
/-- what brackets leave alone -/
def Bk (P P' : RS) : Prop := P'.2 = P.2 ∧ ∀ j, j ≠ 11 → j ≠ 12 → j ≠ 13 → P'.1 j = P.1 j
theorem Bk_N {k : Nat} {z : Int} (hk : k = 11 ∨ k = 12 ∨ k = 13) (h : Bk P P') : Bk P (rsN P' k z) := ⟨h.1, fun j a b d => (uN_n (by omega)).trans (h.2 j a b d)⟩
theorem LSt_Bk (h : LSt P alt u) (hb : Bk P P') (h11 : P'.1 11 = 0) : LSt P' alt u := by
  obtain ⟨a1, a2, a3, a4, a5⟩ := h
  obtain ⟨b1, b2⟩ := hb
  unfold LSt ALt LKn cur
  rw [b1, b2 4 (by omega) (by omega) (by omega)]
  exact ⟨h11, a2, a3, a4, a5⟩
theorem brk_ok (hc : ∀ k, 0 ≤ k → k < n → 0 ≤ c k ∧ c k ≤ 65535) (hn : n ≤ 30) (h : LSt P alt u) (hI : RI P p) (hp : p < n) (h91 : hr c n p = 91) {b : Int} (hb : b = if hr c n (p + 1) = 94 then p + 2 else p + 1) {s : Int} (hs : s = scn c n 30 b) : if s = b ∨ hr c n s ≠ 93 then stuck c n p P s else ∃ P', reach c p P (s + 1) P' ∧ ATm P' alt u (.mulL b (.num (if hr c n (p + 1) = 94 then -(s + 1) else s))) ∧ Fr (P.1 4) P P' ∧ P'.1 14 = P.1 14 := by
  have h0 := hI.2.2.1
  rw [hr_c hp] at h91
  have ha : acc P (c p) p = some (opb P p) := by rw [h91]; exact acc_91 h.1
  have kb : Bk P (opb P p) := Bk_N (by omega) (Bk_N (by omega) (Bk_N (by omega) ⟨rfl, fun _ _ _ _ => rfl⟩))
  have o11 : (opb P p).1 11 = 1 := by unfold opb rsN; simp (disch := omega) only [uN_s, uN_n, uA_s, uA_n, up_s, up_n, uN_uN, uA_uA]
  have o12 : (opb P p).1 12 = 1 := by unfold opb rsN; simp (disch := omega) only [uN_s, uN_n, uA_s, uA_n, up_s, up_n, uN_uN, uA_uA]
  have o13 : (opb P p).1 13 = p + 1 := by unfold opb rsN; simp (disch := omega) only [uN_s, uN_n, uA_s, uA_n, up_s, up_n, uN_uN, uA_uA]
  -- where the list starts
  have hst : ∃ Pb, reach c p P b Pb ∧ Bk P Pb ∧ 1 ≤ Pb.1 11 ∧ Pb.1 11 ≤ 2 ∧ (Pb.1 11 = 1 → hr c n b ≠ 94) ∧ (if hr c n (p + 1) = 94 then Pb.1 12 = 0 else Pb.1 12 = 1) ∧ Pb.1 13 = b ∧ b ≤ n ∧ p + 1 ≤ b := by
    by_cases h94 : hr c n (p + 1) = 94
    · rw [if_pos h94] at hb
      have hp1 := hr_in (c := c) (n := n) (p := p + 1) (by omega)
      rw [hr_c hp1] at h94
      have ha2 : acc (opb P p) (c (p + 1)) (p + 1) = some (rsN (rsN (rsN (opb P p) 11 2) 12 0) 13 (p + 1 + 1)) := by
        unfold acc
        rw [h94, if_neg (by omega), if_neg (by decide), if_pos ⟨rfl, o11⟩]
      refine ⟨_, by rw [hb, show p + 2 = p + 1 + 1 by omega]; exact reach_tr (reach_1 ha) (reach_1 ha2), Bk_N (by omega) (Bk_N (by omega) (Bk_N (by omega) kb)), ?_, ?_, ?_, ?_, ?_, by omega, by omega⟩
      · unfold rsN; simp (disch := omega) only [uN_s, uN_n, uA_s, uA_n, up_s, up_n, uN_uN, uA_uA]; omega
      · unfold rsN; simp (disch := omega) only [uN_s, uN_n, uA_s, uA_n, up_s, up_n, uN_uN, uA_uA]; omega
      · unfold rsN; simp (disch := omega) only [uN_s, uN_n, uA_s, uA_n, up_s, up_n, uN_uN, uA_uA]; omega
      · rw [hr_c hp1, if_pos h94]; unfold rsN; simp (disch := omega) only [uN_s, uN_n, uA_s, uA_n, up_s, up_n, uN_uN, uA_uA]
      · unfold rsN; simp (disch := omega) only [uN_s, uN_n, uA_s, uA_n, up_s, up_n, uN_uN, uA_uA]; omega
    · rw [if_neg h94] at hb
      refine ⟨_, by rw [hb]; exact reach_1 ha, kb, by omega, by omega, fun _ => by rw [hb]; exact h94, ?_, by omega, by omega, by omega⟩
      rw [if_neg h94]; exact o12
  obtain ⟨Pb, r1, k1, g1, g2, g3, g4, g5, g6, g7⟩ := hst
  have hsc := brk_scan (c := c) (n := n) 30 b Pb g1
  have hrg := scn_rg (c := c) (n := n) 30 b
  rw [← hs] at hsc hrg
  have hsg := hrg.2.2 (by omega)
  have r2 := reach_tr r1 hsc
  have ks : Bk P (if s = b then Pb else rsN Pb 11 3) := by
    split
    · exact k1
    · exact Bk_N (by omega) k1
  have s12 : (if s = b then Pb else rsN Pb 11 3).1 12 = Pb.1 12 := by
    split
    · rfl
    · unfold rsN; simp (disch := omega) only [uN_s, uN_n, uA_s, uA_n, up_s, up_n, uN_uN, uA_uA]
  have s13 : (if s = b then Pb else rsN Pb 11 3).1 13 = b := by
    split
    · exact g5
    · rw [← g5]; unfold rsN; simp (disch := omega) only [uN_s, uN_n, uA_s, uA_n, up_s, up_n, uN_uN, uA_uA]
  have s11 : (if s = b then Pb else rsN Pb 11 3).1 11 = if s = b then Pb.1 11 else 3 := by
    split
    · rfl
    · unfold rsN; simp (disch := omega) only [uN_s, uN_n, uA_s, uA_n, up_s, up_n, uN_uN, uA_uA]
  have hI2 := RI_reach hc hn hI r2 (by omega)
  generalize (if s = b then Pb else rsN Pb 11 3) = P2 at r2 ks s12 s13 s11 hI2
  have n11 : P2.1 11 ≠ 0 := by rw [s11]; split <;> omega
  split
  · rename_i hbad
    refine ⟨P2, r2, by omega, fun hlt => ?_, fun _ => Or.inl n11⟩
    rw [hr_c hlt] at hsg hbad
    unfold acc
    rw [if_neg n11, if_neg (by rw [hsg]; decide), if_neg, if_neg]
    · rintro ⟨q1, q2⟩
      rw [s11] at q2
      by_cases hsb : s = b
      · rw [if_pos hsb] at q2; omega
      · rcases hbad with hbad | hbad
        · exact hsb hbad
        · exact hbad q1
    · rintro ⟨q1, q2⟩
      rw [s11] at q2
      by_cases hsb : s = b
      · rw [if_pos hsb] at q2
        have := g3 q2
        rw [hsb] at q1 hlt
        rw [hr_c hlt] at this
        exact this q1
      · rw [if_neg hsb] at q2; omega
  · rename_i hok
    have h1 : s ≠ b := fun h => hok (Or.inl h)
    have h93 : hr c n s = 93 := by
      by_cases h : hr c n s = 93
      · exact h
      · exact absurd (Or.inr h) hok
    have hlt := hr_in (c := c) (n := n) (p := s) (by omega)
    rw [hr_c hlt] at h93
    rw [if_neg h1] at s11
    have ha3 : acc P2 (c s) s = some (atm (rsN P2 11 0) (if P2.1 12 = 0 then 4 else 3) (P2.1 13) s) := by
      unfold acc
      rw [if_neg n11, h93, if_neg (by decide), if_neg (by omega), if_pos ⟨rfl, s11⟩]
    have k3 : Bk P (rsN P2 11 0) := Bk_N (by omega) ks
    have hI3 : RI (rsN P2 11 0) s := RI_N hI2 (Or.inl ⟨rfl, by omega, by omega⟩)
    have hL3 : LSt (rsN P2 11 0) alt u := LSt_Bk h k3 (by unfold rsN; simp (disch := omega) only [uN_s, uN_n, uA_s, uA_n, up_s, up_n, uN_uN, uA_uA])
    have e4 : (rsN P2 11 0).1 4 = P.1 4 := k3.2 4 (by omega) (by omega) (by omega)
    obtain ⟨A1, A2, A3⟩ := atm_ok (kk := if P2.1 12 = 0 then 4 else 3) (ff := P2.1 13) (ss := s) (w := .mulL b (.num (if hr c n (p + 1) = 94 then -(s + 1) else s))) hI3 hL3 rfl rfl rfl (fun P' q1 q2 q3 => by
      show if tn (.num (if hr c n (p + 1) = 94 then -(s + 1) else s)) < 0 then _ else _
      have et : tn (.num (if hr c n (p + 1) = 94 then -(s + 1) else s)) = if hr c n (p + 1) = 94 then -(s + 1) else s := rfl
      rw [et]
      by_cases h94 : hr c n (p + 1) = 94
      · rw [if_pos h94] at g4 ⊢
        rw [if_pos (by omega)]
        rw [if_pos (by omega)] at q1
        exact ⟨q1, q2.trans s13, by omega⟩
      · rw [if_neg h94] at g4 ⊢
        rw [if_neg (by omega)]
        rw [if_neg (by omega)] at q1
        exact ⟨q1, q2.trans s13, q3⟩)
    refine ⟨_, reach_tr r2 (reach_1 ha3), A1, ?_, A3.trans (k3.2 14 (by omega) (by omega) (by omega))⟩
    rw [e4] at A2
    obtain ⟨f1, f2, f3, f4, f5, f6, f7⟩ := A2
    have k31 := k3.1
    refine ⟨by rw [f1, k31], by rw [← k31]; exact f2, fun i hi => by rw [f3 i (by rw [k31]; exact hi), k31], fun j hj hl => by rw [f4 j (by rw [k31]; exact hj) (by rw [k31]; exact hl), k31], fun i q1 q2 => ?_, ?_, by rw [f7]; exact k3.2 10 (by omega) (by omega) (by omega)⟩
    · have := f5 i q1 q2
      rw [k31] at this
      exact this
    · rw [f6]
      unfold cur
      rw [k31]
end BRC
