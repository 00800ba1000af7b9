/-! the reader from its first call -/
def PS (c : Int → Int) (n : Int) : Int ⊕ (Int × RT) := match PZ c n 130 0 (.num 0) 0 0 with
  | .inl e => .inl e
  | .inr (a, g, t) => if a < n then .inl a else .inr (g, t)
def PG (S S' : MS) : Prop := (∀ k, k ≠ 17 → k ≠ 18 → k ≠ 24 → k ≠ 25 → S'.1 k = S.1 k) ∧ (∀ j, j < 7 ∨ 11 < j → S'.2 j = S.2 j)
theorem PF.pg {S S' : MS} (h : PF S S') : PG S S' := ⟨h.1, h.2.1⟩
theorem PG.refl (S : MS) : PG S S := ⟨fun _ _ _ _ _ => rfl, fun _ _ => rfl⟩
theorem PG.trans {A B C : MS} (h : PG A B) (h' : PG B C) : PG A C := ⟨fun k a b c d => (h'.1 k a b c d).trans (h.1 k a b c d), fun j a => (h'.2 j a).trans (h.2 j a)⟩
theorem PG_n {S : MS} {k : Nat} {z : Int} (hk : k = 17 ∨ k = 18 ∨ k = 24 ∨ k = 25) : PG S (uN S.1 k z, S.2) := ⟨fun j a b c d => uN_n (by omega), fun _ _ => rfl⟩
def PQ (r : Int ⊕ (Int × RT)) (i : Int) (S' : MS) : Prop := match r with
  | .inl e => S'.1 17 = e ∧ S'.1 18 = 1
  | .inr (g, t) => S'.1 18 = 0 ∧ S'.1 25 = g ∧ i = S'.1 24 - 1 ∧ S'.1 24 ≤ 61 ∧ Nd S'.2 t i
theorem m_parses {X : JX} {M0 : JM} {m d : Nat} {S : MS} {Q : JR → JM → Prop} {c : Int → Int} {n : Int} (hd : 300 ≤ d) (k1 : S.2 6 = c) (k2 : S.1 16 = n) (hn : 0 ≤ n ∧ n ≤ 30) (p13 : ∀ k, 0 ≤ k → k < n → 0 ≤ c k ∧ c k ≤ 65535)
    (hq : ∀ S' i, PG S S' → PQ (PS c n) i S' → Q (.inl (some (.int (ii i)))) (mm M0 m S')) : CC X d 160 [.ref m] (mm M0 m S) Q := by
  repeat' (first | (simp (disch := first | assumption | exact wd_n | exact wd_i | exact wd_r | exact ct_r | exact ct_i | exact stB_0 | exact stB_1 | exact stB_2 | exact stB_3 | exact stB_4 | exact stB_5 | exact ct_2 | exact wd_0 | exact wd_f | omega) only [x160_0, x160_1, x160_2, x160_5, x160_6, x160_7, x160_10, x160_11, x160_12, x160_15, x160_16, x160_17, x160_20, x160_21, x160_24, x160_25, x160_26, x160_29, x160_29b, x160_32, x160_33, x160_36, x160_37, x160_40, x160_43, x160_44, x160_45, x160_48, x160_49, e160, XC_v, XC_s, true_and, and_true, and_self, bq_T, bq_F, yt_s, Bool.false_eq_true, Bool.true_eq_false, mm_cl, mm_1, uN_s, uN_n, uA_s, uA_n, uN_uN, mf_0, mf_1, mf_2, mf_3, mf_4, mf_5, mf_6, mf_7, mf_8, mf_9, mf_10, mf_11, mf_12, mf_13, mf_14, mf_15, mf_16, mf_17, mf_18, mf_19, mf_20, mf_21, mf_22, mf_23, mf_24, mf_25, mf_26, mf_27, mf_28, mf_29, mf_30, mf_31, mf_32, mf_33, mf_34, mf_35, mf_36, mf_37, mf_38, mf_39, mf_40, ms_3, ms_4, ms_5, ms_7, ms_9, ms_10, ms_11, ms_12, ms_14, ms_16, ms_17, ms_18, ms_24, ms_25, ms_29, ms_34, ms_35, ms_38, ma_0, ma_1, ma_2, ma_3, ma_4, ma_5, ma_6, ma_7, ma_8, ma_9, ma_10, ma_11, ma_12, ma_13, ma_14, ma_15, ma_16, ma_17, ma_18, ma_19, ma_20, ma_21, ma_22, mw_0, mw_1, mw_2, mw_3, mw_4, mw_5, mw_6, mw_7, mw_8, mw_9, mw_10, mw_11, mw_12, mw_13, mw_14, mw_15, mw_16, mw_17, mw_18, mw_19, mw_20, mw_21, mw_22]) | (refine bq_t (by omega) ?_) | (refine bq_f (by omega) ?_) | fail)
  generalize hS1 : ((uN (uN (uN (uN S.1 17 0) 24 0) 25 0) 18 0, S.2) : MS) = S1
  have hP : Pre S1 c n 0 0 := by
    subst hS1
    have e : ∀ j, j ≠ 17 → j ≠ 24 → j ≠ 25 → j ≠ 18 → uN (uN (uN (uN S.1 17 0) 24 0) 25 0) 18 0 j = S.1 j := fun j a b c d => (uN_n d).trans ((uN_n c).trans ((uN_n b).trans (uN_n a)))
    have e17 : uN (uN (uN (uN S.1 17 0) 24 0) 25 0) 18 0 17 = 0 := (uN_n (by omega)).trans ((uN_n (by omega)).trans ((uN_n (by omega)).trans uN_s))
    have e24 : uN (uN (uN (uN S.1 17 0) 24 0) 25 0) 18 0 24 = 0 := (uN_n (by omega)).trans ((uN_n (by omega)).trans uN_s)
    have e25 : uN (uN (uN (uN S.1 17 0) 24 0) 25 0) 18 0 25 = 0 := (uN_n (by omega)).trans uN_s
    exact ⟨k1, (e 16 (by omega) (by omega) (by omega) (by omega)).trans k2, e17, at_s (S := (uN (uN (uN S.1 17 0) 24 0) 25 0, S.2)), e25, by omega, by omega, by omega, by omega, by omega, by show 0 ≤ uN (uN (uN (uN S.1 17 0) 24 0) 25 0) 18 0 24; omega, by show uN (uN (uN (uN S.1 17 0) 24 0) 25 0) 18 0 24 + _ ≤ _; omega, p13⟩
  have h24 : S1.1 24 = 0 := by
    subst hS1
    show uN (uN (uN (uN S.1 17 0) 24 0) 25 0) 18 0 24 = 0
    exact (uN_n (by omega)).trans ((uN_n (by omega)).trans uN_s)
  have hPG : PG S S1 := by
    subst hS1
    exact (((PG_n (S := S) (k := 17) (z := 0) (by omega)).trans (PG_n (k := 24) (z := 0) (by omega))).trans (PG_n (k := 25) (z := 0) (by omega))).trans (PG_n (k := 18) (z := 0) (by omega))
  clear hS1
  have hA := (mparse (X := X) (M0 := M0) (m := m) 130).1
  refine hA (d - 1) S1 _ c n 0 0 (.num 0) (by omega) hP (by omega) (by omega) (fun S' i hpo => ?_)
  have hR := PZ_rg (c := c) (n := n) 130 0 (.num 0) 0 0 (by omega) (by omega) (by omega) (by omega) (by omega)
  have hk2 : S1.1 16 = n := hP.2.1
  unfold PS at hq
  cases hr1 : PZ c n 130 0 (.num 0) 0 0 with
  | inl e =>
    rw [hr1] at hpo hq
    obtain ⟨hpf, h17, h18⟩ := hpo
    repeat' (first | (simp (disch := first | assumption | exact wd_n | exact wd_i | exact wd_r | exact ct_r | exact ct_i | exact stB_0 | exact stB_1 | exact stB_2 | exact stB_3 | exact stB_4 | exact stB_5 | exact ct_2 | exact wd_0 | exact wd_f | omega) only [x160_0, x160_1, x160_2, x160_5, x160_6, x160_7, x160_10, x160_11, x160_12, x160_15, x160_16, x160_17, x160_20, x160_21, x160_24, x160_25, x160_26, x160_29, x160_29b, x160_32, x160_33, x160_36, x160_37, x160_40, x160_43, x160_44, x160_45, x160_48, x160_49, e160, XC_v, XC_s, true_and, and_true, and_self, bq_T, bq_F, yt_s, Bool.false_eq_true, Bool.true_eq_false, mm_cl, mm_1, uN_s, uN_n, uA_s, uA_n, uN_uN, mf_0, mf_1, mf_2, mf_3, mf_4, mf_5, mf_6, mf_7, mf_8, mf_9, mf_10, mf_11, mf_12, mf_13, mf_14, mf_15, mf_16, mf_17, mf_18, mf_19, mf_20, mf_21, mf_22, mf_23, mf_24, mf_25, mf_26, mf_27, mf_28, mf_29, mf_30, mf_31, mf_32, mf_33, mf_34, mf_35, mf_36, mf_37, mf_38, mf_39, mf_40, ms_3, ms_4, ms_5, ms_7, ms_9, ms_10, ms_11, ms_12, ms_14, ms_16, ms_17, ms_18, ms_24, ms_25, ms_29, ms_34, ms_35, ms_38, ma_0, ma_1, ma_2, ma_3, ma_4, ma_5, ma_6, ma_7, ma_8, ma_9, ma_10, ma_11, ma_12, ma_13, ma_14, ma_15, ma_16, ma_17, ma_18, ma_19, ma_20, ma_21, ma_22, mw_0, mw_1, mw_2, mw_3, mw_4, mw_5, mw_6, mw_7, mw_8, mw_9, mw_10, mw_11, mw_12, mw_13, mw_14, mw_15, mw_16, mw_17, mw_18, mw_19, mw_20, mw_21, mw_22, h18]) | (refine bq_t (by omega) ?_) | (refine bq_f (by omega) ?_) | fail)
    exact hq S' i (hPG.trans hpf.pg) ⟨h17, h18⟩
  | inr q =>
    obtain ⟨a, g', t'⟩ := q
    rw [hr1] at hpo hq hR
    obtain ⟨hpf, h17, h25, h18, hi', hn', hN'⟩ := hpo
    obtain ⟨r1, r2, r3, r4, r5, r6⟩ := hR
    have k16 : S'.1 16 = n := (hpf.1 16 (by omega) (by omega) (by omega) (by omega)).trans hk2
    simp only at hq
    by_cases ha : a < n
    · rw [if_pos ha] at hq
      repeat' (first | (simp (disch := first | assumption | exact wd_n | exact wd_i | exact wd_r | exact ct_r | exact ct_i | exact stB_0 | exact stB_1 | exact stB_2 | exact stB_3 | exact stB_4 | exact stB_5 | exact ct_2 | exact wd_0 | exact wd_f | omega) only [x160_0, x160_1, x160_2, x160_5, x160_6, x160_7, x160_10, x160_11, x160_12, x160_15, x160_16, x160_17, x160_20, x160_21, x160_24, x160_25, x160_26, x160_29, x160_29b, x160_32, x160_33, x160_36, x160_37, x160_40, x160_43, x160_44, x160_45, x160_48, x160_49, e160, XC_v, XC_s, true_and, and_true, and_self, bq_T, bq_F, yt_s, Bool.false_eq_true, Bool.true_eq_false, mm_cl, mm_1, uN_s, uN_n, uA_s, uA_n, uN_uN, mf_0, mf_1, mf_2, mf_3, mf_4, mf_5, mf_6, mf_7, mf_8, mf_9, mf_10, mf_11, mf_12, mf_13, mf_14, mf_15, mf_16, mf_17, mf_18, mf_19, mf_20, mf_21, mf_22, mf_23, mf_24, mf_25, mf_26, mf_27, mf_28, mf_29, mf_30, mf_31, mf_32, mf_33, mf_34, mf_35, mf_36, mf_37, mf_38, mf_39, mf_40, ms_3, ms_4, ms_5, ms_7, ms_9, ms_10, ms_11, ms_12, ms_14, ms_16, ms_17, ms_18, ms_24, ms_25, ms_29, ms_34, ms_35, ms_38, ma_0, ma_1, ma_2, ma_3, ma_4, ma_5, ma_6, ma_7, ma_8, ma_9, ma_10, ma_11, ma_12, ma_13, ma_14, ma_15, ma_16, ma_17, ma_18, ma_19, ma_20, ma_21, ma_22, mw_0, mw_1, mw_2, mw_3, mw_4, mw_5, mw_6, mw_7, mw_8, mw_9, mw_10, mw_11, mw_12, mw_13, mw_14, mw_15, mw_16, mw_17, mw_18, mw_19, mw_20, mw_21, mw_22, h18, h17, k16]) | (refine bq_t (by omega) ?_) | (refine bq_f (by omega) ?_) | fail)
      exact hq _ i ((hPG.trans hpf.pg).trans (PG_n (by omega))) ⟨(at_n (by omega)).trans h17, at_s⟩
    · rw [if_neg ha] at hq
      repeat' (first | (simp (disch := first | assumption | exact wd_n | exact wd_i | exact wd_r | exact ct_r | exact ct_i | exact stB_0 | exact stB_1 | exact stB_2 | exact stB_3 | exact stB_4 | exact stB_5 | exact ct_2 | exact wd_0 | exact wd_f | omega) only [x160_0, x160_1, x160_2, x160_5, x160_6, x160_7, x160_10, x160_11, x160_12, x160_15, x160_16, x160_17, x160_20, x160_21, x160_24, x160_25, x160_26, x160_29, x160_29b, x160_32, x160_33, x160_36, x160_37, x160_40, x160_43, x160_44, x160_45, x160_48, x160_49, e160, XC_v, XC_s, true_and, and_true, and_self, bq_T, bq_F, yt_s, Bool.false_eq_true, Bool.true_eq_false, mm_cl, mm_1, uN_s, uN_n, uA_s, uA_n, uN_uN, mf_0, mf_1, mf_2, mf_3, mf_4, mf_5, mf_6, mf_7, mf_8, mf_9, mf_10, mf_11, mf_12, mf_13, mf_14, mf_15, mf_16, mf_17, mf_18, mf_19, mf_20, mf_21, mf_22, mf_23, mf_24, mf_25, mf_26, mf_27, mf_28, mf_29, mf_30, mf_31, mf_32, mf_33, mf_34, mf_35, mf_36, mf_37, mf_38, mf_39, mf_40, ms_3, ms_4, ms_5, ms_7, ms_9, ms_10, ms_11, ms_12, ms_14, ms_16, ms_17, ms_18, ms_24, ms_25, ms_29, ms_34, ms_35, ms_38, ma_0, ma_1, ma_2, ma_3, ma_4, ma_5, ma_6, ma_7, ma_8, ma_9, ma_10, ma_11, ma_12, ma_13, ma_14, ma_15, ma_16, ma_17, ma_18, ma_19, ma_20, ma_21, ma_22, mw_0, mw_1, mw_2, mw_3, mw_4, mw_5, mw_6, mw_7, mw_8, mw_9, mw_10, mw_11, mw_12, mw_13, mw_14, mw_15, mw_16, mw_17, mw_18, mw_19, mw_20, mw_21, mw_22, h18, h17, k16]) | (refine bq_t (by omega) ?_) | (refine bq_f (by omega) ?_) | fail)
      exact hq _ i (hPG.trans hpf.pg) ⟨h18, h25, hi', by omega, hN'⟩
/-- measures of what is read: at most K for each character -/
def MuOk (K : Int) (u : RT → Int) : Prop := (∀ t, 0 ≤ u t) ∧ u (.num 0) = 0 ∧ (∀ c, u (.num c) ≤ K) ∧ (∀ a b, u (.add a b) ≤ u a + u b) ∧ (∀ a b, u (.sub a b) ≤ u a + u b + K) ∧ (∀ a, u (.neg a) ≤ u a + K) ∧ (∀ b e, u (.mulL b e) ≤ 2 * K) ∧ (∀ a, u (.mulR a 0) ≤ u a + K) ∧ (∀ a, u (.mulR a (-1)) ≤ u a + K) ∧ (∀ a k, 1 ≤ k → u (.mulR a k) ≤ u a + 2 * K)
theorem PZ_mu {c : Int → Int} {n K : Int} {u : RT → Int} (hK : 0 ≤ K) (hu : MuOk K u) : ∀ (f mo : Nat) (t : RT) (p g a g' : Int) (t' : RT), 0 ≤ p → p ≤ n → (3 ≤ mo → p < n) → 0 ≤ g → g ≤ 5 → PZ c n f mo t p g = .inr (a, g', t') → u t' ≤ (if mo = 1 ∨ mo = 2 then u t else 0) + K * (a - p) := by
  obtain ⟨u0, u1, u2, u3, u4, u5, u6, u7, u8, u9⟩ := hu
  have mulm : ∀ x y : Int, x ≤ y → K * x ≤ K * y := fun x y h => Int.mul_le_mul_of_nonneg_left h hK
  intro f
  induction f with
  | zero => intro mo t p g a g' t' h1 h2 h3 h4 h5 h; cases h
  | succ f ih =>
    intro mo t p g a g' t' h1 h2 h3 h4 h5 h
    unfold PZ at h
    rcases mo with _ | _ | _ | _ | mo
    · simp only at h
      have i1 := PZ_rg (c := c) (n := n) f 2 (.num 0) p g h1 h2 (by omega) h4 h5
      cases hr1 : PZ c n f 2 (.num 0) p g with
      | inl e => rw [hr1] at h; cases h
      | inr q =>
        obtain ⟨b, g1, t1⟩ := q
        rw [hr1] at h i1
        obtain ⟨j1, j2, j3, j4, j5, _⟩ := i1
        have k1 := ih 2 (.num 0) p g b g1 t1 h1 h2 (by omega) h4 h5 hr1
        have k2 := ih 1 t1 b g1 a g' t' (by omega) j2 (by omega) (by omega) j4 h
        rw [if_pos (by omega)] at k1 k2
        rw [if_neg (by omega)]
        have : K * (a - p) = K * (a - b) + K * (b - p) := by rw [← Int.mul_add]; congr 1; omega
        omega
    · simp only at h
      split at h
      · rename_i hc
        have hp := hr_in (c := c) (n := n) (p := p) (by omega)
        have i1 := PZ_rg (c := c) (n := n) f 2 (.num 0) (p + 1) g (by omega) (by omega) (by omega) h4 h5
        cases hr1 : PZ c n f 2 (.num 0) (p + 1) g with
        | inl e => rw [hr1] at h; cases h
        | inr q =>
          obtain ⟨b, g1, t1⟩ := q
          rw [hr1] at h i1
          obtain ⟨j1, j2, j3, j4, j5, _⟩ := i1
          have k1 := ih 2 (.num 0) (p + 1) g b g1 t1 (by omega) (by omega) (by omega) h4 h5 hr1
          have k2 := ih 1 (.sub t t1) b g1 a g' t' (by omega) j2 (by omega) (by omega) j4 h
          rw [if_pos (by omega)] at k1 k2
          rw [if_pos (by omega)]
          have e : K * (a - p) = K * (a - b) + (K * (b - (p + 1)) + K) := by
            rw [show a - p = (a - b) + ((b - (p + 1)) + 1) by omega, Int.mul_add, Int.mul_add, Int.mul_one]
          have := u4 t t1
          omega
      · cases h
        rw [if_pos (by omega), Int.sub_self, Int.mul_zero]; omega
    · simp only at h
      split at h
      · rename_i hc
        have hp : p < n := by
          rcases hc with hc | hc
          · exact sgB_in hc
          · exact hr_in (c := c) (n := n) (p := p) (by omega)
        have i1 := PZ_rg (c := c) (n := n) f 3 t p g h1 h2 (fun _ => hp) h4 h5
        cases hr1 : PZ c n f 3 t p g with
        | inl e => rw [hr1] at h; cases h
        | inr q =>
          obtain ⟨b, g1, t1⟩ := q
          rw [hr1] at h i1
          obtain ⟨j1, j2, j3, j4, j5, j6⟩ := i1
          have k1 := ih 3 t p g b g1 t1 h1 h2 (fun _ => hp) h4 h5 hr1
          have k2 := ih 2 (.add t t1) b g1 a g' t' (by omega) j2 (by omega) (by omega) j4 h
          rw [if_neg (by omega)] at k1
          rw [if_pos (by omega)] at k2
          rw [if_pos (by omega)]
          have : K * (a - p) = K * (a - b) + K * (b - p) := by rw [← Int.mul_add]; congr 1; omega
          have := u3 t t1
          omega
      · cases h
        rw [if_pos (by omega), Int.sub_self, Int.mul_zero]; omega
    · simp only at h
      have i1 := PZ_rg (c := c) (n := n) f 4 t p g h1 h2 (fun _ => h3 (by omega)) h4 h5
      cases hr1 : PZ c n f 4 t p g with
      | inl e => rw [hr1] at h; cases h
      | inr q =>
        obtain ⟨b, g1, t1⟩ := q
        rw [hr1] at h i1
        have k1 := ih 4 t p g b g1 t1 h1 h2 (fun _ => h3 (by omega)) h4 h5 hr1
        rw [if_neg (by omega)] at k1
        have e : K * (b + 1 - p) = K * (b - p) + K := by rw [show b + 1 - p = (b - p) + 1 by omega, Int.mul_add, Int.mul_one]
        simp only at h
        rw [if_neg (by omega)]
        split at h
        · cases h; have := u8 t1; omega
        · split at h
          · cases h; omega
          · split at h
            · cases h
            · cases h
              split
              · have := u5 t1; omega
              · have := u7 t1; omega
    · simp only at h
      have hp := h3 (by omega)
      rw [if_neg (by omega)]
      split at h
      · split at h
        · cases h
        · rename_i hg
          have i1 := PZ_rg (c := c) (n := n) f 0 t (p + 1) (g + 1) (by omega) (by omega) (by omega) (by omega) (by omega)
          cases hr1 : PZ c n f 0 t (p + 1) (g + 1) with
          | inl e => rw [hr1] at h; cases h
          | inr q =>
            obtain ⟨b, g1, t1⟩ := q
            rw [hr1] at h i1
            have k1 := ih 0 t (p + 1) (g + 1) b g1 t1 (by omega) (by omega) (by omega) (by omega) (by omega) hr1
            rw [if_neg (by omega)] at k1
            simp only at h
            split at h
            · cases h
              have := u9 t1 (g + 1) (by omega)
              have e : K * (b + 1 - p) = K * (b - (p + 1)) + 2 * K := by rw [show b + 1 - p = (b - (p + 1)) + 2 by omega, Int.mul_add, Int.mul_comm K 2]
              omega
            · cases h
      · split at h
        · have hb2 : p + 1 ≤ (if hr c n (p + 1) = 94 then p + 2 else p + 1) := by split <;> omega
          generalize (if hr c n (p + 1) = 94 then p + 2 else p + 1) = b at hb2 h
          have hs := scn_rg (c := c) (n := n) 30 b
          split at h
          · cases h
          · cases h
            have := u6 b (.num (if hr c n (p + 1) = 94 then -(scn c n 30 b + 1) else scn c n 30 b))
            have e := mulm 2 (scn c n 30 b + 1 - p) (by omega)
            rw [Int.mul_comm K 2] at e
            omega
        · cases h
          have e : K * (p + 1 - p) = K := by rw [show p + 1 - p = 1 by omega, Int.mul_one]
          split
          · have := u2 1; omega
          · have := u2 (hr c n p); omega
