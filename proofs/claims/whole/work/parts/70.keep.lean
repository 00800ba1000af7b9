/-! the reference's changes: what is kept -/
def PSc : List Nat := [3, 4, 7, 9, 10, 11, 12, 14]
/-- all but these of the lasting fields stay -/
def EX (ks js : List Nat) (S S' : MS) : Prop := (∀ k, k ∈ PSc → k ∉ ks → S'.1 k = S.1 k) ∧ (∀ j, j ≤ 5 → j ∉ js → S'.2 j = S.2 j)
theorem EX.refl (ks js : List Nat) (S : MS) : EX ks js S S := ⟨fun _ _ _ => rfl, fun _ _ _ => rfl⟩
theorem EX.trans {ks js : List Nat} {A B C : MS} (h : EX ks js A B) (h' : EX ks js B C) : EX ks js A C := ⟨fun k a b => (h'.1 k a b).trans (h.1 k a b), fun j a b => (h'.2 j a b).trans (h.2 j a b)⟩
theorem EX.w {ks js ks' js' : List Nat} {A B : MS} (h : EX ks js A B) (h1 : ∀ k, k ∈ ks → k ∈ ks') (h2 : ∀ k, k ∈ js → k ∈ js') : EX ks' js' A B := ⟨fun k a b => h.1 k a (fun q => b (h1 k q)), fun j a b => h.2 j a (fun q => b (h2 j q))⟩
theorem EX_n {ks js : List Nat} {S S' : MS} {k : Nat} {z : Int} (h : EX ks js S S') (hk : k ∈ ks ∨ k ∉ PSc) : EX ks js S (uN S'.1 k z, S'.2) := by
  refine ⟨fun j a b => ?_, h.2⟩
  have : j ≠ k := fun q => by rcases hk with hk | hk; exact b (q ▸ hk); exact hk (q ▸ a)
  exact (uN_n this).trans (h.1 j a b)
theorem EX_a {ks js : List Nat} {S S' : MS} {k : Nat} {c : Int → Int} (h : EX ks js S S') (hk : k ∈ js ∨ 5 < k) : EX ks js S (S'.1, uA S'.2 k c) := by
  refine ⟨h.1, fun j a b => ?_⟩
  have : j ≠ k := fun q => by rcases hk with hk | hk; exact b (q ▸ hk); omega
  exact (uA_n this).trans (h.2 j a b)
theorem RF.ex {S S' : MS} (h : RF S S') (ks js : List Nat) : EX ks js S S' := by
  refine ⟨fun k a _ => h.1 k ?_, fun j a _ => h.2 j (Or.inl a)⟩
  unfold PSc at a
  simp only [List.mem_cons, List.not_mem_nil, or_false] at a
  exact a
theorem PG.ex {S S' : MS} (h : PG S S') (ks js : List Nat) : EX ks js S S' := by
  refine ⟨fun k a _ => ?_, fun j a _ => h.2 j (by omega)⟩
  unfold PSc at a
  simp only [List.mem_cons, List.not_mem_nil, or_false] at a
  exact h.1 k (by omega) (by omega) (by omega) (by omega)
theorem uA_id {s : Nat → Int → Int} {k : Nat} : uA s k (s k) = s := by
  funext j
  unfold uA
  split
  · rename_i h; rw [h]
  · rfl
section CPY
variable {X : JX} {M0 : JM} {m d : Nat} {S : MS} {Q : JR → JM → Prop}
theorem m_copies01L {o : Int} (ho : 0 ≤ o ∧ o ≤ 1162) : ∀ (f : Nat) (S1 : MS) (k : Int), 0 ≤ k → k ≤ 166 → 166 - k ≤ f → (∀ c', (∀ j, k ≤ j → j < 166 → c' (o + j) = S1.2 0 (0 + j)) → (∀ j, j < o + k ∨ o + 166 ≤ j → c' j = S1.2 1 j) → Q (.inl none) (mm M0 m (S1.1, uA S1.2 1 c'))) → XX X d 148 (3, [some (.ref (m + 1)), some (.int (ii 0)), some (.ref (m + 2)), some (.int (ii o)), some (.int (ii k))], [], mm M0 m S1) Q := by
  intro f
  induction f with
  | zero =>
    intro S1 k h0 h1 hf hq
    rw [x148_3]
    repeat' (first | (simp (disch := first | assumption | exact wd_n | exact wd_i | exact wd_r | exact ct_r | exact ct_i | exact stB_0 | exact stB_1 | exact stB_2 | exact stB_3 | exact stB_4 | exact stB_5 | exact ct_2 | exact b2i_c _ | exact wd_0 | exact wd_f | omega) only [x148_0, x148_1, x148_5, x148_8, x148_11, x148_12, x148_13, x148_15, x148_16, x148_17, x148_18, x148_20, x148_21, x148_22, x148_23, x148_26, x148_29, e148, XC_v, XC_s, true_and, and_true, and_self, bq_T, bq_F, yt_s, Bool.false_eq_true, Bool.true_eq_false, mm_cl, mm_1, uN_s, uN_n, uA_s, uA_n, uN_uN, mf_0, mf_1, mf_2, mf_3, mf_4, mf_5, mf_6, mf_7, mf_8, mf_9, mf_10, mf_11, mf_12, mf_13, mf_14, mf_15, mf_16, mf_17, mf_18, mf_19, mf_20, mf_21, mf_22, mf_23, mf_24, mf_25, mf_26, mf_27, mf_28, mf_29, mf_30, mf_31, mf_32, mf_33, mf_34, mf_35, mf_36, mf_37, mf_38, mf_39, mf_40, ms_3, ms_4, ms_5, ms_7, ms_9, ms_10, ms_11, ms_12, ms_14, ms_16, ms_17, ms_18, ms_24, ms_25, ms_29, ms_34, ms_35, ms_38, ma_0, ma_1, ma_2, ma_3, ma_4, ma_5, ma_6, ma_7, ma_8, ma_9, ma_10, ma_11, ma_12, ma_13, ma_14, ma_15, ma_16, ma_17, ma_18, ma_19, ma_20, ma_21, ma_22, mw_0, mw_1, mw_2, mw_3, mw_4, mw_5, mw_6, mw_7, mw_8, mw_9, mw_10, mw_11, mw_12, mw_13, mw_14, mw_15, mw_16, mw_17, mw_18, mw_19, mw_20, mw_21, mw_22]) | (refine bq_t (by omega) ?_) | (refine bq_f (by omega) ?_) | fail)
    have := hq (S1.2 1) (fun j a b => by omega) (fun _ _ => rfl)
    rw [uA_id] at this
    exact this
  | succ f ih =>
    intro S1 k h0 h1 hf hq
    rw [x148_3]
    by_cases hk : k < 166
    · repeat' (first | (simp (disch := first | assumption | exact wd_n | exact wd_i | exact wd_r | exact ct_r | exact ct_i | exact stB_0 | exact stB_1 | exact stB_2 | exact stB_3 | exact stB_4 | exact stB_5 | exact ct_2 | exact b2i_c _ | exact wd_0 | exact wd_f | omega) only [x148_0, x148_1, x148_5, x148_8, x148_11, x148_12, x148_13, x148_15, x148_16, x148_17, x148_18, x148_20, x148_21, x148_22, x148_23, x148_26, x148_29, e148, XC_v, XC_s, true_and, and_true, and_self, bq_T, bq_F, yt_s, Bool.false_eq_true, Bool.true_eq_false, mm_cl, mm_1, uN_s, uN_n, uA_s, uA_n, uN_uN, mf_0, mf_1, mf_2, mf_3, mf_4, mf_5, mf_6, mf_7, mf_8, mf_9, mf_10, mf_11, mf_12, mf_13, mf_14, mf_15, mf_16, mf_17, mf_18, mf_19, mf_20, mf_21, mf_22, mf_23, mf_24, mf_25, mf_26, mf_27, mf_28, mf_29, mf_30, mf_31, mf_32, mf_33, mf_34, mf_35, mf_36, mf_37, mf_38, mf_39, mf_40, ms_3, ms_4, ms_5, ms_7, ms_9, ms_10, ms_11, ms_12, ms_14, ms_16, ms_17, ms_18, ms_24, ms_25, ms_29, ms_34, ms_35, ms_38, ma_0, ma_1, ma_2, ma_3, ma_4, ma_5, ma_6, ma_7, ma_8, ma_9, ma_10, ma_11, ma_12, ma_13, ma_14, ma_15, ma_16, ma_17, ma_18, ma_19, ma_20, ma_21, ma_22, mw_0, mw_1, mw_2, mw_3, mw_4, mw_5, mw_6, mw_7, mw_8, mw_9, mw_10, mw_11, mw_12, mw_13, mw_14, mw_15, mw_16, mw_17, mw_18, mw_19, mw_20, mw_21, mw_22]) | (refine bq_t (by omega) ?_) | (refine bq_f (by omega) ?_) | fail)
      refine ih _ (k + 1) (by omega) (by omega) (by omega) (fun c' hc1 hc2 => ?_)
      rw [uA_uA]
      refine hq c' (fun j a b => ?_) (fun j a => ?_)
      · by_cases hj : j = k
        · rw [hj, hc2 (o + k) (by omega)]
          simp (disch := omega) only [uN_s, uN_n, uA_s, uA_n, up_s, up_n, uN_uN, uA_uA]
        · rw [hc1 j (by omega) b]
          simp (disch := omega) only [uN_s, uN_n, uA_s, uA_n, up_s, up_n, uN_uN, uA_uA]
      · rw [hc2 j (by omega)]
        simp (disch := omega) only [uN_s, uN_n, uA_s, uA_n, up_s, up_n, uN_uN, uA_uA]
    · repeat' (first | (simp (disch := first | assumption | exact wd_n | exact wd_i | exact wd_r | exact ct_r | exact ct_i | exact stB_0 | exact stB_1 | exact stB_2 | exact stB_3 | exact stB_4 | exact stB_5 | exact ct_2 | exact b2i_c _ | exact wd_0 | exact wd_f | omega) only [x148_0, x148_1, x148_5, x148_8, x148_11, x148_12, x148_13, x148_15, x148_16, x148_17, x148_18, x148_20, x148_21, x148_22, x148_23, x148_26, x148_29, e148, XC_v, XC_s, true_and, and_true, and_self, bq_T, bq_F, yt_s, Bool.false_eq_true, Bool.true_eq_false, mm_cl, mm_1, uN_s, uN_n, uA_s, uA_n, uN_uN, mf_0, mf_1, mf_2, mf_3, mf_4, mf_5, mf_6, mf_7, mf_8, mf_9, mf_10, mf_11, mf_12, mf_13, mf_14, mf_15, mf_16, mf_17, mf_18, mf_19, mf_20, mf_21, mf_22, mf_23, mf_24, mf_25, mf_26, mf_27, mf_28, mf_29, mf_30, mf_31, mf_32, mf_33, mf_34, mf_35, mf_36, mf_37, mf_38, mf_39, mf_40, ms_3, ms_4, ms_5, ms_7, ms_9, ms_10, ms_11, ms_12, ms_14, ms_16, ms_17, ms_18, ms_24, ms_25, ms_29, ms_34, ms_35, ms_38, ma_0, ma_1, ma_2, ma_3, ma_4, ma_5, ma_6, ma_7, ma_8, ma_9, ma_10, ma_11, ma_12, ma_13, ma_14, ma_15, ma_16, ma_17, ma_18, ma_19, ma_20, ma_21, ma_22, mw_0, mw_1, mw_2, mw_3, mw_4, mw_5, mw_6, mw_7, mw_8, mw_9, mw_10, mw_11, mw_12, mw_13, mw_14, mw_15, mw_16, mw_17, mw_18, mw_19, mw_20, mw_21, mw_22]) | (refine bq_t (by omega) ?_) | (refine bq_f (by omega) ?_) | fail)
      have := hq (S1.2 1) (fun j a b => by omega) (fun _ _ => rfl)
      rw [uA_id] at this
      exact this
theorem m_copies01 {o : Int} (ho : 0 ≤ o ∧ o ≤ 1162) (hq : ∀ c', (∀ j, 0 ≤ j → j < 166 → c' (o + j) = S.2 0 (0 + j)) → (∀ j, j < o ∨ o + 166 ≤ j → c' j = S.2 1 j) → Q (.inl none) (mm M0 m (S.1, uA S.2 1 c'))) : CC X d 148 [.ref (m + 1), .int (ii 0), .ref (m + 2), .int (ii o)] (mm M0 m S) Q := by
  repeat' (first | (simp (disch := first | assumption | exact wd_n | exact wd_i | exact wd_r | exact ct_r | exact ct_i | exact stB_0 | exact stB_1 | exact stB_2 | exact stB_3 | exact stB_4 | exact stB_5 | exact ct_2 | exact b2i_c _ | exact wd_0 | exact wd_f | omega) only [x148_0, x148_1, x148_5, x148_8, x148_11, x148_12, x148_13, x148_15, x148_16, x148_17, x148_18, x148_20, x148_21, x148_22, x148_23, x148_26, x148_29, e148, XC_v, XC_s, true_and, and_true, and_self, bq_T, bq_F, yt_s, Bool.false_eq_true, Bool.true_eq_false, mm_cl, mm_1, uN_s, uN_n, uA_s, uA_n, uN_uN, mf_0, mf_1, mf_2, mf_3, mf_4, mf_5, mf_6, mf_7, mf_8, mf_9, mf_10, mf_11, mf_12, mf_13, mf_14, mf_15, mf_16, mf_17, mf_18, mf_19, mf_20, mf_21, mf_22, mf_23, mf_24, mf_25, mf_26, mf_27, mf_28, mf_29, mf_30, mf_31, mf_32, mf_33, mf_34, mf_35, mf_36, mf_37, mf_38, mf_39, mf_40, ms_3, ms_4, ms_5, ms_7, ms_9, ms_10, ms_11, ms_12, ms_14, ms_16, ms_17, ms_18, ms_24, ms_25, ms_29, ms_34, ms_35, ms_38, ma_0, ma_1, ma_2, ma_3, ma_4, ma_5, ma_6, ma_7, ma_8, ma_9, ma_10, ma_11, ma_12, ma_13, ma_14, ma_15, ma_16, ma_17, ma_18, ma_19, ma_20, ma_21, ma_22, mw_0, mw_1, mw_2, mw_3, mw_4, mw_5, mw_6, mw_7, mw_8, mw_9, mw_10, mw_11, mw_12, mw_13, mw_14, mw_15, mw_16, mw_17, mw_18, mw_19, mw_20, mw_21, mw_22]) | (refine bq_t (by omega) ?_) | (refine bq_f (by omega) ?_) | fail)
  exact m_copies01L ho 166 S 0 (by omega) (by omega) (by omega) (fun c' h1 h2 => hq c' h1 (fun j a => h2 j (by omega)))
theorem m_copies10L {o : Int} (ho : 0 ≤ o ∧ o ≤ 1162) : ∀ (f : Nat) (S1 : MS) (k : Int), 0 ≤ k → k ≤ 166 → 166 - k ≤ f → (∀ c', (∀ j, k ≤ j → j < 166 → c' (0 + j) = S1.2 1 (o + j)) → (∀ j, j < 0 + k ∨ 0 + 166 ≤ j → c' j = S1.2 0 j) → Q (.inl none) (mm M0 m (S1.1, uA S1.2 0 c'))) → XX X d 148 (3, [some (.ref (m + 2)), some (.int (ii o)), some (.ref (m + 1)), some (.int (ii 0)), some (.int (ii k))], [], mm M0 m S1) Q := by
  intro f
  induction f with
  | zero =>
    intro S1 k h0 h1 hf hq
    rw [x148_3]
    repeat' (first | (simp (disch := first | assumption | exact wd_n | exact wd_i | exact wd_r | exact ct_r | exact ct_i | exact stB_0 | exact stB_1 | exact stB_2 | exact stB_3 | exact stB_4 | exact stB_5 | exact ct_2 | exact b2i_c _ | exact wd_0 | exact wd_f | omega) only [x148_0, x148_1, x148_5, x148_8, x148_11, x148_12, x148_13, x148_15, x148_16, x148_17, x148_18, x148_20, x148_21, x148_22, x148_23, x148_26, x148_29, e148, XC_v, XC_s, true_and, and_true, and_self, bq_T, bq_F, yt_s, Bool.false_eq_true, Bool.true_eq_false, mm_cl, mm_1, uN_s, uN_n, uA_s, uA_n, uN_uN, mf_0, mf_1, mf_2, mf_3, mf_4, mf_5, mf_6, mf_7, mf_8, mf_9, mf_10, mf_11, mf_12, mf_13, mf_14, mf_15, mf_16, mf_17, mf_18, mf_19, mf_20, mf_21, mf_22, mf_23, mf_24, mf_25, mf_26, mf_27, mf_28, mf_29, mf_30, mf_31, mf_32, mf_33, mf_34, mf_35, mf_36, mf_37, mf_38, mf_39, mf_40, ms_3, ms_4, ms_5, ms_7, ms_9, ms_10, ms_11, ms_12, ms_14, ms_16, ms_17, ms_18, ms_24, ms_25, ms_29, ms_34, ms_35, ms_38, ma_0, ma_1, ma_2, ma_3, ma_4, ma_5, ma_6, ma_7, ma_8, ma_9, ma_10, ma_11, ma_12, ma_13, ma_14, ma_15, ma_16, ma_17, ma_18, ma_19, ma_20, ma_21, ma_22, mw_0, mw_1, mw_2, mw_3, mw_4, mw_5, mw_6, mw_7, mw_8, mw_9, mw_10, mw_11, mw_12, mw_13, mw_14, mw_15, mw_16, mw_17, mw_18, mw_19, mw_20, mw_21, mw_22]) | (refine bq_t (by omega) ?_) | (refine bq_f (by omega) ?_) | fail)
    have := hq (S1.2 0) (fun j a b => by omega) (fun _ _ => rfl)
    rw [uA_id] at this
    exact this
  | succ f ih =>
    intro S1 k h0 h1 hf hq
    rw [x148_3]
    by_cases hk : k < 166
    · repeat' (first | (simp (disch := first | assumption | exact wd_n | exact wd_i | exact wd_r | exact ct_r | exact ct_i | exact stB_0 | exact stB_1 | exact stB_2 | exact stB_3 | exact stB_4 | exact stB_5 | exact ct_2 | exact b2i_c _ | exact wd_0 | exact wd_f | omega) only [x148_0, x148_1, x148_5, x148_8, x148_11, x148_12, x148_13, x148_15, x148_16, x148_17, x148_18, x148_20, x148_21, x148_22, x148_23, x148_26, x148_29, e148, XC_v, XC_s, true_and, and_true, and_self, bq_T, bq_F, yt_s, Bool.false_eq_true, Bool.true_eq_false, mm_cl, mm_1, uN_s, uN_n, uA_s, uA_n, uN_uN, mf_0, mf_1, mf_2, mf_3, mf_4, mf_5, mf_6, mf_7, mf_8, mf_9, mf_10, mf_11, mf_12, mf_13, mf_14, mf_15, mf_16, mf_17, mf_18, mf_19, mf_20, mf_21, mf_22, mf_23, mf_24, mf_25, mf_26, mf_27, mf_28, mf_29, mf_30, mf_31, mf_32, mf_33, mf_34, mf_35, mf_36, mf_37, mf_38, mf_39, mf_40, ms_3, ms_4, ms_5, ms_7, ms_9, ms_10, ms_11, ms_12, ms_14, ms_16, ms_17, ms_18, ms_24, ms_25, ms_29, ms_34, ms_35, ms_38, ma_0, ma_1, ma_2, ma_3, ma_4, ma_5, ma_6, ma_7, ma_8, ma_9, ma_10, ma_11, ma_12, ma_13, ma_14, ma_15, ma_16, ma_17, ma_18, ma_19, ma_20, ma_21, ma_22, mw_0, mw_1, mw_2, mw_3, mw_4, mw_5, mw_6, mw_7, mw_8, mw_9, mw_10, mw_11, mw_12, mw_13, mw_14, mw_15, mw_16, mw_17, mw_18, mw_19, mw_20, mw_21, mw_22]) | (refine bq_t (by omega) ?_) | (refine bq_f (by omega) ?_) | fail)
      refine ih _ (k + 1) (by omega) (by omega) (by omega) (fun c' hc1 hc2 => ?_)
      rw [uA_uA]
      refine hq c' (fun j a b => ?_) (fun j a => ?_)
      · by_cases hj : j = k
        · rw [hj, hc2 (0 + k) (by omega)]
          simp (disch := omega) only [uN_s, uN_n, uA_s, uA_n, up_s, up_n, uN_uN, uA_uA]
        · rw [hc1 j (by omega) b]
          simp (disch := omega) only [uN_s, uN_n, uA_s, uA_n, up_s, up_n, uN_uN, uA_uA]
      · rw [hc2 j (by omega)]
        simp (disch := omega) only [uN_s, uN_n, uA_s, uA_n, up_s, up_n, uN_uN, uA_uA]
    · repeat' (first | (simp (disch := first | assumption | exact wd_n | exact wd_i | exact wd_r | exact ct_r | exact ct_i | exact stB_0 | exact stB_1 | exact stB_2 | exact stB_3 | exact stB_4 | exact stB_5 | exact ct_2 | exact b2i_c _ | exact wd_0 | exact wd_f | omega) only [x148_0, x148_1, x148_5, x148_8, x148_11, x148_12, x148_13, x148_15, x148_16, x148_17, x148_18, x148_20, x148_21, x148_22, x148_23, x148_26, x148_29, e148, XC_v, XC_s, true_and, and_true, and_self, bq_T, bq_F, yt_s, Bool.false_eq_true, Bool.true_eq_false, mm_cl, mm_1, uN_s, uN_n, uA_s, uA_n, uN_uN, mf_0, mf_1, mf_2, mf_3, mf_4, mf_5, mf_6, mf_7, mf_8, mf_9, mf_10, mf_11, mf_12, mf_13, mf_14, mf_15, mf_16, mf_17, mf_18, mf_19, mf_20, mf_21, mf_22, mf_23, mf_24, mf_25, mf_26, mf_27, mf_28, mf_29, mf_30, mf_31, mf_32, mf_33, mf_34, mf_35, mf_36, mf_37, mf_38, mf_39, mf_40, ms_3, ms_4, ms_5, ms_7, ms_9, ms_10, ms_11, ms_12, ms_14, ms_16, ms_17, ms_18, ms_24, ms_25, ms_29, ms_34, ms_35, ms_38, ma_0, ma_1, ma_2, ma_3, ma_4, ma_5, ma_6, ma_7, ma_8, ma_9, ma_10, ma_11, ma_12, ma_13, ma_14, ma_15, ma_16, ma_17, ma_18, ma_19, ma_20, ma_21, ma_22, mw_0, mw_1, mw_2, mw_3, mw_4, mw_5, mw_6, mw_7, mw_8, mw_9, mw_10, mw_11, mw_12, mw_13, mw_14, mw_15, mw_16, mw_17, mw_18, mw_19, mw_20, mw_21, mw_22]) | (refine bq_t (by omega) ?_) | (refine bq_f (by omega) ?_) | fail)
      have := hq (S1.2 0) (fun j a b => by omega) (fun _ _ => rfl)
      rw [uA_id] at this
      exact this
theorem m_copies10 {o : Int} (ho : 0 ≤ o ∧ o ≤ 1162) (hq : ∀ c', (∀ j, 0 ≤ j → j < 166 → c' (0 + j) = S.2 1 (o + j)) → (∀ j, j < 0 ∨ 0 + 166 ≤ j → c' j = S.2 0 j) → Q (.inl none) (mm M0 m (S.1, uA S.2 0 c'))) : CC X d 148 [.ref (m + 2), .int (ii o), .ref (m + 1), .int (ii 0)] (mm M0 m S) Q := by
  repeat' (first | (simp (disch := first | assumption | exact wd_n | exact wd_i | exact wd_r | exact ct_r | exact ct_i | exact stB_0 | exact stB_1 | exact stB_2 | exact stB_3 | exact stB_4 | exact stB_5 | exact ct_2 | exact b2i_c _ | exact wd_0 | exact wd_f | omega) only [x148_0, x148_1, x148_5, x148_8, x148_11, x148_12, x148_13, x148_15, x148_16, x148_17, x148_18, x148_20, x148_21, x148_22, x148_23, x148_26, x148_29, e148, XC_v, XC_s, true_and, and_true, and_self, bq_T, bq_F, yt_s, Bool.false_eq_true, Bool.true_eq_false, mm_cl, mm_1, uN_s, uN_n, uA_s, uA_n, uN_uN, mf_0, mf_1, mf_2, mf_3, mf_4, mf_5, mf_6, mf_7, mf_8, mf_9, mf_10, mf_11, mf_12, mf_13, mf_14, mf_15, mf_16, mf_17, mf_18, mf_19, mf_20, mf_21, mf_22, mf_23, mf_24, mf_25, mf_26, mf_27, mf_28, mf_29, mf_30, mf_31, mf_32, mf_33, mf_34, mf_35, mf_36, mf_37, mf_38, mf_39, mf_40, ms_3, ms_4, ms_5, ms_7, ms_9, ms_10, ms_11, ms_12, ms_14, ms_16, ms_17, ms_18, ms_24, ms_25, ms_29, ms_34, ms_35, ms_38, ma_0, ma_1, ma_2, ma_3, ma_4, ma_5, ma_6, ma_7, ma_8, ma_9, ma_10, ma_11, ma_12, ma_13, ma_14, ma_15, ma_16, ma_17, ma_18, ma_19, ma_20, ma_21, ma_22, mw_0, mw_1, mw_2, mw_3, mw_4, mw_5, mw_6, mw_7, mw_8, mw_9, mw_10, mw_11, mw_12, mw_13, mw_14, mw_15, mw_16, mw_17, mw_18, mw_19, mw_20, mw_21, mw_22]) | (refine bq_t (by omega) ?_) | (refine bq_f (by omega) ?_) | fail)
  exact m_copies10L ho 166 S 0 (by omega) (by omega) (by omega) (fun c' h1 h2 => hq c' h1 (fun j a => h2 j (by omega)))
theorem m_copies02L {o : Int} (ho : 0 ≤ o ∧ o ≤ 1162) : ∀ (f : Nat) (S1 : MS) (k : Int), 0 ≤ k → k ≤ 166 → 166 - k ≤ f → (∀ c', (∀ j, k ≤ j → j < 166 → c' (0 + j) = S1.2 0 (0 + j)) → (∀ j, j < 0 + k ∨ 0 + 166 ≤ j → c' j = S1.2 2 j) → Q (.inl none) (mm M0 m (S1.1, uA S1.2 2 c'))) → XX X d 148 (3, [some (.ref (m + 1)), some (.int (ii 0)), some (.ref (m + 3)), some (.int (ii 0)), some (.int (ii k))], [], mm M0 m S1) Q := by
  intro f
  induction f with
  | zero =>
    intro S1 k h0 h1 hf hq
    rw [x148_3]
    repeat' (first | (simp (disch := first | assumption | exact wd_n | exact wd_i | exact wd_r | exact ct_r | exact ct_i | exact stB_0 | exact stB_1 | exact stB_2 | exact stB_3 | exact stB_4 | exact stB_5 | exact ct_2 | exact b2i_c _ | exact wd_0 | exact wd_f | omega) only [x148_0, x148_1, x148_5, x148_8, x148_11, x148_12, x148_13, x148_15, x148_16, x148_17, x148_18, x148_20, x148_21, x148_22, x148_23, x148_26, x148_29, e148, XC_v, XC_s, true_and, and_true, and_self, bq_T, bq_F, yt_s, Bool.false_eq_true, Bool.true_eq_false, mm_cl, mm_1, uN_s, uN_n, uA_s, uA_n, uN_uN, mf_0, mf_1, mf_2, mf_3, mf_4, mf_5, mf_6, mf_7, mf_8, mf_9, mf_10, mf_11, mf_12, mf_13, mf_14, mf_15, mf_16, mf_17, mf_18, mf_19, mf_20, mf_21, mf_22, mf_23, mf_24, mf_25, mf_26, mf_27, mf_28, mf_29, mf_30, mf_31, mf_32, mf_33, mf_34, mf_35, mf_36, mf_37, mf_38, mf_39, mf_40, ms_3, ms_4, ms_5, ms_7, ms_9, ms_10, ms_11, ms_12, ms_14, ms_16, ms_17, ms_18, ms_24, ms_25, ms_29, ms_34, ms_35, ms_38, ma_0, ma_1, ma_2, ma_3, ma_4, ma_5, ma_6, ma_7, ma_8, ma_9, ma_10, ma_11, ma_12, ma_13, ma_14, ma_15, ma_16, ma_17, ma_18, ma_19, ma_20, ma_21, ma_22, mw_0, mw_1, mw_2, mw_3, mw_4, mw_5, mw_6, mw_7, mw_8, mw_9, mw_10, mw_11, mw_12, mw_13, mw_14, mw_15, mw_16, mw_17, mw_18, mw_19, mw_20, mw_21, mw_22]) | (refine bq_t (by omega) ?_) | (refine bq_f (by omega) ?_) | fail)
    have := hq (S1.2 2) (fun j a b => by omega) (fun _ _ => rfl)
    rw [uA_id] at this
    exact this
  | succ f ih =>
    intro S1 k h0 h1 hf hq
    rw [x148_3]
    by_cases hk : k < 166
    · repeat' (first | (simp (disch := first | assumption | exact wd_n | exact wd_i | exact wd_r | exact ct_r | exact ct_i | exact stB_0 | exact stB_1 | exact stB_2 | exact stB_3 | exact stB_4 | exact stB_5 | exact ct_2 | exact b2i_c _ | exact wd_0 | exact wd_f | omega) only [x148_0, x148_1, x148_5, x148_8, x148_11, x148_12, x148_13, x148_15, x148_16, x148_17, x148_18, x148_20, x148_21, x148_22, x148_23, x148_26, x148_29, e148, XC_v, XC_s, true_and, and_true, and_self, bq_T, bq_F, yt_s, Bool.false_eq_true, Bool.true_eq_false, mm_cl, mm_1, uN_s, uN_n, uA_s, uA_n, uN_uN, mf_0, mf_1, mf_2, mf_3, mf_4, mf_5, mf_6, mf_7, mf_8, mf_9, mf_10, mf_11, mf_12, mf_13, mf_14, mf_15, mf_16, mf_17, mf_18, mf_19, mf_20, mf_21, mf_22, mf_23, mf_24, mf_25, mf_26, mf_27, mf_28, mf_29, mf_30, mf_31, mf_32, mf_33, mf_34, mf_35, mf_36, mf_37, mf_38, mf_39, mf_40, ms_3, ms_4, ms_5, ms_7, ms_9, ms_10, ms_11, ms_12, ms_14, ms_16, ms_17, ms_18, ms_24, ms_25, ms_29, ms_34, ms_35, ms_38, ma_0, ma_1, ma_2, ma_3, ma_4, ma_5, ma_6, ma_7, ma_8, ma_9, ma_10, ma_11, ma_12, ma_13, ma_14, ma_15, ma_16, ma_17, ma_18, ma_19, ma_20, ma_21, ma_22, mw_0, mw_1, mw_2, mw_3, mw_4, mw_5, mw_6, mw_7, mw_8, mw_9, mw_10, mw_11, mw_12, mw_13, mw_14, mw_15, mw_16, mw_17, mw_18, mw_19, mw_20, mw_21, mw_22]) | (refine bq_t (by omega) ?_) | (refine bq_f (by omega) ?_) | fail)
      refine ih _ (k + 1) (by omega) (by omega) (by omega) (fun c' hc1 hc2 => ?_)
      rw [uA_uA]
      refine hq c' (fun j a b => ?_) (fun j a => ?_)
      · by_cases hj : j = k
        · rw [hj, hc2 (0 + k) (by omega)]
          simp (disch := omega) only [uN_s, uN_n, uA_s, uA_n, up_s, up_n, uN_uN, uA_uA]
        · rw [hc1 j (by omega) b]
          simp (disch := omega) only [uN_s, uN_n, uA_s, uA_n, up_s, up_n, uN_uN, uA_uA]
      · rw [hc2 j (by omega)]
        simp (disch := omega) only [uN_s, uN_n, uA_s, uA_n, up_s, up_n, uN_uN, uA_uA]
    · repeat' (first | (simp (disch := first | assumption | exact wd_n | exact wd_i | exact wd_r | exact ct_r | exact ct_i | exact stB_0 | exact stB_1 | exact stB_2 | exact stB_3 | exact stB_4 | exact stB_5 | exact ct_2 | exact b2i_c _ | exact wd_0 | exact wd_f | omega) only [x148_0, x148_1, x148_5, x148_8, x148_11, x148_12, x148_13, x148_15, x148_16, x148_17, x148_18, x148_20, x148_21, x148_22, x148_23, x148_26, x148_29, e148, XC_v, XC_s, true_and, and_true, and_self, bq_T, bq_F, yt_s, Bool.false_eq_true, Bool.true_eq_false, mm_cl, mm_1, uN_s, uN_n, uA_s, uA_n, uN_uN, mf_0, mf_1, mf_2, mf_3, mf_4, mf_5, mf_6, mf_7, mf_8, mf_9, mf_10, mf_11, mf_12, mf_13, mf_14, mf_15, mf_16, mf_17, mf_18, mf_19, mf_20, mf_21, mf_22, mf_23, mf_24, mf_25, mf_26, mf_27, mf_28, mf_29, mf_30, mf_31, mf_32, mf_33, mf_34, mf_35, mf_36, mf_37, mf_38, mf_39, mf_40, ms_3, ms_4, ms_5, ms_7, ms_9, ms_10, ms_11, ms_12, ms_14, ms_16, ms_17, ms_18, ms_24, ms_25, ms_29, ms_34, ms_35, ms_38, ma_0, ma_1, ma_2, ma_3, ma_4, ma_5, ma_6, ma_7, ma_8, ma_9, ma_10, ma_11, ma_12, ma_13, ma_14, ma_15, ma_16, ma_17, ma_18, ma_19, ma_20, ma_21, ma_22, mw_0, mw_1, mw_2, mw_3, mw_4, mw_5, mw_6, mw_7, mw_8, mw_9, mw_10, mw_11, mw_12, mw_13, mw_14, mw_15, mw_16, mw_17, mw_18, mw_19, mw_20, mw_21, mw_22]) | (refine bq_t (by omega) ?_) | (refine bq_f (by omega) ?_) | fail)
      have := hq (S1.2 2) (fun j a b => by omega) (fun _ _ => rfl)
      rw [uA_id] at this
      exact this
theorem m_copies02 {o : Int} (ho : 0 ≤ o ∧ o ≤ 1162) (hq : ∀ c', (∀ j, 0 ≤ j → j < 166 → c' (0 + j) = S.2 0 (0 + j)) → (∀ j, j < 0 ∨ 0 + 166 ≤ j → c' j = S.2 2 j) → Q (.inl none) (mm M0 m (S.1, uA S.2 2 c'))) : CC X d 148 [.ref (m + 1), .int (ii 0), .ref (m + 3), .int (ii 0)] (mm M0 m S) Q := by
  repeat' (first | (simp (disch := first | assumption | exact wd_n | exact wd_i | exact wd_r | exact ct_r | exact ct_i | exact stB_0 | exact stB_1 | exact stB_2 | exact stB_3 | exact stB_4 | exact stB_5 | exact ct_2 | exact b2i_c _ | exact wd_0 | exact wd_f | omega) only [x148_0, x148_1, x148_5, x148_8, x148_11, x148_12, x148_13, x148_15, x148_16, x148_17, x148_18, x148_20, x148_21, x148_22, x148_23, x148_26, x148_29, e148, XC_v, XC_s, true_and, and_true, and_self, bq_T, bq_F, yt_s, Bool.false_eq_true, Bool.true_eq_false, mm_cl, mm_1, uN_s, uN_n, uA_s, uA_n, uN_uN, mf_0, mf_1, mf_2, mf_3, mf_4, mf_5, mf_6, mf_7, mf_8, mf_9, mf_10, mf_11, mf_12, mf_13, mf_14, mf_15, mf_16, mf_17, mf_18, mf_19, mf_20, mf_21, mf_22, mf_23, mf_24, mf_25, mf_26, mf_27, mf_28, mf_29, mf_30, mf_31, mf_32, mf_33, mf_34, mf_35, mf_36, mf_37, mf_38, mf_39, mf_40, ms_3, ms_4, ms_5, ms_7, ms_9, ms_10, ms_11, ms_12, ms_14, ms_16, ms_17, ms_18, ms_24, ms_25, ms_29, ms_34, ms_35, ms_38, ma_0, ma_1, ma_2, ma_3, ma_4, ma_5, ma_6, ma_7, ma_8, ma_9, ma_10, ma_11, ma_12, ma_13, ma_14, ma_15, ma_16, ma_17, ma_18, ma_19, ma_20, ma_21, ma_22, mw_0, mw_1, mw_2, mw_3, mw_4, mw_5, mw_6, mw_7, mw_8, mw_9, mw_10, mw_11, mw_12, mw_13, mw_14, mw_15, mw_16, mw_17, mw_18, mw_19, mw_20, mw_21, mw_22]) | (refine bq_t (by omega) ?_) | (refine bq_f (by omega) ?_) | fail)
  exact m_copies02L ho 166 S 0 (by omega) (by omega) (by omega) (fun c' h1 h2 => hq c' h1 (fun j a => h2 j (by omega)))
theorem m_copies20L {o : Int} (ho : 0 ≤ o ∧ o ≤ 1162) : ∀ (f : Nat) (S1 : MS) (k : Int), 0 ≤ k → k ≤ 166 → 166 - k ≤ f → (∀ c', (∀ j, k ≤ j → j < 166 → c' (0 + j) = S1.2 2 (0 + j)) → (∀ j, j < 0 + k ∨ 0 + 166 ≤ j → c' j = S1.2 0 j) → Q (.inl none) (mm M0 m (S1.1, uA S1.2 0 c'))) → XX X d 148 (3, [some (.ref (m + 3)), some (.int (ii 0)), some (.ref (m + 1)), some (.int (ii 0)), some (.int (ii k))], [], mm M0 m S1) Q := by
  intro f
  induction f with
  | zero =>
    intro S1 k h0 h1 hf hq
    rw [x148_3]
    repeat' (first | (simp (disch := first | assumption | exact wd_n | exact wd_i | exact wd_r | exact ct_r | exact ct_i | exact stB_0 | exact stB_1 | exact stB_2 | exact stB_3 | exact stB_4 | exact stB_5 | exact ct_2 | exact b2i_c _ | exact wd_0 | exact wd_f | omega) only [x148_0, x148_1, x148_5, x148_8, x148_11, x148_12, x148_13, x148_15, x148_16, x148_17, x148_18, x148_20, x148_21, x148_22, x148_23, x148_26, x148_29, e148, XC_v, XC_s, true_and, and_true, and_self, bq_T, bq_F, yt_s, Bool.false_eq_true, Bool.true_eq_false, mm_cl, mm_1, uN_s, uN_n, uA_s, uA_n, uN_uN, mf_0, mf_1, mf_2, mf_3, mf_4, mf_5, mf_6, mf_7, mf_8, mf_9, mf_10, mf_11, mf_12, mf_13, mf_14, mf_15, mf_16, mf_17, mf_18, mf_19, mf_20, mf_21, mf_22, mf_23, mf_24, mf_25, mf_26, mf_27, mf_28, mf_29, mf_30, mf_31, mf_32, mf_33, mf_34, mf_35, mf_36, mf_37, mf_38, mf_39, mf_40, ms_3, ms_4, ms_5, ms_7, ms_9, ms_10, ms_11, ms_12, ms_14, ms_16, ms_17, ms_18, ms_24, ms_25, ms_29, ms_34, ms_35, ms_38, ma_0, ma_1, ma_2, ma_3, ma_4, ma_5, ma_6, ma_7, ma_8, ma_9, ma_10, ma_11, ma_12, ma_13, ma_14, ma_15, ma_16, ma_17, ma_18, ma_19, ma_20, ma_21, ma_22, mw_0, mw_1, mw_2, mw_3, mw_4, mw_5, mw_6, mw_7, mw_8, mw_9, mw_10, mw_11, mw_12, mw_13, mw_14, mw_15, mw_16, mw_17, mw_18, mw_19, mw_20, mw_21, mw_22]) | (refine bq_t (by omega) ?_) | (refine bq_f (by omega) ?_) | fail)
    have := hq (S1.2 0) (fun j a b => by omega) (fun _ _ => rfl)
    rw [uA_id] at this
    exact this
  | succ f ih =>
    intro S1 k h0 h1 hf hq
    rw [x148_3]
    by_cases hk : k < 166
    · repeat' (first | (simp (disch := first | assumption | exact wd_n | exact wd_i | exact wd_r | exact ct_r | exact ct_i | exact stB_0 | exact stB_1 | exact stB_2 | exact stB_3 | exact stB_4 | exact stB_5 | exact ct_2 | exact b2i_c _ | exact wd_0 | exact wd_f | omega) only [x148_0, x148_1, x148_5, x148_8, x148_11, x148_12, x148_13, x148_15, x148_16, x148_17, x148_18, x148_20, x148_21, x148_22, x148_23, x148_26, x148_29, e148, XC_v, XC_s, true_and, and_true, and_self, bq_T, bq_F, yt_s, Bool.false_eq_true, Bool.true_eq_false, mm_cl, mm_1, uN_s, uN_n, uA_s, uA_n, uN_uN, mf_0, mf_1, mf_2, mf_3, mf_4, mf_5, mf_6, mf_7, mf_8, mf_9, mf_10, mf_11, mf_12, mf_13, mf_14, mf_15, mf_16, mf_17, mf_18, mf_19, mf_20, mf_21, mf_22, mf_23, mf_24, mf_25, mf_26, mf_27, mf_28, mf_29, mf_30, mf_31, mf_32, mf_33, mf_34, mf_35, mf_36, mf_37, mf_38, mf_39, mf_40, ms_3, ms_4, ms_5, ms_7, ms_9, ms_10, ms_11, ms_12, ms_14, ms_16, ms_17, ms_18, ms_24, ms_25, ms_29, ms_34, ms_35, ms_38, ma_0, ma_1, ma_2, ma_3, ma_4, ma_5, ma_6, ma_7, ma_8, ma_9, ma_10, ma_11, ma_12, ma_13, ma_14, ma_15, ma_16, ma_17, ma_18, ma_19, ma_20, ma_21, ma_22, mw_0, mw_1, mw_2, mw_3, mw_4, mw_5, mw_6, mw_7, mw_8, mw_9, mw_10, mw_11, mw_12, mw_13, mw_14, mw_15, mw_16, mw_17, mw_18, mw_19, mw_20, mw_21, mw_22]) | (refine bq_t (by omega) ?_) | (refine bq_f (by omega) ?_) | fail)
      refine ih _ (k + 1) (by omega) (by omega) (by omega) (fun c' hc1 hc2 => ?_)
      rw [uA_uA]
      refine hq c' (fun j a b => ?_) (fun j a => ?_)
      · by_cases hj : j = k
        · rw [hj, hc2 (0 + k) (by omega)]
          simp (disch := omega) only [uN_s, uN_n, uA_s, uA_n, up_s, up_n, uN_uN, uA_uA]
        · rw [hc1 j (by omega) b]
          simp (disch := omega) only [uN_s, uN_n, uA_s, uA_n, up_s, up_n, uN_uN, uA_uA]
      · rw [hc2 j (by omega)]
        simp (disch := omega) only [uN_s, uN_n, uA_s, uA_n, up_s, up_n, uN_uN, uA_uA]
    · repeat' (first | (simp (disch := first | assumption | exact wd_n | exact wd_i | exact wd_r | exact ct_r | exact ct_i | exact stB_0 | exact stB_1 | exact stB_2 | exact stB_3 | exact stB_4 | exact stB_5 | exact ct_2 | exact b2i_c _ | exact wd_0 | exact wd_f | omega) only [x148_0, x148_1, x148_5, x148_8, x148_11, x148_12, x148_13, x148_15, x148_16, x148_17, x148_18, x148_20, x148_21, x148_22, x148_23, x148_26, x148_29, e148, XC_v, XC_s, true_and, and_true, and_self, bq_T, bq_F, yt_s, Bool.false_eq_true, Bool.true_eq_false, mm_cl, mm_1, uN_s, uN_n, uA_s, uA_n, uN_uN, mf_0, mf_1, mf_2, mf_3, mf_4, mf_5, mf_6, mf_7, mf_8, mf_9, mf_10, mf_11, mf_12, mf_13, mf_14, mf_15, mf_16, mf_17, mf_18, mf_19, mf_20, mf_21, mf_22, mf_23, mf_24, mf_25, mf_26, mf_27, mf_28, mf_29, mf_30, mf_31, mf_32, mf_33, mf_34, mf_35, mf_36, mf_37, mf_38, mf_39, mf_40, ms_3, ms_4, ms_5, ms_7, ms_9, ms_10, ms_11, ms_12, ms_14, ms_16, ms_17, ms_18, ms_24, ms_25, ms_29, ms_34, ms_35, ms_38, ma_0, ma_1, ma_2, ma_3, ma_4, ma_5, ma_6, ma_7, ma_8, ma_9, ma_10, ma_11, ma_12, ma_13, ma_14, ma_15, ma_16, ma_17, ma_18, ma_19, ma_20, ma_21, ma_22, mw_0, mw_1, mw_2, mw_3, mw_4, mw_5, mw_6, mw_7, mw_8, mw_9, mw_10, mw_11, mw_12, mw_13, mw_14, mw_15, mw_16, mw_17, mw_18, mw_19, mw_20, mw_21, mw_22]) | (refine bq_t (by omega) ?_) | (refine bq_f (by omega) ?_) | fail)
      have := hq (S1.2 0) (fun j a b => by omega) (fun _ _ => rfl)
      rw [uA_id] at this
      exact this
theorem m_copies20 {o : Int} (ho : 0 ≤ o ∧ o ≤ 1162) (hq : ∀ c', (∀ j, 0 ≤ j → j < 166 → c' (0 + j) = S.2 2 (0 + j)) → (∀ j, j < 0 ∨ 0 + 166 ≤ j → c' j = S.2 0 j) → Q (.inl none) (mm M0 m (S.1, uA S.2 0 c'))) : CC X d 148 [.ref (m + 3), .int (ii 0), .ref (m + 1), .int (ii 0)] (mm M0 m S) Q := by
  repeat' (first | (simp (disch := first | assumption | exact wd_n | exact wd_i | exact wd_r | exact ct_r | exact ct_i | exact stB_0 | exact stB_1 | exact stB_2 | exact stB_3 | exact stB_4 | exact stB_5 | exact ct_2 | exact b2i_c _ | exact wd_0 | exact wd_f | omega) only [x148_0, x148_1, x148_5, x148_8, x148_11, x148_12, x148_13, x148_15, x148_16, x148_17, x148_18, x148_20, x148_21, x148_22, x148_23, x148_26, x148_29, e148, XC_v, XC_s, true_and, and_true, and_self, bq_T, bq_F, yt_s, Bool.false_eq_true, Bool.true_eq_false, mm_cl, mm_1, uN_s, uN_n, uA_s, uA_n, uN_uN, mf_0, mf_1, mf_2, mf_3, mf_4, mf_5, mf_6, mf_7, mf_8, mf_9, mf_10, mf_11, mf_12, mf_13, mf_14, mf_15, mf_16, mf_17, mf_18, mf_19, mf_20, mf_21, mf_22, mf_23, mf_24, mf_25, mf_26, mf_27, mf_28, mf_29, mf_30, mf_31, mf_32, mf_33, mf_34, mf_35, mf_36, mf_37, mf_38, mf_39, mf_40, ms_3, ms_4, ms_5, ms_7, ms_9, ms_10, ms_11, ms_12, ms_14, ms_16, ms_17, ms_18, ms_24, ms_25, ms_29, ms_34, ms_35, ms_38, ma_0, ma_1, ma_2, ma_3, ma_4, ma_5, ma_6, ma_7, ma_8, ma_9, ma_10, ma_11, ma_12, ma_13, ma_14, ma_15, ma_16, ma_17, ma_18, ma_19, ma_20, ma_21, ma_22, mw_0, mw_1, mw_2, mw_3, mw_4, mw_5, mw_6, mw_7, mw_8, mw_9, mw_10, mw_11, mw_12, mw_13, mw_14, mw_15, mw_16, mw_17, mw_18, mw_19, mw_20, mw_21, mw_22]) | (refine bq_t (by omega) ?_) | (refine bq_f (by omega) ?_) | fail)
  exact m_copies20L ho 166 S 0 (by omega) (by omega) (by omega) (fun c' h1 h2 => hq c' h1 (fun j a => h2 j (by omega)))
/-- what keeping leaves alone -/
def KF (S S' : MS) : Prop := (∀ k, k ≠ 4 → k ≠ 5 → S'.1 k = S.1 k) ∧ (∀ j, j ≠ 1 → S'.2 j = S.2 j)
theorem KF.ex {S S' : MS} (h : KF S S') : EX [4] [1] S S' := by
  refine ⟨fun k a b => h.1 k (fun q => b (by simp [q])) (fun q => ?_), fun j a b => h.2 j (fun q => b (by simp [q]))⟩
  subst q
  unfold PSc at a
  simp at a
theorem m_keepsL : ∀ (f : Nat) (S1 : MS) (k : Int), 0 ≤ k → k ≤ 1162 → 1162 - k ≤ f → (∀ c', (∀ j, k ≤ j → j < 1162 → c' j = S1.2 1 (j + 166)) → (∀ j, j < k ∨ 1162 ≤ j → c' j = S1.2 1 j) → XX X d 149 (45, [some (.ref m), some (.int (ii 1162))], [], mm M0 m (S1.1, uA S1.2 1 c')) Q) → XX X d 149 (16, [some (.ref m), some (.int (ii k))], [], mm M0 m S1) Q := by
  intro f
  induction f with
  | zero =>
    intro S1 k h0 h1 hf hq
    have hk : k = 1162 := by omega
    subst hk
    rw [x149_16]
    repeat' (first | (simp (disch := first | assumption | exact wd_n | exact wd_i | exact wd_r | exact ct_r | exact ct_i | exact stB_0 | exact stB_1 | exact stB_2 | exact stB_3 | exact stB_4 | exact stB_5 | exact ct_2 | exact b2i_c _ | exact wd_0 | exact wd_f | omega) only [x149_0, x149_1, x149_2, x149_5, x149_6, x149_9, x149_11, x149_14, x149_15, x149_17, x149_20, x149_23, x149_24, x149_27, x149_28, x149_29, x149_32, x149_33, x149_36, x149_37, x149_38, x149_39, x149_42, x149_46, x149_47, x149_50, x149_51, x149_52, x149_55, x149_56, x149_59, x149_60, x149_61, x149_64, x149_67, x149_68, x149_71, x149_72, x149_75, x149_76, x149_77, x149_80, x149_81, x149_82, x149_85, e149, XC_v, XC_s, true_and, and_true, and_self, bq_T, bq_F, yt_s, Bool.false_eq_true, Bool.true_eq_false, mm_cl, mm_1, uN_s, uN_n, uA_s, uA_n, uN_uN, mf_0, mf_1, mf_2, mf_3, mf_4, mf_5, mf_6, mf_7, mf_8, mf_9, mf_10, mf_11, mf_12, mf_13, mf_14, mf_15, mf_16, mf_17, mf_18, mf_19, mf_20, mf_21, mf_22, mf_23, mf_24, mf_25, mf_26, mf_27, mf_28, mf_29, mf_30, mf_31, mf_32, mf_33, mf_34, mf_35, mf_36, mf_37, mf_38, mf_39, mf_40, ms_3, ms_4, ms_5, ms_7, ms_9, ms_10, ms_11, ms_12, ms_14, ms_16, ms_17, ms_18, ms_24, ms_25, ms_29, ms_34, ms_35, ms_38, ma_0, ma_1, ma_2, ma_3, ma_4, ma_5, ma_6, ma_7, ma_8, ma_9, ma_10, ma_11, ma_12, ma_13, ma_14, ma_15, ma_16, ma_17, ma_18, ma_19, ma_20, ma_21, ma_22, mw_0, mw_1, mw_2, mw_3, mw_4, mw_5, mw_6, mw_7, mw_8, mw_9, mw_10, mw_11, mw_12, mw_13, mw_14, mw_15, mw_16, mw_17, mw_18, mw_19, mw_20, mw_21, mw_22]) | (refine bq_t (by omega) ?_) | (refine bq_f (by omega) ?_) | fail)
    have := hq (S1.2 1) (fun j a b => by omega) (fun _ _ => rfl)
    rw [uA_id] at this
    exact this
  | succ f ih =>
    intro S1 k h0 h1 hf hq
    rw [x149_16]
    by_cases hk : k < 1162
    · repeat' (first | (simp (disch := first | assumption | exact wd_n | exact wd_i | exact wd_r | exact ct_r | exact ct_i | exact stB_0 | exact stB_1 | exact stB_2 | exact stB_3 | exact stB_4 | exact stB_5 | exact ct_2 | exact b2i_c _ | exact wd_0 | exact wd_f | omega) only [x149_0, x149_1, x149_2, x149_5, x149_6, x149_9, x149_11, x149_14, x149_15, x149_17, x149_20, x149_23, x149_24, x149_27, x149_28, x149_29, x149_32, x149_33, x149_36, x149_37, x149_38, x149_39, x149_42, x149_46, x149_47, x149_50, x149_51, x149_52, x149_55, x149_56, x149_59, x149_60, x149_61, x149_64, x149_67, x149_68, x149_71, x149_72, x149_75, x149_76, x149_77, x149_80, x149_81, x149_82, x149_85, e149, XC_v, XC_s, true_and, and_true, and_self, bq_T, bq_F, yt_s, Bool.false_eq_true, Bool.true_eq_false, mm_cl, mm_1, uN_s, uN_n, uA_s, uA_n, uN_uN, mf_0, mf_1, mf_2, mf_3, mf_4, mf_5, mf_6, mf_7, mf_8, mf_9, mf_10, mf_11, mf_12, mf_13, mf_14, mf_15, mf_16, mf_17, mf_18, mf_19, mf_20, mf_21, mf_22, mf_23, mf_24, mf_25, mf_26, mf_27, mf_28, mf_29, mf_30, mf_31, mf_32, mf_33, mf_34, mf_35, mf_36, mf_37, mf_38, mf_39, mf_40, ms_3, ms_4, ms_5, ms_7, ms_9, ms_10, ms_11, ms_12, ms_14, ms_16, ms_17, ms_18, ms_24, ms_25, ms_29, ms_34, ms_35, ms_38, ma_0, ma_1, ma_2, ma_3, ma_4, ma_5, ma_6, ma_7, ma_8, ma_9, ma_10, ma_11, ma_12, ma_13, ma_14, ma_15, ma_16, ma_17, ma_18, ma_19, ma_20, ma_21, ma_22, mw_0, mw_1, mw_2, mw_3, mw_4, mw_5, mw_6, mw_7, mw_8, mw_9, mw_10, mw_11, mw_12, mw_13, mw_14, mw_15, mw_16, mw_17, mw_18, mw_19, mw_20, mw_21, mw_22]) | (refine bq_t (by omega) ?_) | (refine bq_f (by omega) ?_) | fail)
      refine ih _ (k + 1) (by omega) (by omega) (by omega) (fun c' hc1 hc2 => ?_)
      rw [uA_uA]
      refine hq c' (fun j a b => ?_) (fun j a => ?_)
      · by_cases hj : j = k
        · rw [hj, hc2 k (by omega)]
          simp (disch := omega) only [uN_s, uN_n, uA_s, uA_n, up_s, up_n, uN_uN, uA_uA]
        · rw [hc1 j (by omega) b]
          simp (disch := omega) only [uN_s, uN_n, uA_s, uA_n, up_s, up_n, uN_uN, uA_uA]
      · rw [hc2 j (by omega)]
        simp (disch := omega) only [uN_s, uN_n, uA_s, uA_n, up_s, up_n, uN_uN, uA_uA]
    · have hk : k = 1162 := by omega
      subst hk
      repeat' (first | (simp (disch := first | assumption | exact wd_n | exact wd_i | exact wd_r | exact ct_r | exact ct_i | exact stB_0 | exact stB_1 | exact stB_2 | exact stB_3 | exact stB_4 | exact stB_5 | exact ct_2 | exact b2i_c _ | exact wd_0 | exact wd_f | omega) only [x149_0, x149_1, x149_2, x149_5, x149_6, x149_9, x149_11, x149_14, x149_15, x149_17, x149_20, x149_23, x149_24, x149_27, x149_28, x149_29, x149_32, x149_33, x149_36, x149_37, x149_38, x149_39, x149_42, x149_46, x149_47, x149_50, x149_51, x149_52, x149_55, x149_56, x149_59, x149_60, x149_61, x149_64, x149_67, x149_68, x149_71, x149_72, x149_75, x149_76, x149_77, x149_80, x149_81, x149_82, x149_85, e149, XC_v, XC_s, true_and, and_true, and_self, bq_T, bq_F, yt_s, Bool.false_eq_true, Bool.true_eq_false, mm_cl, mm_1, uN_s, uN_n, uA_s, uA_n, uN_uN, mf_0, mf_1, mf_2, mf_3, mf_4, mf_5, mf_6, mf_7, mf_8, mf_9, mf_10, mf_11, mf_12, mf_13, mf_14, mf_15, mf_16, mf_17, mf_18, mf_19, mf_20, mf_21, mf_22, mf_23, mf_24, mf_25, mf_26, mf_27, mf_28, mf_29, mf_30, mf_31, mf_32, mf_33, mf_34, mf_35, mf_36, mf_37, mf_38, mf_39, mf_40, ms_3, ms_4, ms_5, ms_7, ms_9, ms_10, ms_11, ms_12, ms_14, ms_16, ms_17, ms_18, ms_24, ms_25, ms_29, ms_34, ms_35, ms_38, ma_0, ma_1, ma_2, ma_3, ma_4, ma_5, ma_6, ma_7, ma_8, ma_9, ma_10, ma_11, ma_12, ma_13, ma_14, ma_15, ma_16, ma_17, ma_18, ma_19, ma_20, ma_21, ma_22, mw_0, mw_1, mw_2, mw_3, mw_4, mw_5, mw_6, mw_7, mw_8, mw_9, mw_10, mw_11, mw_12, mw_13, mw_14, mw_15, mw_16, mw_17, mw_18, mw_19, mw_20, mw_21, mw_22]) | (refine bq_t (by omega) ?_) | (refine bq_f (by omega) ?_) | fail)
      have := hq (S1.2 1) (fun j a b => by omega) (fun _ _ => rfl)
      rw [uA_id] at this
      exact this
/-- the blocks behind a change: n of them, moved by one if there were 8 -/
def KB (S S' : MS) : Prop := S'.1 4 = min 8 (S.1 4 + 1) ∧ (∀ j k, 0 ≤ j → j < S'.1 4 - 1 → 0 ≤ k → k < 166 → S'.2 1 (166 * j + k) = S.2 1 (166 * (j + (if S.1 4 = 8 then 1 else 0)) + k)) ∧ (∀ k, 0 ≤ k → k < 166 → S'.2 1 (166 * (S'.1 4 - 1) + k) = S.2 0 k)
theorem m_keeps (hd : 2 ≤ d) (h4 : 0 ≤ S.1 4 ∧ S.1 4 ≤ 8) (hq : ∀ S', KF S S' → S'.1 5 = 0 → KB S S' → Q (.inl none) (mm M0 m S')) : CC X d 149 [.ref m] (mm M0 m S) Q := by
  by_cases h8 : S.1 4 = 8
  · repeat' (first | (simp (disch := first | assumption | exact wd_n | exact wd_i | exact wd_r | exact ct_r | exact ct_i | exact stB_0 | exact stB_1 | exact stB_2 | exact stB_3 | exact stB_4 | exact stB_5 | exact ct_2 | exact b2i_c _ | exact wd_0 | exact wd_f | omega) only [x149_0, x149_1, x149_2, x149_5, x149_6, x149_9, x149_11, x149_14, x149_15, x149_17, x149_20, x149_23, x149_24, x149_27, x149_28, x149_29, x149_32, x149_33, x149_36, x149_37, x149_38, x149_39, x149_42, x149_46, x149_47, x149_50, x149_51, x149_52, x149_55, x149_56, x149_59, x149_60, x149_61, x149_64, x149_67, x149_68, x149_71, x149_72, x149_75, x149_76, x149_77, x149_80, x149_81, x149_82, x149_85, e149, XC_v, XC_s, true_and, and_true, and_self, bq_T, bq_F, yt_s, Bool.false_eq_true, Bool.true_eq_false, mm_cl, mm_1, uN_s, uN_n, uA_s, uA_n, uN_uN, mf_0, mf_1, mf_2, mf_3, mf_4, mf_5, mf_6, mf_7, mf_8, mf_9, mf_10, mf_11, mf_12, mf_13, mf_14, mf_15, mf_16, mf_17, mf_18, mf_19, mf_20, mf_21, mf_22, mf_23, mf_24, mf_25, mf_26, mf_27, mf_28, mf_29, mf_30, mf_31, mf_32, mf_33, mf_34, mf_35, mf_36, mf_37, mf_38, mf_39, mf_40, ms_3, ms_4, ms_5, ms_7, ms_9, ms_10, ms_11, ms_12, ms_14, ms_16, ms_17, ms_18, ms_24, ms_25, ms_29, ms_34, ms_35, ms_38, ma_0, ma_1, ma_2, ma_3, ma_4, ma_5, ma_6, ma_7, ma_8, ma_9, ma_10, ma_11, ma_12, ma_13, ma_14, ma_15, ma_16, ma_17, ma_18, ma_19, ma_20, ma_21, ma_22, mw_0, mw_1, mw_2, mw_3, mw_4, mw_5, mw_6, mw_7, mw_8, mw_9, mw_10, mw_11, mw_12, mw_13, mw_14, mw_15, mw_16, mw_17, mw_18, mw_19, mw_20, mw_21, mw_22, h8]) | (refine bq_t (by omega) ?_) | (refine bq_f (by omega) ?_) | fail)
    refine m_keepsL 1162 (uN S.1 5 0, S.2) 0 (by omega) (by omega) (by omega) (fun c' hc1 hc2 => ?_)
    repeat' (first | (simp (disch := first | assumption | exact wd_n | exact wd_i | exact wd_r | exact ct_r | exact ct_i | exact stB_0 | exact stB_1 | exact stB_2 | exact stB_3 | exact stB_4 | exact stB_5 | exact ct_2 | exact b2i_c _ | exact wd_0 | exact wd_f | omega) only [x149_0, x149_1, x149_2, x149_5, x149_6, x149_9, x149_11, x149_14, x149_15, x149_17, x149_20, x149_23, x149_24, x149_27, x149_28, x149_29, x149_32, x149_33, x149_36, x149_37, x149_38, x149_39, x149_42, x149_45, x149_46, x149_47, x149_50, x149_51, x149_52, x149_55, x149_56, x149_59, x149_60, x149_61, x149_64, x149_67, x149_68, x149_71, x149_72, x149_75, x149_76, x149_77, x149_80, x149_81, x149_82, x149_85, e149, XC_v, XC_s, true_and, and_true, and_self, bq_T, bq_F, yt_s, Bool.false_eq_true, Bool.true_eq_false, mm_cl, mm_1, uN_s, uN_n, uA_s, uA_n, uN_uN, mf_0, mf_1, mf_2, mf_3, mf_4, mf_5, mf_6, mf_7, mf_8, mf_9, mf_10, mf_11, mf_12, mf_13, mf_14, mf_15, mf_16, mf_17, mf_18, mf_19, mf_20, mf_21, mf_22, mf_23, mf_24, mf_25, mf_26, mf_27, mf_28, mf_29, mf_30, mf_31, mf_32, mf_33, mf_34, mf_35, mf_36, mf_37, mf_38, mf_39, mf_40, ms_3, ms_4, ms_5, ms_7, ms_9, ms_10, ms_11, ms_12, ms_14, ms_16, ms_17, ms_18, ms_24, ms_25, ms_29, ms_34, ms_35, ms_38, ma_0, ma_1, ma_2, ma_3, ma_4, ma_5, ma_6, ma_7, ma_8, ma_9, ma_10, ma_11, ma_12, ma_13, ma_14, ma_15, ma_16, ma_17, ma_18, ma_19, ma_20, ma_21, ma_22, mw_0, mw_1, mw_2, mw_3, mw_4, mw_5, mw_6, mw_7, mw_8, mw_9, mw_10, mw_11, mw_12, mw_13, mw_14, mw_15, mw_16, mw_17, mw_18, mw_19, mw_20, mw_21, mw_22, h8]) | (refine bq_t (by omega) ?_) | (refine bq_f (by omega) ?_) | fail)
    refine m_copies01 (o := 166 * (8 - 1)) (S := (uN (uN S.1 5 0) 4 (8 - 1), uA S.2 1 c')) (by omega) (fun c2 k1 k2 => ?_)
    repeat' (first | (simp (disch := first | assumption | exact wd_n | exact wd_i | exact wd_r | exact ct_r | exact ct_i | exact stB_0 | exact stB_1 | exact stB_2 | exact stB_3 | exact stB_4 | exact stB_5 | exact ct_2 | exact b2i_c _ | exact wd_0 | exact wd_f | omega) only [x149_0, x149_1, x149_2, x149_5, x149_6, x149_9, x149_11, x149_14, x149_15, x149_17, x149_20, x149_23, x149_24, x149_27, x149_28, x149_29, x149_32, x149_33, x149_36, x149_37, x149_38, x149_39, x149_42, x149_45, x149_46, x149_47, x149_50, x149_51, x149_52, x149_55, x149_56, x149_59, x149_60, x149_61, x149_64, x149_67, x149_68, x149_71, x149_72, x149_75, x149_76, x149_77, x149_80, x149_81, x149_82, x149_85, e149, XC_v, XC_s, true_and, and_true, and_self, bq_T, bq_F, yt_s, Bool.false_eq_true, Bool.true_eq_false, mm_cl, mm_1, uN_s, uN_n, uA_s, uA_n, uN_uN, mf_0, mf_1, mf_2, mf_3, mf_4, mf_5, mf_6, mf_7, mf_8, mf_9, mf_10, mf_11, mf_12, mf_13, mf_14, mf_15, mf_16, mf_17, mf_18, mf_19, mf_20, mf_21, mf_22, mf_23, mf_24, mf_25, mf_26, mf_27, mf_28, mf_29, mf_30, mf_31, mf_32, mf_33, mf_34, mf_35, mf_36, mf_37, mf_38, mf_39, mf_40, ms_3, ms_4, ms_5, ms_7, ms_9, ms_10, ms_11, ms_12, ms_14, ms_16, ms_17, ms_18, ms_24, ms_25, ms_29, ms_34, ms_35, ms_38, ma_0, ma_1, ma_2, ma_3, ma_4, ma_5, ma_6, ma_7, ma_8, ma_9, ma_10, ma_11, ma_12, ma_13, ma_14, ma_15, ma_16, ma_17, ma_18, ma_19, ma_20, ma_21, ma_22, mw_0, mw_1, mw_2, mw_3, mw_4, mw_5, mw_6, mw_7, mw_8, mw_9, mw_10, mw_11, mw_12, mw_13, mw_14, mw_15, mw_16, mw_17, mw_18, mw_19, mw_20, mw_21, mw_22, h8, uA_uA]) | (refine bq_t (by omega) ?_) | (refine bq_f (by omega) ?_) | fail)
    refine hq _ ⟨fun k a b => ?_, fun j a => ?_⟩ ?_ ⟨?_, fun j k a b c e => ?_, fun k a b => ?_⟩
    · simp (disch := omega) only [uN_s, uN_n, uA_s, uA_n, up_s, up_n, uN_uN, uA_uA]
    · simp (disch := omega) only [uN_s, uN_n, uA_s, uA_n, up_s, up_n, uN_uN, uA_uA]
    · simp (disch := omega) only [uN_s, uN_n, uA_s, uA_n, up_s, up_n, uN_uN, uA_uA]
    · simp (disch := omega) only [uN_s, uN_n, uA_s, uA_n, up_s, up_n, uN_uN, uA_uA]
      omega
    · simp (disch := omega) only [uN_s, uN_n, uA_s, uA_n, up_s, up_n, uN_uN, uA_uA]
      rw [if_pos h8]
      simp (disch := omega) only [uN_s, uN_n, uA_s, uA_n, up_s, up_n, uN_uN, uA_uA] at b
      rw [k2 _ (by omega)]
      simp (disch := omega) only [uN_s, uN_n, uA_s, uA_n, up_s, up_n, uN_uN, uA_uA]
      rw [hc1 _ (by omega) (by omega)]
      show S.2 1 (166 * j + k + 166) = S.2 1 (166 * (j + 1) + k)
      rw [show 166 * j + k + 166 = 166 * (j + 1) + k by omega]
    · simp (disch := omega) only [uN_s, uN_n, uA_s, uA_n, up_s, up_n, uN_uN, uA_uA]
      have := k1 k a b
      simp (disch := omega) only [uN_s, uN_n, uA_s, uA_n, up_s, up_n, uN_uN, uA_uA] at this
      rw [show (166 : Int) * (8 - 1 + 1 - 1) + k = 166 * (8 - 1) + k by omega, this]
      show S.2 0 (0 + k) = S.2 0 k
      rw [Int.zero_add]
  · repeat' (first | (simp (disch := first | assumption | exact wd_n | exact wd_i | exact wd_r | exact ct_r | exact ct_i | exact stB_0 | exact stB_1 | exact stB_2 | exact stB_3 | exact stB_4 | exact stB_5 | exact ct_2 | exact b2i_c _ | exact wd_0 | exact wd_f | omega) only [x149_0, x149_1, x149_2, x149_5, x149_6, x149_9, x149_11, x149_14, x149_15, x149_17, x149_20, x149_23, x149_24, x149_27, x149_28, x149_29, x149_32, x149_33, x149_36, x149_37, x149_38, x149_39, x149_42, x149_46, x149_47, x149_50, x149_51, x149_52, x149_55, x149_56, x149_59, x149_60, x149_61, x149_64, x149_67, x149_68, x149_71, x149_72, x149_75, x149_76, x149_77, x149_80, x149_81, x149_82, x149_85, e149, XC_v, XC_s, true_and, and_true, and_self, bq_T, bq_F, yt_s, Bool.false_eq_true, Bool.true_eq_false, mm_cl, mm_1, uN_s, uN_n, uA_s, uA_n, uN_uN, mf_0, mf_1, mf_2, mf_3, mf_4, mf_5, mf_6, mf_7, mf_8, mf_9, mf_10, mf_11, mf_12, mf_13, mf_14, mf_15, mf_16, mf_17, mf_18, mf_19, mf_20, mf_21, mf_22, mf_23, mf_24, mf_25, mf_26, mf_27, mf_28, mf_29, mf_30, mf_31, mf_32, mf_33, mf_34, mf_35, mf_36, mf_37, mf_38, mf_39, mf_40, ms_3, ms_4, ms_5, ms_7, ms_9, ms_10, ms_11, ms_12, ms_14, ms_16, ms_17, ms_18, ms_24, ms_25, ms_29, ms_34, ms_35, ms_38, ma_0, ma_1, ma_2, ma_3, ma_4, ma_5, ma_6, ma_7, ma_8, ma_9, ma_10, ma_11, ma_12, ma_13, ma_14, ma_15, ma_16, ma_17, ma_18, ma_19, ma_20, ma_21, ma_22, mw_0, mw_1, mw_2, mw_3, mw_4, mw_5, mw_6, mw_7, mw_8, mw_9, mw_10, mw_11, mw_12, mw_13, mw_14, mw_15, mw_16, mw_17, mw_18, mw_19, mw_20, mw_21, mw_22]) | (refine bq_t (by omega) ?_) | (refine bq_f (by omega) ?_) | fail)
    refine m_copies01 (o := 166 * S.1 4) (S := (uN S.1 5 0, S.2)) (by omega) (fun c2 k1 k2 => ?_)
    repeat' (first | (simp (disch := first | assumption | exact wd_n | exact wd_i | exact wd_r | exact ct_r | exact ct_i | exact stB_0 | exact stB_1 | exact stB_2 | exact stB_3 | exact stB_4 | exact stB_5 | exact ct_2 | exact b2i_c _ | exact wd_0 | exact wd_f | omega) only [x149_0, x149_1, x149_2, x149_5, x149_6, x149_9, x149_11, x149_14, x149_15, x149_17, x149_20, x149_23, x149_24, x149_27, x149_28, x149_29, x149_32, x149_33, x149_36, x149_37, x149_38, x149_39, x149_42, x149_46, x149_47, x149_50, x149_51, x149_52, x149_55, x149_56, x149_59, x149_60, x149_61, x149_64, x149_67, x149_68, x149_71, x149_72, x149_75, x149_76, x149_77, x149_80, x149_81, x149_82, x149_85, e149, XC_v, XC_s, true_and, and_true, and_self, bq_T, bq_F, yt_s, Bool.false_eq_true, Bool.true_eq_false, mm_cl, mm_1, uN_s, uN_n, uA_s, uA_n, uN_uN, mf_0, mf_1, mf_2, mf_3, mf_4, mf_5, mf_6, mf_7, mf_8, mf_9, mf_10, mf_11, mf_12, mf_13, mf_14, mf_15, mf_16, mf_17, mf_18, mf_19, mf_20, mf_21, mf_22, mf_23, mf_24, mf_25, mf_26, mf_27, mf_28, mf_29, mf_30, mf_31, mf_32, mf_33, mf_34, mf_35, mf_36, mf_37, mf_38, mf_39, mf_40, ms_3, ms_4, ms_5, ms_7, ms_9, ms_10, ms_11, ms_12, ms_14, ms_16, ms_17, ms_18, ms_24, ms_25, ms_29, ms_34, ms_35, ms_38, ma_0, ma_1, ma_2, ma_3, ma_4, ma_5, ma_6, ma_7, ma_8, ma_9, ma_10, ma_11, ma_12, ma_13, ma_14, ma_15, ma_16, ma_17, ma_18, ma_19, ma_20, ma_21, ma_22, mw_0, mw_1, mw_2, mw_3, mw_4, mw_5, mw_6, mw_7, mw_8, mw_9, mw_10, mw_11, mw_12, mw_13, mw_14, mw_15, mw_16, mw_17, mw_18, mw_19, mw_20, mw_21, mw_22]) | (refine bq_t (by omega) ?_) | (refine bq_f (by omega) ?_) | fail)
    refine hq _ ⟨fun k a b => ?_, fun j a => ?_⟩ ?_ ⟨?_, fun j k a b c e => ?_, fun k a b => ?_⟩
    · simp (disch := omega) only [uN_s, uN_n, uA_s, uA_n, up_s, up_n, uN_uN, uA_uA]
    · simp (disch := omega) only [uN_s, uN_n, uA_s, uA_n, up_s, up_n, uN_uN, uA_uA]
    · simp (disch := omega) only [uN_s, uN_n, uA_s, uA_n, up_s, up_n, uN_uN, uA_uA]
    · simp (disch := omega) only [uN_s, uN_n, uA_s, uA_n, up_s, up_n, uN_uN, uA_uA]
      omega
    · simp (disch := omega) only [uN_s, uN_n, uA_s, uA_n, up_s, up_n, uN_uN, uA_uA]
      rw [if_neg h8]
      simp (disch := omega) only [uN_s, uN_n, uA_s, uA_n, up_s, up_n, uN_uN, uA_uA] at b
      rw [k2 _ (by omega)]
      show S.2 1 (166 * j + k) = S.2 1 (166 * (j + 0) + k)
      rw [Int.add_zero]
    · simp (disch := omega) only [uN_s, uN_n, uA_s, uA_n, up_s, up_n, uN_uN, uA_uA]
      have := k1 k a b
      rw [show (166 : Int) * (S.1 4 + 1 - 1) + k = 166 * S.1 4 + k by omega, this]
      show S.2 0 (0 + k) = S.2 0 k
      rw [Int.zero_add]
end CPY
