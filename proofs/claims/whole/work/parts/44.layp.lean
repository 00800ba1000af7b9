/-! a pattern becomes steps -/
theorem MuOk_tsz : MuOk 2 tsz := by
  refine ⟨tsz_0, rfl, fun c => ?_, fun a b => by show tsz a + tsz b ≤ _; omega, fun a b => by show tsz a + tsz b + 2 ≤ _; omega, fun a => by show tsz a + 2 ≤ _; omega, fun b e => by show (1 : Int) ≤ _; omega, fun a => ?_, fun a => ?_, fun a k hk => ?_⟩
  · unfold tsz; split <;> omega
  · show (if (0 : Int) = 0 ∨ (0 : Int) = -1 then tsz a + 1 else tsz a + 2) ≤ _; split <;> omega
  · show (if (-1 : Int) = 0 ∨ (-1 : Int) = -1 then tsz a + 1 else tsz a + 2) ≤ _; split <;> omega
  · show (if k = 0 ∨ k = -1 then tsz a + 1 else tsz a + 2) ≤ _; split <;> omega
theorem PS_mu {c : Int → Int} {n g : Int} {t : RT} {K : Int} {u : RT → Int} (hn : 0 ≤ n ∧ n ≤ 30) (hK : 0 ≤ K) (hu : MuOk K u) (h : PS c n = .inr (g, t)) : u t ≤ K * n := by
  unfold PS at h
  have hR := PZ_rg (c := c) (n := n) 130 0 (.num 0) 0 0 (by omega) (by omega) (by omega) (by omega) (by omega)
  cases hr1 : PZ c n 130 0 (.num 0) 0 0 with
  | inl e => rw [hr1] at h; cases h
  | inr q =>
    obtain ⟨a, g', t'⟩ := q
    rw [hr1] at h hR
    simp only at h
    split at h
    · cases h
    · cases h
      have := PZ_mu hK hu 130 0 (.num 0) 0 0 a g t (by omega) (by omega) (by omega) (by omega) (by omega) hr1
      rw [if_neg (by omega)] at this
      have h3 : K * (a - 0) ≤ K * n := Int.mul_le_mul_of_nonneg_left (by have := hR.2.1; omega) hK
      omega
/-- what laying a pattern leaves alone -/
def PH (S S' : MS) : Prop := (∀ k, k ≠ 16 → k ≠ 17 → k ≠ 18 → k ≠ 24 → k ≠ 25 → k ≠ 29 → S'.1 k = S.1 k) ∧ (∀ j, j < 6 ∨ 14 < j → S'.2 j = S.2 j)
theorem PH.trans {A B C : MS} (h : PH A B) (h' : PH B C) : PH A C := ⟨fun k a b c d e f => (h'.1 k a b c d e f).trans (h.1 k a b c d e f), fun j a => (h'.2 j a).trans (h.2 j a)⟩
theorem PG.ph {S S' : MS} (h : PG S S') : PH S S' := ⟨fun k a b c d e f => h.1 k b c d e, fun j a => h.2 j (by omega)⟩
theorem PL.ph {S S' : MS} (h : PL S S') : PH S S' := ⟨fun k a b c d e f => h.1 k f, fun j a => h.2.1 j (by omega)⟩
theorem PH_n {S : MS} {k : Nat} {z : Int} (hk : k = 16 ∨ k = 17 ∨ k = 18 ∨ k = 24 ∨ k = 25 ∨ k = 29) : PH S (uN S.1 k z, S.2) := ⟨fun j a b c d e f => uN_n (by omega), fun _ _ => rfl⟩
theorem PH_6 {S : MS} {c : Int → Int} : PH S (S.1, uA S.2 6 c) := ⟨fun _ _ _ _ _ _ _ => rfl, fun j a => uA_n (by omega)⟩
/-- the steps of a pattern are laid: its characters, its tree, its groups -/
def LD (S : MS) (n g : Int) (t : RT) : Prop := S.1 16 = n ∧ PS (S.2 6) n = .inr (g, t) ∧ S.1 25 = g ∧ S.1 29 = tsz t + 1 ∧ LC S.2 t 0 ∧ S.2 12 (tsz t) = 13 ∧ 1 ≤ S.1 24 ∧ S.1 24 ≤ 61 ∧ S.2 10 (S.1 24 - 1) = tsh t ∧ S.2 11 (S.1 24 - 1) = tlo t ∧ 0 ≤ tsz t ∧ tsz t ≤ 60
theorem aa_s {s : Nat → Int} {a : Nat → Int → Int} {k : Nat} {c : Int → Int} : ((s, uA a k c) : MS).2 k = c := uA_s
theorem aa_n {s : Nat → Int} {a : Nat → Int → Int} {k j : Nat} {c : Int → Int} (h : j ≠ k) : ((s, uA a k c) : MS).2 j = a j := uA_n h
section LAP
variable {X : JX} {M0 : JM} {m d : Nat} {Q : JR → JM → Prop}
theorem m_layCopy {p n : Int} (hp : 0 ≤ p ∧ p < 4) (hn : 0 ≤ n ∧ n ≤ 30) : ∀ (f : Nat) (S : MS) (k : Int), S.1 16 = n → 0 ≤ k → k ≤ n → n - k ≤ f → (∀ c', (∀ j, 0 ≤ j → j < k → c' j = S.2 6 j) → (∀ j, k ≤ j → j < n → c' j = S.2 0 (5 + 30 * p + j)) → XX X d 164 (47, [some (.ref m), some (.int (ii p)), some (.int (ii n))], [], mm M0 m (S.1, uA S.2 6 c')) Q) → XX X d 164 (14, [some (.ref m), some (.int (ii p)), some (.int (ii k))], [], mm M0 m S) Q := by
  intro f
  induction f with
  | zero =>
    intro S k h16 hk hkn hf hq
    have hkn' : k = n := by omega
    subst hkn'
    rw [x164_14]
    repeat' (first | (simp (disch := first | assumption | exact wd_n | exact wd_i | exact wd_r | exact ct_r | exact ct_i | exact stB_0 | exact stB_1 | exact stB_2 | exact stB_3 | exact stB_4 | exact stB_5 | exact ct_2 | exact wd_0 | exact wd_f | omega) only [x164_0, x164_1, x164_2, x164_5, x164_6, x164_7, x164_8, x164_9, x164_12, x164_13, x164_15, x164_16, x164_19, x164_22, x164_23, x164_26, x164_27, x164_28, x164_31, x164_32, x164_34, x164_35, x164_36, x164_37, x164_38, x164_39, x164_40, x164_41, x164_44, x164_48, x164_51, x164_52, x164_53, x164_54, x164_57, x164_58, x164_59, x164_62, x164_63, x164_65, x164_66, x164_67, x164_70, x164_71, e164, XC_v, XC_s, true_and, and_true, and_self, bq_T, bq_F, yt_s, Bool.false_eq_true, Bool.true_eq_false, mm_cl, mm_1, uN_s, uN_n, uA_s, uA_n, uN_uN, mf_0, mf_1, mf_2, mf_3, mf_4, mf_5, mf_6, mf_7, mf_8, mf_9, mf_10, mf_11, mf_12, mf_13, mf_14, mf_15, mf_16, mf_17, mf_18, mf_19, mf_20, mf_21, mf_22, mf_23, mf_24, mf_25, mf_26, mf_27, mf_28, mf_29, mf_30, mf_31, mf_32, mf_33, mf_34, mf_35, mf_36, mf_37, mf_38, mf_39, mf_40, ms_3, ms_4, ms_5, ms_7, ms_9, ms_10, ms_11, ms_12, ms_14, ms_16, ms_17, ms_18, ms_24, ms_25, ms_29, ms_34, ms_35, ms_38, ma_0, ma_1, ma_2, ma_3, ma_4, ma_5, ma_6, ma_7, ma_8, ma_9, ma_10, ma_11, ma_12, ma_13, ma_14, ma_15, ma_16, ma_17, ma_18, ma_19, ma_20, ma_21, ma_22, mw_0, mw_1, mw_2, mw_3, mw_4, mw_5, mw_6, mw_7, mw_8, mw_9, mw_10, mw_11, mw_12, mw_13, mw_14, mw_15, mw_16, mw_17, mw_18, mw_19, mw_20, mw_21, mw_22, h16]) | (refine bq_t (by omega) ?_) | (refine bq_f (by omega) ?_) | fail)
    have e : uA S.2 6 (S.2 6) = S.2 := by funext j; unfold uA; split <;> simp_all
    have := hq (S.2 6) (fun _ _ _ => rfl) (fun j a b => by omega)
    rw [e] at this
    exact this
  | succ f ih =>
    intro S k h16 hk hkn hf hq
    rw [x164_14]
    by_cases hc : k < n
    · repeat' (first | (simp (disch := first | assumption | exact wd_n | exact wd_i | exact wd_r | exact ct_r | exact ct_i | exact stB_0 | exact stB_1 | exact stB_2 | exact stB_3 | exact stB_4 | exact stB_5 | exact ct_2 | exact wd_0 | exact wd_f | omega) only [x164_0, x164_1, x164_2, x164_5, x164_6, x164_7, x164_8, x164_9, x164_12, x164_13, x164_15, x164_16, x164_19, x164_22, x164_23, x164_26, x164_27, x164_28, x164_31, x164_32, x164_34, x164_35, x164_36, x164_37, x164_38, x164_39, x164_40, x164_41, x164_44, x164_48, x164_51, x164_52, x164_53, x164_54, x164_57, x164_58, x164_59, x164_62, x164_63, x164_65, x164_66, x164_67, x164_70, x164_71, e164, XC_v, XC_s, true_and, and_true, and_self, bq_T, bq_F, yt_s, Bool.false_eq_true, Bool.true_eq_false, mm_cl, mm_1, uN_s, uN_n, uA_s, uA_n, uN_uN, mf_0, mf_1, mf_2, mf_3, mf_4, mf_5, mf_6, mf_7, mf_8, mf_9, mf_10, mf_11, mf_12, mf_13, mf_14, mf_15, mf_16, mf_17, mf_18, mf_19, mf_20, mf_21, mf_22, mf_23, mf_24, mf_25, mf_26, mf_27, mf_28, mf_29, mf_30, mf_31, mf_32, mf_33, mf_34, mf_35, mf_36, mf_37, mf_38, mf_39, mf_40, ms_3, ms_4, ms_5, ms_7, ms_9, ms_10, ms_11, ms_12, ms_14, ms_16, ms_17, ms_18, ms_24, ms_25, ms_29, ms_34, ms_35, ms_38, ma_0, ma_1, ma_2, ma_3, ma_4, ma_5, ma_6, ma_7, ma_8, ma_9, ma_10, ma_11, ma_12, ma_13, ma_14, ma_15, ma_16, ma_17, ma_18, ma_19, ma_20, ma_21, ma_22, mw_0, mw_1, mw_2, mw_3, mw_4, mw_5, mw_6, mw_7, mw_8, mw_9, mw_10, mw_11, mw_12, mw_13, mw_14, mw_15, mw_16, mw_17, mw_18, mw_19, mw_20, mw_21, mw_22, h16]) | (refine bq_t (by omega) ?_) | (refine bq_f (by omega) ?_) | fail)
      refine ih (S.1, uA S.2 6 (up (S.2 6) k (S.2 0 (5 + 30 * p + k)))) (k + 1) h16 (by omega) (by omega) (by omega) (fun c' h1 h2 => ?_)
      rw [uA_uA]
      refine hq c' (fun j a b => ?_) (fun j a b => ?_)
      · rw [h1 j a (by omega)]
        rw [aa_s, up_n (by omega)]
      · by_cases hj : j = k
        · subst hj
          rw [h1 j (by omega) (by omega)]
          rw [aa_s, up_s]
        · rw [h2 j (by omega) b]
          rw [aa_n (by omega)]
    · have hkn' : k = n := by omega
      subst hkn'
      repeat' (first | (simp (disch := first | assumption | exact wd_n | exact wd_i | exact wd_r | exact ct_r | exact ct_i | exact stB_0 | exact stB_1 | exact stB_2 | exact stB_3 | exact stB_4 | exact stB_5 | exact ct_2 | exact wd_0 | exact wd_f | omega) only [x164_0, x164_1, x164_2, x164_5, x164_6, x164_7, x164_8, x164_9, x164_12, x164_13, x164_15, x164_16, x164_19, x164_22, x164_23, x164_26, x164_27, x164_28, x164_31, x164_32, x164_34, x164_35, x164_36, x164_37, x164_38, x164_39, x164_40, x164_41, x164_44, x164_48, x164_51, x164_52, x164_53, x164_54, x164_57, x164_58, x164_59, x164_62, x164_63, x164_65, x164_66, x164_67, x164_70, x164_71, e164, XC_v, XC_s, true_and, and_true, and_self, bq_T, bq_F, yt_s, Bool.false_eq_true, Bool.true_eq_false, mm_cl, mm_1, uN_s, uN_n, uA_s, uA_n, uN_uN, mf_0, mf_1, mf_2, mf_3, mf_4, mf_5, mf_6, mf_7, mf_8, mf_9, mf_10, mf_11, mf_12, mf_13, mf_14, mf_15, mf_16, mf_17, mf_18, mf_19, mf_20, mf_21, mf_22, mf_23, mf_24, mf_25, mf_26, mf_27, mf_28, mf_29, mf_30, mf_31, mf_32, mf_33, mf_34, mf_35, mf_36, mf_37, mf_38, mf_39, mf_40, ms_3, ms_4, ms_5, ms_7, ms_9, ms_10, ms_11, ms_12, ms_14, ms_16, ms_17, ms_18, ms_24, ms_25, ms_29, ms_34, ms_35, ms_38, ma_0, ma_1, ma_2, ma_3, ma_4, ma_5, ma_6, ma_7, ma_8, ma_9, ma_10, ma_11, ma_12, ma_13, ma_14, ma_15, ma_16, ma_17, ma_18, ma_19, ma_20, ma_21, ma_22, mw_0, mw_1, mw_2, mw_3, mw_4, mw_5, mw_6, mw_7, mw_8, mw_9, mw_10, mw_11, mw_12, mw_13, mw_14, mw_15, mw_16, mw_17, mw_18, mw_19, mw_20, mw_21, mw_22, h16]) | (refine bq_t (by omega) ?_) | (refine bq_f (by omega) ?_) | fail)
      have e : uA S.2 6 (S.2 6) = S.2 := by funext j; unfold uA; split <;> simp_all
      have := hq (S.2 6) (fun _ _ _ => rfl) (fun j a b => by omega)
      rw [e] at this
      exact this
theorem m_layPattern {S : MS} {p n g : Int} {t : RT} (hd : 400 ≤ d) (hp : 0 ≤ p ∧ p < 4) (hgn : S.2 0 (1 + p) = n) (hn : 0 ≤ n ∧ n ≤ 30) (hch : ∀ k, 0 ≤ k → k < n → 0 ≤ S.2 0 (5 + 30 * p + k) ∧ S.2 0 (5 + 30 * p + k) ≤ 65535)
    (hps : ∀ c', (∀ k, 0 ≤ k → k < n → c' k = S.2 0 (5 + 30 * p + k)) → PS c' n = .inr (g, t))
    (hq : ∀ S', PH S S' → LD S' n g t → (∀ k, 0 ≤ k → k < n → S'.2 6 k = S.2 0 (5 + 30 * p + k)) → Q (.inl none) (mm M0 m S')) : CC X d 164 [.ref m, .int (ii p)] (mm M0 m S) Q := by
  repeat' (first | (simp (disch := first | assumption | exact wd_n | exact wd_i | exact wd_r | exact ct_r | exact ct_i | exact stB_0 | exact stB_1 | exact stB_2 | exact stB_3 | exact stB_4 | exact stB_5 | exact ct_2 | exact wd_0 | exact wd_f | omega) only [x164_0, x164_1, x164_2, x164_5, x164_6, x164_7, x164_8, x164_9, x164_12, x164_13, x164_15, x164_16, x164_19, x164_22, x164_23, x164_26, x164_27, x164_28, x164_31, x164_32, x164_34, x164_35, x164_36, x164_37, x164_38, x164_39, x164_40, x164_41, x164_44, x164_47, x164_48, x164_51, x164_52, x164_53, x164_54, x164_57, x164_58, x164_59, x164_62, x164_63, x164_65, x164_66, x164_67, x164_70, x164_71, e164, XC_v, XC_s, true_and, and_true, and_self, bq_T, bq_F, yt_s, Bool.false_eq_true, Bool.true_eq_false, mm_cl, mm_1, uN_s, uN_n, uA_s, uA_n, uN_uN, mf_0, mf_1, mf_2, mf_3, mf_4, mf_5, mf_6, mf_7, mf_8, mf_9, mf_10, mf_11, mf_12, mf_13, mf_14, mf_15, mf_16, mf_17, mf_18, mf_19, mf_20, mf_21, mf_22, mf_23, mf_24, mf_25, mf_26, mf_27, mf_28, mf_29, mf_30, mf_31, mf_32, mf_33, mf_34, mf_35, mf_36, mf_37, mf_38, mf_39, mf_40, ms_3, ms_4, ms_5, ms_7, ms_9, ms_10, ms_11, ms_12, ms_14, ms_16, ms_17, ms_18, ms_24, ms_25, ms_29, ms_34, ms_35, ms_38, ma_0, ma_1, ma_2, ma_3, ma_4, ma_5, ma_6, ma_7, ma_8, ma_9, ma_10, ma_11, ma_12, ma_13, ma_14, ma_15, ma_16, ma_17, ma_18, ma_19, ma_20, ma_21, ma_22, mw_0, mw_1, mw_2, mw_3, mw_4, mw_5, mw_6, mw_7, mw_8, mw_9, mw_10, mw_11, mw_12, mw_13, mw_14, mw_15, mw_16, mw_17, mw_18, mw_19, mw_20, mw_21, mw_22, hgn]) | (refine bq_t (by omega) ?_) | (refine bq_f (by omega) ?_) | fail)
  refine m_layCopy (p := p) (n := n) hp hn 30 (uN S.1 16 n, S.2) 0 at_s (by omega) (by omega) (by omega) (fun c' h1 h2 => ?_)
  have hc : ∀ k, 0 ≤ k → k < n → c' k = S.2 0 (5 + 30 * p + k) := fun k a b => h2 k (by omega) b
  have hPS := hps c' hc
  repeat' (first | (simp (disch := first | assumption | exact wd_n | exact wd_i | exact wd_r | exact ct_r | exact ct_i | exact stB_0 | exact stB_1 | exact stB_2 | exact stB_3 | exact stB_4 | exact stB_5 | exact ct_2 | exact wd_0 | exact wd_f | omega) only [x164_0, x164_1, x164_2, x164_5, x164_6, x164_7, x164_8, x164_9, x164_12, x164_13, x164_15, x164_16, x164_19, x164_22, x164_23, x164_26, x164_27, x164_28, x164_31, x164_32, x164_34, x164_35, x164_36, x164_37, x164_38, x164_39, x164_40, x164_41, x164_44, x164_47, x164_48, x164_51, x164_52, x164_53, x164_54, x164_57, x164_58, x164_59, x164_62, x164_63, x164_65, x164_66, x164_67, x164_70, x164_71, e164, XC_v, XC_s, true_and, and_true, and_self, bq_T, bq_F, yt_s, Bool.false_eq_true, Bool.true_eq_false, mm_cl, mm_1, uN_s, uN_n, uA_s, uA_n, uN_uN, mf_0, mf_1, mf_2, mf_3, mf_4, mf_5, mf_6, mf_7, mf_8, mf_9, mf_10, mf_11, mf_12, mf_13, mf_14, mf_15, mf_16, mf_17, mf_18, mf_19, mf_20, mf_21, mf_22, mf_23, mf_24, mf_25, mf_26, mf_27, mf_28, mf_29, mf_30, mf_31, mf_32, mf_33, mf_34, mf_35, mf_36, mf_37, mf_38, mf_39, mf_40, ms_3, ms_4, ms_5, ms_7, ms_9, ms_10, ms_11, ms_12, ms_14, ms_16, ms_17, ms_18, ms_24, ms_25, ms_29, ms_34, ms_35, ms_38, ma_0, ma_1, ma_2, ma_3, ma_4, ma_5, ma_6, ma_7, ma_8, ma_9, ma_10, ma_11, ma_12, ma_13, ma_14, ma_15, ma_16, ma_17, ma_18, ma_19, ma_20, ma_21, ma_22, mw_0, mw_1, mw_2, mw_3, mw_4, mw_5, mw_6, mw_7, mw_8, mw_9, mw_10, mw_11, mw_12, mw_13, mw_14, mw_15, mw_16, mw_17, mw_18, mw_19, mw_20, mw_21, mw_22]) | (refine bq_t (by omega) ?_) | (refine bq_f (by omega) ?_) | fail)
  refine m_parses (c := c') (n := n) (by omega) aa_s at_s hn (fun k a b => by rw [hc k a b]; exact hch k a b) (fun S1 i p1 r1 => ?_)
  rw [hPS] at r1
  obtain ⟨r18, r25, ri, r61, rN⟩ := r1
  have hsz := PS_mu hn (by omega) MuOk_tsz hPS
  have hs0 := tsz_0 t
  have hdp := Nd_dp t i rN
  have hi0 := Nd_sh rN
  repeat' (first | (simp (disch := first | assumption | exact wd_n | exact wd_i | exact wd_r | exact ct_r | exact ct_i | exact stB_0 | exact stB_1 | exact stB_2 | exact stB_3 | exact stB_4 | exact stB_5 | exact ct_2 | exact wd_0 | exact wd_f | omega) only [x164_0, x164_1, x164_2, x164_5, x164_6, x164_7, x164_8, x164_9, x164_12, x164_13, x164_15, x164_16, x164_19, x164_22, x164_23, x164_26, x164_27, x164_28, x164_31, x164_32, x164_34, x164_35, x164_36, x164_37, x164_38, x164_39, x164_40, x164_41, x164_44, x164_47, x164_48, x164_51, x164_52, x164_53, x164_54, x164_57, x164_58, x164_59, x164_62, x164_63, x164_65, x164_66, x164_67, x164_70, x164_71, e164, XC_v, XC_s, true_and, and_true, and_self, bq_T, bq_F, yt_s, Bool.false_eq_true, Bool.true_eq_false, mm_cl, mm_1, uN_s, uN_n, uA_s, uA_n, uN_uN, mf_0, mf_1, mf_2, mf_3, mf_4, mf_5, mf_6, mf_7, mf_8, mf_9, mf_10, mf_11, mf_12, mf_13, mf_14, mf_15, mf_16, mf_17, mf_18, mf_19, mf_20, mf_21, mf_22, mf_23, mf_24, mf_25, mf_26, mf_27, mf_28, mf_29, mf_30, mf_31, mf_32, mf_33, mf_34, mf_35, mf_36, mf_37, mf_38, mf_39, mf_40, ms_3, ms_4, ms_5, ms_7, ms_9, ms_10, ms_11, ms_12, ms_14, ms_16, ms_17, ms_18, ms_24, ms_25, ms_29, ms_34, ms_35, ms_38, ma_0, ma_1, ma_2, ma_3, ma_4, ma_5, ma_6, ma_7, ma_8, ma_9, ma_10, ma_11, ma_12, ma_13, ma_14, ma_15, ma_16, ma_17, ma_18, ma_19, ma_20, ma_21, ma_22, mw_0, mw_1, mw_2, mw_3, mw_4, mw_5, mw_6, mw_7, mw_8, mw_9, mw_10, mw_11, mw_12, mw_13, mw_14, mw_15, mw_16, mw_17, mw_18, mw_19, mw_20, mw_21, mw_22]) | (refine bq_t (by omega) ?_) | (refine bq_f (by omega) ?_) | fail)
  refine m_lay t (d - 1) (uN S1.1 29 0, S1.2) _ i (by omega) rN (by omega) (by rw [at_s]; omega) (by rw [at_s]; omega) (fun S2 p2 s2 l2 => ?_)
  rw [at_s] at s2 l2
  have e29 : S2.1 29 = tsz t := by omega
  repeat' (first | (simp (disch := first | assumption | exact wd_n | exact wd_i | exact wd_r | exact ct_r | exact ct_i | exact stB_0 | exact stB_1 | exact stB_2 | exact stB_3 | exact stB_4 | exact stB_5 | exact ct_2 | exact wd_0 | exact wd_f | omega) only [x164_0, x164_1, x164_2, x164_5, x164_6, x164_7, x164_8, x164_9, x164_12, x164_13, x164_15, x164_16, x164_19, x164_22, x164_23, x164_26, x164_27, x164_28, x164_31, x164_32, x164_34, x164_35, x164_36, x164_37, x164_38, x164_39, x164_40, x164_41, x164_44, x164_47, x164_48, x164_51, x164_52, x164_53, x164_54, x164_57, x164_58, x164_59, x164_62, x164_63, x164_65, x164_66, x164_67, x164_70, x164_71, e164, XC_v, XC_s, true_and, and_true, and_self, bq_T, bq_F, yt_s, Bool.false_eq_true, Bool.true_eq_false, mm_cl, mm_1, uN_s, uN_n, uA_s, uA_n, uN_uN, mf_0, mf_1, mf_2, mf_3, mf_4, mf_5, mf_6, mf_7, mf_8, mf_9, mf_10, mf_11, mf_12, mf_13, mf_14, mf_15, mf_16, mf_17, mf_18, mf_19, mf_20, mf_21, mf_22, mf_23, mf_24, mf_25, mf_26, mf_27, mf_28, mf_29, mf_30, mf_31, mf_32, mf_33, mf_34, mf_35, mf_36, mf_37, mf_38, mf_39, mf_40, ms_3, ms_4, ms_5, ms_7, ms_9, ms_10, ms_11, ms_12, ms_14, ms_16, ms_17, ms_18, ms_24, ms_25, ms_29, ms_34, ms_35, ms_38, ma_0, ma_1, ma_2, ma_3, ma_4, ma_5, ma_6, ma_7, ma_8, ma_9, ma_10, ma_11, ma_12, ma_13, ma_14, ma_15, ma_16, ma_17, ma_18, ma_19, ma_20, ma_21, ma_22, mw_0, mw_1, mw_2, mw_3, mw_4, mw_5, mw_6, mw_7, mw_8, mw_9, mw_10, mw_11, mw_12, mw_13, mw_14, mw_15, mw_16, mw_17, mw_18, mw_19, mw_20, mw_21, mw_22, m_lays]) | (refine bq_t (by omega) ?_) | (refine bq_f (by omega) ?_) | fail)
  have q3 := PL_lys (S := S2) (k := 13) (a := 0) (b := 0)
  have w3 := lys_r (S := S2) (k := 13) (a := 0) (b := 0)
  have b3 := lys_29 (S := S2) (k := 13) (a := 0) (b := 0)
  have hPH : PH S1 (lys S2 13 0 0) := (PH_n (k := 29) (by omega)).trans (p2.ph.trans q3.ph)
  have hPL : ∀ j, j ≠ 29 → (lys S2 13 0 0).1 j = S1.1 j := fun j hj => (q3.1 j hj).trans ((p2.1 j hj).trans (at_n hj))
  have hAR : ∀ j, j < 12 ∨ 14 < j → (lys S2 13 0 0).2 j = S1.2 j := fun j hj => (q3.2.1 j hj).trans (p2.2.1 j hj)
  have h6 : (lys S2 13 0 0).2 6 = c' := by rw [hAR 6 (by omega), p1.2 6 (by omega)]; exact aa_s
  refine hq _ (((PH_n (k := 16) (by omega)).trans (PH_6 (S := (uN S.1 16 n, S.2)) (c := c'))).trans (p1.ph.trans hPH)) ⟨?_, ?_, ?_, by rw [b3]; omega, ?_, by rw [← e29]; exact w3.1, ?_, ?_, ?_, ?_, hs0, by omega⟩ (fun k a b => by rw [h6]; exact hc k a b)
  · rw [hPL 16 (by omega), p1.1 16 (by omega) (by omega) (by omega) (by omega)]; exact at_s
  · rw [h6]; exact hPS
  · rw [hPL 25 (by omega)]; exact r25
  · exact LC_fr t 0 (fun j a b k c c' => q3.2.2.2 j a b k c (by omega)) l2
  · rw [hPL 24 (by omega)]; omega
  · rw [hPL 24 (by omega)]; omega
  · rw [hPL 24 (by omega), hAR 10 (by omega), ← ri]; exact hi0.2.1
  · rw [hPL 24 (by omega), hAR 11 (by omega), ← ri]; exact hi0.2.2
end LAP
