/-! the reference's reader reads what PZ says -/
def PF (S S' : MS) : Prop := (∀ k, k ≠ 17 → k ≠ 18 → k ≠ 24 → k ≠ 25 → S'.1 k = S.1 k) ∧ (∀ j, j < 7 ∨ 11 < j → S'.2 j = S.2 j) ∧ S.1 24 ≤ S'.1 24 ∧ (∀ j, 7 ≤ j → j ≤ 11 → ∀ i, 0 ≤ i → i < S.1 24 → S'.2 j i = S.2 j i)
theorem PF.refl (S : MS) : PF S S := ⟨fun _ _ _ _ _ => rfl, fun _ _ => rfl, Int.le_refl _, fun _ _ _ _ _ _ => rfl⟩
theorem PF.trans {A B C : MS} (h : PF A B) (h' : PF B C) : PF A C := by
  refine ⟨fun k a b c d => (h'.1 k a b c d).trans (h.1 k a b c d), fun j a => (h'.2.1 j a).trans (h.2.1 j a), Int.le_trans h.2.2.1 h'.2.2.1, fun j a b i c d => ?_⟩
  have := h.2.2.1
  exact (h'.2.2.2 j a b i c (by omega)).trans (h.2.2.2 j a b i c d)
theorem PF_n {S : MS} {k : Nat} {z : Int} (hk : k = 17 ∨ k = 18 ∨ k = 25) : PF S (uN S.1 k z, S.2) := by
  refine ⟨fun j a b c d => ?_, fun _ _ => rfl, ?_, fun _ _ _ _ _ _ => rfl⟩
  · exact uN_n (by omega)
  · show S.1 24 ≤ uN S.1 k z 24
    rw [uN_n (by omega)]; exact Int.le_refl _
theorem grw_24 {S : MS} {k l r lo hi : Int} : (grw S k l r lo hi).1 24 = S.1 24 + 1 := by
  show uN S.1 24 _ 24 = _
  exact uN_s
theorem grw_n {S : MS} {k l r lo hi : Int} {j : Nat} (h : j ≠ 24) : (grw S k l r lo hi).1 j = S.1 j := uN_n h
theorem PF_grw {S : MS} {k l r lo hi : Int} : PF S (grw S k l r lo hi) := by
  refine ⟨fun j a b c d => uN_n c, fun j a => ?_, ?_, fun j a b i c d => ?_⟩
  · show uA _ _ _ _ = _
    rw [uA_n (by omega), uA_n (by omega), uA_n (by omega), uA_n (by omega), uA_n (by omega)]
  · rw [grw_24]; omega
  · unfold grw
    simp only [uA]
    have hj : j = 7 ∨ j = 8 ∨ j = 9 ∨ j = 10 ∨ j = 11 := by omega
    rcases hj with rfl | rfl | rfl | rfl | rfl <;> simp only [Nat.reduceEqDiff, if_true, if_false, reduceIte] <;> exact up_n (by omega)
theorem grw_r {S : MS} {k l r lo hi : Int} : (grw S k l r lo hi).2 7 (S.1 24) = k ∧ (grw S k l r lo hi).2 8 (S.1 24) = l ∧ (grw S k l r lo hi).2 9 (S.1 24) = r ∧ (grw S k l r lo hi).2 10 (S.1 24) = lo ∧ (grw S k l r lo hi).2 11 (S.1 24) = min 1000000 hi := by
  unfold grw
  simp only [uA, Nat.reduceEqDiff, if_true, if_false, reduceIte]
  exact ⟨up_s, up_s, up_s, up_s, up_s⟩
theorem Nd_gr {S : MS} {k l r lo hi : Int} {t : RT} {i : Int} (h : Nd S.2 t i) (hi2 : i < S.1 24) : Nd (grw S k l r lo hi).2 t i := Nd_fr (PF_grw (S := S)).2.2.2 t i hi2 h
theorem Nd_pf {S S' : MS} (hp : PF S S') {t : RT} {i : Int} (h : Nd S.2 t i) (hi2 : i < S.1 24) : Nd S'.2 t i := Nd_fr hp.2.2.2 t i hi2 h
theorem Nd_sh {A : Nat → Int → Int} {t : RT} {i : Int} (h : Nd A t i) : 0 ≤ i ∧ A 10 i = tsh t ∧ A 11 i = tlo t := by
  unfold Nd at h; exact ⟨h.1, h.2.1, h.2.2.1⟩
def Pre (S : MS) (c : Int → Int) (n p g : Int) : Prop := S.2 6 = c ∧ S.1 16 = n ∧ S.1 17 = p ∧ S.1 18 = 0 ∧ S.1 25 = g ∧ 0 ≤ p ∧ p ≤ n ∧ n ≤ 30 ∧ 0 ≤ g ∧ g ≤ 5 ∧ 0 ≤ S.1 24 ∧ S.1 24 + 2 * (n - p) ≤ 137 ∧ (∀ k, 0 ≤ k → k < n → 0 ≤ c k ∧ c k ≤ 65535)
def PO (S : MS) (b p : Int) (r : Int ⊕ (Int × Int × RT)) (i : Int) (S' : MS) : Prop := PF S S' ∧ match r with
  | .inl e => S'.1 17 = e ∧ S'.1 18 = 1
  | .inr (a, g', t') => S'.1 17 = a ∧ S'.1 25 = g' ∧ S'.1 18 = 0 ∧ i = S'.1 24 - 1 ∧ S'.1 24 ≤ S.1 24 + b + 2 * (a - p) ∧ Nd S'.2 t' i
theorem PO_tr {S S1 S' : MS} {b b1 p p1 i : Int} {r : Int ⊕ (Int × Int × RT)} (h : PF S S1) (h1 : S1.1 24 ≤ S.1 24 + b1 + 2 * (p1 - p)) (h2 : PO S1 b p1 r i S') : PO S (b + b1) p r i S' := by
  cases r with
  | inl e => exact ⟨h.trans h2.1, h2.2⟩
  | inr q =>
    obtain ⟨a, g', t'⟩ := q
    obtain ⟨k0, k1, k2, k3, k4, k5, k6⟩ := h2
    exact ⟨h.trans k0, k1, k2, k3, k4, by omega, k6⟩
theorem hr_rg {c : Int → Int} {n p : Int} (hp : 0 ≤ p) (h : ∀ k, 0 ≤ k → k < n → 0 ≤ c k ∧ c k ≤ 65535) : -1 ≤ hr c n p ∧ hr c n p ≤ 65535 := by
  unfold hr
  by_cases hc : p < n
  · rw [if_pos hc]; have := h p hp hc; omega
  · rw [if_neg hc]; omega
section MPA
variable (X : JX) (M0 : JM) (m : Nat)
def A0 (f : Nat) : Prop := ∀ (d : Nat) (S : MS) (Q : JR → JM → Prop) (c : Int → Int) (n p g : Int) (t : RT), 2 * f + 10 ≤ d → Pre S c n p g → S.1 24 + 2 * (n - p) ≤ 136 → 4 * (n - p) + 2 ≤ f → (∀ S' i, PO S 1 p (PZ c n f 0 t p g) i S' → Q (.inl (some (.int (ii i)))) (mm M0 m S')) → CC X d 154 [.ref m] (mm M0 m S) Q
def A1 (f : Nat) : Prop := ∀ (d : Nat) (S : MS) (Q : JR → JM → Prop) (c : Int → Int) (n p g : Int) (t : RT) (i0 : Int) (l2 : Option Value), 2 * f + 10 ≤ d → Pre S c n p g → 4 * (n - p) + 1 ≤ f → i0 = S.1 24 - 1 → Nd S.2 t i0 → tsh t ≤ p → (∀ S' i, PO S 0 p (PZ c n f 1 t p g) i S' → Q (.inl (some (.int (ii i)))) (mm M0 m S')) → XX X d 154 (5, [some (.ref m), some (.int (ii i0)), l2], [], mm M0 m S) Q
def A2 (f : Nat) : Prop := ∀ (d : Nat) (S : MS) (Q : JR → JM → Prop) (c : Int → Int) (n p g : Int) (t : RT) (i0 : Int) (l2 : Option Value), 2 * f + 10 ≤ d → Pre S c n p g → 4 * (n - p) + 1 ≤ f → i0 = S.1 24 - 1 → Nd S.2 t i0 → tsh t ≤ p → (∀ S' i, PO S 0 p (PZ c n f 2 t p g) i S' → Q (.inl (some (.int (ii i)))) (mm M0 m S')) → XX X d 155 (10, [some (.ref m), some (.int (ii i0)), l2], [], mm M0 m S) Q
def A3 (f : Nat) : Prop := ∀ (d : Nat) (S : MS) (Q : JR → JM → Prop) (c : Int → Int) (n p g : Int) (t : RT), 2 * f + 10 ≤ d → Pre S c n p g → p < n → 4 * (n - p) ≤ f → (sgB (hr c n p) = true ∨ hr c n p = 46 ∨ hr c n p = 40 ∨ hr c n p = 91) → (∀ S' i, PO S (-1) p (PZ c n f 3 t p g) i S' → Q (.inl (some (.int (ii i)))) (mm M0 m S')) → CC X d 156 [.ref m] (mm M0 m S) Q
def A4 (f : Nat) : Prop := ∀ (d : Nat) (S : MS) (Q : JR → JM → Prop) (c : Int → Int) (n p g : Int) (t : RT), 2 * f + 10 ≤ d → Pre S c n p g → p < n → 4 * (n - p) - 1 ≤ f → (sgB (hr c n p) = true ∨ hr c n p = 46 ∨ hr c n p = 40 ∨ hr c n p = 91) → (∀ S' i, PO S (-1) p (PZ c n f 4 t p g) i S' → Q (.inl (some (.int (ii i)))) (mm M0 m S')) → CC X d 157 [.ref m] (mm M0 m S) Q
variable {X : JX} {M0 : JM} {m : Nat} {d : Nat} {S : MS} {Q : JR → JM → Prop} {c : Int → Int} {n p g : Int}
/-- a branch, from the loop over its items -/
theorem m_branch {f : Nat} (h2 : A2 X M0 m f) (hd : 2 * f + 11 ≤ d) (hP : Pre S c n p g) (hb : S.1 24 + 2 * (n - p) ≤ 136) (hf : 4 * (n - p) + 1 ≤ f) (hq : ∀ S' i, PO S 1 p (PZ c n f 2 (.num 0) p g) i S' → Q (.inl (some (.int (ii i)))) (mm M0 m S')) : CC X d 155 [.ref m] (mm M0 m S) Q := by
  obtain ⟨p1, p2, p3, p4, p5, p6, p7, p8, p9, p10, p11, p12, p13⟩ := hP
  repeat' (first | (simp (disch := first | assumption | exact wd_n | exact wd_i | exact wd_r | exact ct_r | exact ct_i | exact stB_0 | exact stB_1 | exact stB_2 | exact stB_3 | exact stB_4 | exact stB_5 | exact ct_2 | exact wd_0 | exact wd_f | omega) only [x155_0, x155_1, x155_2, x155_3, x155_4, x155_5, x155_6, x155_9, x155_11, x155_14, x155_14b, x155_17, x155_18, x155_21, x155_24, x155_24b, x155_27, x155_28, x155_31, x155_33, x155_36, x155_37, x155_40, x155_42, x155_45, x155_46, x155_49, x155_51, x155_54, x155_55, x155_58, x155_59, x155_60, x155_63, x155_63b, x155_66, x155_67, x155_68, x155_69, x155_70, x155_71, x155_72, x155_73, x155_76, x155_77, x155_78, x155_79, x155_82, x155_83, x155_84, x155_85, x155_86, x155_89, x155_90, x155_91, x155_92, x155_95, x155_96, x155_97, x155_98, x155_101, x155_102, x155_105, x155_106, e155, XC_v, XC_s, true_and, and_true, and_self, bq_T, bq_F, yt_s, Bool.false_eq_true, Bool.true_eq_false, mm_cl, mm_1, uN_s, uN_n, uA_s, uA_n, uN_uN, mf_0, mf_1, mf_2, mf_3, mf_4, mf_5, mf_6, mf_7, mf_8, mf_9, mf_10, mf_11, mf_12, mf_13, mf_14, mf_15, mf_16, mf_17, mf_18, mf_19, mf_20, mf_21, mf_22, mf_23, mf_24, mf_25, mf_26, mf_27, mf_28, mf_29, mf_30, mf_31, mf_32, mf_33, mf_34, mf_35, mf_36, mf_37, mf_38, mf_39, mf_40, ms_3, ms_4, ms_5, ms_7, ms_9, ms_10, ms_11, ms_12, ms_14, ms_16, ms_17, ms_18, ms_24, ms_25, ms_29, ms_34, ms_35, ms_38, ma_0, ma_1, ma_2, ma_3, ma_4, ma_5, ma_6, ma_7, ma_8, ma_9, ma_10, ma_11, ma_12, ma_13, ma_14, ma_15, ma_16, ma_17, ma_18, ma_19, ma_20, ma_21, ma_22, mw_0, mw_1, mw_2, mw_3, mw_4, mw_5, mw_6, mw_7, mw_8, mw_9, mw_10, mw_11, mw_12, mw_13, mw_14, mw_15, mw_16, mw_17, mw_18, mw_19, mw_20, mw_21, mw_22, m_grows]) | (refine bq_t (by omega) ?_) | (refine bq_f (by omega) ?_) | fail)
  refine h2 d (grw S 0 0 0 0 0) Q c n p g (.num 0) _ none (by omega) ⟨?_, ?_, ?_, ?_, ?_, p6, p7, p8, p9, p10, ?_, ?_, p13⟩ hf ?_ ?_ ?_ ?_
  · rw [(PF_grw (S := S)).2.1 6 (by omega)]; exact p1
  · rw [grw_n (by omega)]; exact p2
  · rw [grw_n (by omega)]; exact p3
  · rw [grw_n (by omega)]; exact p4
  · rw [grw_n (by omega)]; exact p5
  · rw [grw_24]; omega
  · rw [grw_24]; omega
  · rw [grw_24]; omega
  · have := grw_r (S := S) (k := 0) (l := 0) (r := 0) (lo := 0) (hi := 0)
    unfold Nd
    exact ⟨p11, this.2.2.2.1, this.2.2.2.2, by simp only; rw [if_pos trivial]; exact this.1⟩
  · show (0 : Int) ≤ p; exact p6
  · intro S' i h
    exact hq S' i (PO_tr (b := 0) (b1 := 1) PF_grw (by rw [grw_24]; omega) h)
theorem Pre_pf {S S' : MS} {c : Int → Int} {n p g a g' : Int} (h : Pre S c n p g) (hp : PF S S') (h17 : S'.1 17 = a) (h18 : S'.1 18 = 0) (h25 : S'.1 25 = g') (ha : 0 ≤ a) (han : a ≤ n) (hg0 : 0 ≤ g') (hg : g' ≤ 5) (hb : S'.1 24 + 2 * (n - a) ≤ 137) : Pre S' c n a g' := by
  obtain ⟨p1, p2, p3, p4, p5, p6, p7, p8, p9, p10, p11, p12, p13⟩ := h
  exact ⟨(hp.2.1 6 (by omega)).trans p1, (hp.1 16 (by omega) (by omega) (by omega) (by omega)).trans p2, h17, h18, h25, ha, han, p8, hg0, hg, by have := hp.2.2.1; omega, hb, p13⟩
theorem Pre_17 {S : MS} {c : Int → Int} {n p g : Int} (h : Pre S c n p g) (hpn : p < n) : Pre (uN S.1 17 (p + 1), S.2) c n (p + 1) g := by
  obtain ⟨p1, p2, p3, p4, p5, p6, p7, p8, p9, p10, p11, p12, p13⟩ := h
  have e : ∀ j, j ≠ 17 → uN S.1 17 (p + 1) j = S.1 j := fun j h => uN_n h
  exact ⟨p1, (e 16 (by omega)).trans p2, (uN_s : uN S.1 17 (p + 1) 17 = p + 1), (e 18 (by omega)).trans p4, (e 25 (by omega)).trans p5, by omega, by omega, p8, p9, p10, by show 0 ≤ uN S.1 17 (p + 1) 24; rw [e 24 (by omega)]; exact p11, by show uN S.1 17 (p + 1) 24 + _ ≤ _; rw [e 24 (by omega)]; omega, p13⟩
theorem PZ_0 {f : Nat} {t : RT} : PZ c n (f + 1) 0 t p g = match PZ c n f 2 (.num 0) p g with
      | .inl e => .inl e
      | .inr (a, g', t') => PZ c n f 1 t' a g' := rfl
theorem PZ_1 {f : Nat} {t : RT} : PZ c n (f + 1) 1 t p g = if hr c n p = 124 then (match PZ c n f 2 (.num 0) (p + 1) g with
        | .inl e => .inl e
        | .inr (a, g', t') => PZ c n f 1 (.sub t t') a g') else .inr (p, g, t) := rfl
theorem PZ_2 {f : Nat} {t : RT} : PZ c n (f + 1) 2 t p g = if sgB (hr c n p) = true ∨ hr c n p = 46 ∨ hr c n p = 40 ∨ hr c n p = 91 then (match PZ c n f 3 t p g with
        | .inl e => .inl e
        | .inr (a, g', t') => PZ c n f 2 (.add t t') a g') else .inr (p, g, t) := rfl
theorem PZ_3 {f : Nat} {t : RT} : PZ c n (f + 1) 3 t p g = match PZ c n f 4 t p g with
      | .inl e => .inl e
      | .inr (a, g', t') => if hr c n a = 63 then .inr (a + 1, g', .mulR t' (-1)) else if hr c n a ≠ 42 ∧ hr c n a ≠ 43 then .inr (a, g', t') else if tsh t' = 0 then .inl a else .inr (a + 1, g', if hr c n a = 42 then .neg t' else .mulR t' 0) := rfl
theorem A0_s {f : Nat} (h1 : A1 X M0 m f) (h2 : A2 X M0 m f) : A0 X M0 m (f + 1) := by
  intro d S Q c n p g t hd hP hb hf hq
  have hP' := hP
  obtain ⟨p1, p2, p3, p4, p5, p6, p7, p8, p9, p10, p11, p12, p13⟩ := hP
  repeat' (first | (simp (disch := first | assumption | exact wd_n | exact wd_i | exact wd_r | exact ct_r | exact ct_i | exact stB_0 | exact stB_1 | exact stB_2 | exact stB_3 | exact stB_4 | exact stB_5 | exact ct_2 | exact wd_0 | exact wd_f | omega) only [x154_0, x154_1, x154_4, x154_6, x154_9, x154_9b, x154_12, x154_13, x154_16, x154_18, x154_21, x154_22, x154_23, x154_26, x154_27, x154_28, x154_31, x154_32, x154_35, x154_36, x154_37, x154_40, x154_40b, x154_43, x154_44, x154_45, x154_46, x154_47, x154_48, x154_49, x154_50, x154_53, x154_54, x154_55, x154_56, x154_59, x154_60, x154_61, x154_64, x154_65, x154_68, x154_69, x154_70, x154_71, x154_74, x154_75, x154_76, x154_79, x154_82, x154_83, x154_86, x154_87, e154, XC_v, XC_s, true_and, and_true, and_self, bq_T, bq_F, yt_s, Bool.false_eq_true, Bool.true_eq_false, mm_cl, mm_1, uN_s, uN_n, uA_s, uA_n, uN_uN, mf_0, mf_1, mf_2, mf_3, mf_4, mf_5, mf_6, mf_7, mf_8, mf_9, mf_10, mf_11, mf_12, mf_13, mf_14, mf_15, mf_16, mf_17, mf_18, mf_19, mf_20, mf_21, mf_22, mf_23, mf_24, mf_25, mf_26, mf_27, mf_28, mf_29, mf_30, mf_31, mf_32, mf_33, mf_34, mf_35, mf_36, mf_37, mf_38, mf_39, mf_40, ms_3, ms_4, ms_5, ms_7, ms_9, ms_10, ms_11, ms_12, ms_14, ms_16, ms_17, ms_18, ms_24, ms_25, ms_29, ms_34, ms_35, ms_38, ma_0, ma_1, ma_2, ma_3, ma_4, ma_5, ma_6, ma_7, ma_8, ma_9, ma_10, ma_11, ma_12, ma_13, ma_14, ma_15, ma_16, ma_17, ma_18, ma_19, ma_20, ma_21, ma_22, mw_0, mw_1, mw_2, mw_3, mw_4, mw_5, mw_6, mw_7, mw_8, mw_9, mw_10, mw_11, mw_12, mw_13, mw_14, mw_15, mw_16, mw_17, mw_18, mw_19, mw_20, mw_21, mw_22]) | (refine bq_t (by omega) ?_) | (refine bq_f (by omega) ?_) | fail)
  refine m_branch h2 (by omega) hP' hb (by omega) (fun S' i hpo => ?_)
  have hR := PZ_rg (c := c) (n := n) f 2 (.num 0) p g p6 p7 (by omega) p9 p10
  rw [PZ_0] at hq
  cases hr1 : PZ c n f 2 (.num 0) p g with
  | inl e =>
    rw [hr1] at hpo hq
    obtain ⟨hpf, h17, h18⟩ := hpo
    repeat' (first | (simp (disch := first | assumption | exact wd_n | exact wd_i | exact wd_r | exact ct_r | exact ct_i | exact stB_0 | exact stB_1 | exact stB_2 | exact stB_3 | exact stB_4 | exact stB_5 | exact ct_2 | exact wd_0 | exact wd_f | omega) only [x154_0, x154_1, x154_4, x154_5, x154_6, x154_9, x154_9b, x154_12, x154_13, x154_16, x154_18, x154_21, x154_22, x154_23, x154_26, x154_27, x154_28, x154_31, x154_32, x154_35, x154_36, x154_37, x154_40, x154_40b, x154_43, x154_44, x154_45, x154_46, x154_47, x154_48, x154_49, x154_50, x154_53, x154_54, x154_55, x154_56, x154_59, x154_60, x154_61, x154_64, x154_65, x154_68, x154_69, x154_70, x154_71, x154_74, x154_75, x154_76, x154_79, x154_82, x154_83, x154_86, x154_87, e154, XC_v, XC_s, true_and, and_true, and_self, bq_T, bq_F, yt_s, Bool.false_eq_true, Bool.true_eq_false, mm_cl, mm_1, uN_s, uN_n, uA_s, uA_n, uN_uN, mf_0, mf_1, mf_2, mf_3, mf_4, mf_5, mf_6, mf_7, mf_8, mf_9, mf_10, mf_11, mf_12, mf_13, mf_14, mf_15, mf_16, mf_17, mf_18, mf_19, mf_20, mf_21, mf_22, mf_23, mf_24, mf_25, mf_26, mf_27, mf_28, mf_29, mf_30, mf_31, mf_32, mf_33, mf_34, mf_35, mf_36, mf_37, mf_38, mf_39, mf_40, ms_3, ms_4, ms_5, ms_7, ms_9, ms_10, ms_11, ms_12, ms_14, ms_16, ms_17, ms_18, ms_24, ms_25, ms_29, ms_34, ms_35, ms_38, ma_0, ma_1, ma_2, ma_3, ma_4, ma_5, ma_6, ma_7, ma_8, ma_9, ma_10, ma_11, ma_12, ma_13, ma_14, ma_15, ma_16, ma_17, ma_18, ma_19, ma_20, ma_21, ma_22, mw_0, mw_1, mw_2, mw_3, mw_4, mw_5, mw_6, mw_7, mw_8, mw_9, mw_10, mw_11, mw_12, mw_13, mw_14, mw_15, mw_16, mw_17, mw_18, mw_19, mw_20, mw_21, mw_22, h18]) | (refine bq_t (by omega) ?_) | (refine bq_f (by omega) ?_) | fail)
    exact hq S' i ⟨hpf, h17, h18⟩
  | inr q =>
    obtain ⟨a, g', t'⟩ := q
    rw [hr1] at hpo hq hR
    obtain ⟨hpf, h17, h25, h18, hi, hn, hN⟩ := hpo
    obtain ⟨r1, r2, r3, r4, r5, _⟩ := hR
    rw [if_pos (by omega)] at r5
    have t00 : tsh (.num 0) = 0 := rfl
    repeat' (first | (simp (disch := first | assumption | exact wd_n | exact wd_i | exact wd_r | exact ct_r | exact ct_i | exact stB_0 | exact stB_1 | exact stB_2 | exact stB_3 | exact stB_4 | exact stB_5 | exact ct_2 | exact wd_0 | exact wd_f | omega) only [x154_0, x154_1, x154_4, x154_6, x154_9, x154_9b, x154_12, x154_13, x154_16, x154_18, x154_21, x154_22, x154_23, x154_26, x154_27, x154_28, x154_31, x154_32, x154_35, x154_36, x154_37, x154_40, x154_40b, x154_43, x154_44, x154_45, x154_46, x154_47, x154_48, x154_49, x154_50, x154_53, x154_54, x154_55, x154_56, x154_59, x154_60, x154_61, x154_64, x154_65, x154_68, x154_69, x154_70, x154_71, x154_74, x154_75, x154_76, x154_79, x154_82, x154_83, x154_86, x154_87, e154, XC_v, XC_s, true_and, and_true, and_self, bq_T, bq_F, yt_s, Bool.false_eq_true, Bool.true_eq_false, mm_cl, mm_1, uN_s, uN_n, uA_s, uA_n, uN_uN, mf_0, mf_1, mf_2, mf_3, mf_4, mf_5, mf_6, mf_7, mf_8, mf_9, mf_10, mf_11, mf_12, mf_13, mf_14, mf_15, mf_16, mf_17, mf_18, mf_19, mf_20, mf_21, mf_22, mf_23, mf_24, mf_25, mf_26, mf_27, mf_28, mf_29, mf_30, mf_31, mf_32, mf_33, mf_34, mf_35, mf_36, mf_37, mf_38, mf_39, mf_40, ms_3, ms_4, ms_5, ms_7, ms_9, ms_10, ms_11, ms_12, ms_14, ms_16, ms_17, ms_18, ms_24, ms_25, ms_29, ms_34, ms_35, ms_38, ma_0, ma_1, ma_2, ma_3, ma_4, ma_5, ma_6, ma_7, ma_8, ma_9, ma_10, ma_11, ma_12, ma_13, ma_14, ma_15, ma_16, ma_17, ma_18, ma_19, ma_20, ma_21, ma_22, mw_0, mw_1, mw_2, mw_3, mw_4, mw_5, mw_6, mw_7, mw_8, mw_9, mw_10, mw_11, mw_12, mw_13, mw_14, mw_15, mw_16, mw_17, mw_18, mw_19, mw_20, mw_21, mw_22]) | (refine bq_t (by omega) ?_) | (refine bq_f (by omega) ?_) | fail)
    refine h1 d S' Q c n a g' t' i _ (by omega) (Pre_pf hP' hpf h17 h18 h25 (by omega) r2 (by omega) r4 (by omega)) (by omega) hi hN (by omega) (fun S'' i' hpo' => ?_)
    exact hq S'' i' (PO_tr (b := 0) (b1 := 1) hpf hn hpo')
theorem A1_s {f : Nat} (h1 : A1 X M0 m f) (h2 : A2 X M0 m f) : A1 X M0 m (f + 1) := by
  intro d S Q c n p g t i0 l2 hd hP hf hi hN ht hq
  have hP' := hP
  obtain ⟨p1, p2, p3, p4, p5, p6, p7, p8, p9, p10, p11, p12, p13⟩ := hP
  have hh := hr_rg (c := c) (n := n) (p := p) p6 p13
  have hN0 := Nd_sh hN
  rw [PZ_1] at hq
  rw [x154_5]
  repeat' (first | (simp (disch := first | assumption | exact wd_n | exact wd_i | exact wd_r | exact ct_r | exact ct_i | exact stB_0 | exact stB_1 | exact stB_2 | exact stB_3 | exact stB_4 | exact stB_5 | exact ct_2 | exact wd_0 | exact wd_f | omega) only [x154_0, x154_1, x154_4, x154_6, x154_9, x154_9b, x154_12, x154_13, x154_16, x154_18, x154_21, x154_22, x154_23, x154_26, x154_27, x154_28, x154_31, x154_32, x154_35, x154_36, x154_37, x154_40, x154_40b, x154_43, x154_44, x154_45, x154_46, x154_47, x154_48, x154_49, x154_50, x154_53, x154_54, x154_55, x154_56, x154_59, x154_60, x154_61, x154_64, x154_65, x154_68, x154_69, x154_70, x154_71, x154_74, x154_75, x154_76, x154_79, x154_82, x154_83, x154_86, x154_87, e154, XC_v, XC_s, true_and, and_true, and_self, bq_T, bq_F, yt_s, Bool.false_eq_true, Bool.true_eq_false, mm_cl, mm_1, uN_s, uN_n, uA_s, uA_n, uN_uN, mf_0, mf_1, mf_2, mf_3, mf_4, mf_5, mf_6, mf_7, mf_8, mf_9, mf_10, mf_11, mf_12, mf_13, mf_14, mf_15, mf_16, mf_17, mf_18, mf_19, mf_20, mf_21, mf_22, mf_23, mf_24, mf_25, mf_26, mf_27, mf_28, mf_29, mf_30, mf_31, mf_32, mf_33, mf_34, mf_35, mf_36, mf_37, mf_38, mf_39, mf_40, ms_3, ms_4, ms_5, ms_7, ms_9, ms_10, ms_11, ms_12, ms_14, ms_16, ms_17, ms_18, ms_24, ms_25, ms_29, ms_34, ms_35, ms_38, ma_0, ma_1, ma_2, ma_3, ma_4, ma_5, ma_6, ma_7, ma_8, ma_9, ma_10, ma_11, ma_12, ma_13, ma_14, ma_15, ma_16, ma_17, ma_18, ma_19, ma_20, ma_21, ma_22, mw_0, mw_1, mw_2, mw_3, mw_4, mw_5, mw_6, mw_7, mw_8, mw_9, mw_10, mw_11, mw_12, mw_13, mw_14, mw_15, mw_16, mw_17, mw_18, mw_19, mw_20, mw_21, mw_22, p1, p2, p3, p4, m_here]) | (refine bq_t (by omega) ?_) | (refine bq_f (by omega) ?_) | fail)
  refine bq_i (fun hc => ?_) (fun hc => ?_)
  · rw [if_neg hc] at hq
    repeat' (first | (simp (disch := first | assumption | exact wd_n | exact wd_i | exact wd_r | exact ct_r | exact ct_i | exact stB_0 | exact stB_1 | exact stB_2 | exact stB_3 | exact stB_4 | exact stB_5 | exact ct_2 | exact wd_0 | exact wd_f | omega) only [x154_0, x154_1, x154_4, x154_5, x154_6, x154_9, x154_9b, x154_12, x154_13, x154_16, x154_18, x154_21, x154_22, x154_23, x154_26, x154_27, x154_28, x154_31, x154_32, x154_35, x154_36, x154_37, x154_40, x154_40b, x154_43, x154_44, x154_45, x154_46, x154_47, x154_48, x154_49, x154_50, x154_53, x154_54, x154_55, x154_56, x154_59, x154_60, x154_61, x154_64, x154_65, x154_68, x154_69, x154_70, x154_71, x154_74, x154_75, x154_76, x154_79, x154_82, x154_83, x154_86, x154_87, e154, XC_v, XC_s, true_and, and_true, and_self, bq_T, bq_F, yt_s, Bool.false_eq_true, Bool.true_eq_false, mm_cl, mm_1, uN_s, uN_n, uA_s, uA_n, uN_uN, mf_0, mf_1, mf_2, mf_3, mf_4, mf_5, mf_6, mf_7, mf_8, mf_9, mf_10, mf_11, mf_12, mf_13, mf_14, mf_15, mf_16, mf_17, mf_18, mf_19, mf_20, mf_21, mf_22, mf_23, mf_24, mf_25, mf_26, mf_27, mf_28, mf_29, mf_30, mf_31, mf_32, mf_33, mf_34, mf_35, mf_36, mf_37, mf_38, mf_39, mf_40, ms_3, ms_4, ms_5, ms_7, ms_9, ms_10, ms_11, ms_12, ms_14, ms_16, ms_17, ms_18, ms_24, ms_25, ms_29, ms_34, ms_35, ms_38, ma_0, ma_1, ma_2, ma_3, ma_4, ma_5, ma_6, ma_7, ma_8, ma_9, ma_10, ma_11, ma_12, ma_13, ma_14, ma_15, ma_16, ma_17, ma_18, ma_19, ma_20, ma_21, ma_22, mw_0, mw_1, mw_2, mw_3, mw_4, mw_5, mw_6, mw_7, mw_8, mw_9, mw_10, mw_11, mw_12, mw_13, mw_14, mw_15, mw_16, mw_17, mw_18, mw_19, mw_20, mw_21, mw_22]) | (refine bq_t (by omega) ?_) | (refine bq_f (by omega) ?_) | fail)
    exact hq S i0 ⟨PF.refl S, p3, p5, p4, hi, by omega, hN⟩
  have hc : hr c n p = 124 := by omega
  have hpn := hr_in (c := c) (n := n) (p := p) (by omega)
  rw [if_pos hc] at hq
  repeat' (first | (simp (disch := first | assumption | exact wd_n | exact wd_i | exact wd_r | exact ct_r | exact ct_i | exact stB_0 | exact stB_1 | exact stB_2 | exact stB_3 | exact stB_4 | exact stB_5 | exact ct_2 | exact wd_0 | exact wd_f | omega) only [x154_0, x154_1, x154_4, x154_6, x154_9, x154_9b, x154_12, x154_13, x154_16, x154_18, x154_21, x154_22, x154_23, x154_26, x154_27, x154_28, x154_31, x154_32, x154_35, x154_36, x154_37, x154_40, x154_40b, x154_43, x154_44, x154_45, x154_46, x154_47, x154_48, x154_49, x154_50, x154_53, x154_54, x154_55, x154_56, x154_59, x154_60, x154_61, x154_64, x154_65, x154_68, x154_69, x154_70, x154_71, x154_74, x154_75, x154_76, x154_79, x154_82, x154_83, x154_86, x154_87, e154, XC_v, XC_s, true_and, and_true, and_self, bq_T, bq_F, yt_s, Bool.false_eq_true, Bool.true_eq_false, mm_cl, mm_1, uN_s, uN_n, uA_s, uA_n, uN_uN, mf_0, mf_1, mf_2, mf_3, mf_4, mf_5, mf_6, mf_7, mf_8, mf_9, mf_10, mf_11, mf_12, mf_13, mf_14, mf_15, mf_16, mf_17, mf_18, mf_19, mf_20, mf_21, mf_22, mf_23, mf_24, mf_25, mf_26, mf_27, mf_28, mf_29, mf_30, mf_31, mf_32, mf_33, mf_34, mf_35, mf_36, mf_37, mf_38, mf_39, mf_40, ms_3, ms_4, ms_5, ms_7, ms_9, ms_10, ms_11, ms_12, ms_14, ms_16, ms_17, ms_18, ms_24, ms_25, ms_29, ms_34, ms_35, ms_38, ma_0, ma_1, ma_2, ma_3, ma_4, ma_5, ma_6, ma_7, ma_8, ma_9, ma_10, ma_11, ma_12, ma_13, ma_14, ma_15, ma_16, ma_17, ma_18, ma_19, ma_20, ma_21, ma_22, mw_0, mw_1, mw_2, mw_3, mw_4, mw_5, mw_6, mw_7, mw_8, mw_9, mw_10, mw_11, mw_12, mw_13, mw_14, mw_15, mw_16, mw_17, mw_18, mw_19, mw_20, mw_21, mw_22, p3]) | (refine bq_t (by omega) ?_) | (refine bq_f (by omega) ?_) | fail)
  have hP1 := Pre_17 hP' hpn
  refine m_branch h2 (by omega) hP1 (by show uN S.1 17 (p + 1) 24 + _ ≤ _; rw [uN_n (by omega)]; omega) (by omega) (fun S' i hpo => ?_)
  have hR := PZ_rg (c := c) (n := n) f 2 (.num 0) (p + 1) g (by omega) (by omega) (by omega) p9 p10
  cases hr1 : PZ c n f 2 (.num 0) (p + 1) g with
  | inl e =>
    rw [hr1] at hpo hq
    obtain ⟨hpf, h17, h18⟩ := hpo
    repeat' (first | (simp (disch := first | assumption | exact wd_n | exact wd_i | exact wd_r | exact ct_r | exact ct_i | exact stB_0 | exact stB_1 | exact stB_2 | exact stB_3 | exact stB_4 | exact stB_5 | exact ct_2 | exact wd_0 | exact wd_f | omega) only [x154_0, x154_1, x154_4, x154_5, x154_6, x154_9, x154_9b, x154_12, x154_13, x154_16, x154_18, x154_21, x154_22, x154_23, x154_26, x154_27, x154_28, x154_31, x154_32, x154_35, x154_36, x154_37, x154_40, x154_40b, x154_43, x154_44, x154_45, x154_46, x154_47, x154_48, x154_49, x154_50, x154_53, x154_54, x154_55, x154_56, x154_59, x154_60, x154_61, x154_64, x154_65, x154_68, x154_69, x154_70, x154_71, x154_74, x154_75, x154_76, x154_79, x154_82, x154_83, x154_86, x154_87, e154, XC_v, XC_s, true_and, and_true, and_self, bq_T, bq_F, yt_s, Bool.false_eq_true, Bool.true_eq_false, mm_cl, mm_1, uN_s, uN_n, uA_s, uA_n, uN_uN, mf_0, mf_1, mf_2, mf_3, mf_4, mf_5, mf_6, mf_7, mf_8, mf_9, mf_10, mf_11, mf_12, mf_13, mf_14, mf_15, mf_16, mf_17, mf_18, mf_19, mf_20, mf_21, mf_22, mf_23, mf_24, mf_25, mf_26, mf_27, mf_28, mf_29, mf_30, mf_31, mf_32, mf_33, mf_34, mf_35, mf_36, mf_37, mf_38, mf_39, mf_40, ms_3, ms_4, ms_5, ms_7, ms_9, ms_10, ms_11, ms_12, ms_14, ms_16, ms_17, ms_18, ms_24, ms_25, ms_29, ms_34, ms_35, ms_38, ma_0, ma_1, ma_2, ma_3, ma_4, ma_5, ma_6, ma_7, ma_8, ma_9, ma_10, ma_11, ma_12, ma_13, ma_14, ma_15, ma_16, ma_17, ma_18, ma_19, ma_20, ma_21, ma_22, mw_0, mw_1, mw_2, mw_3, mw_4, mw_5, mw_6, mw_7, mw_8, mw_9, mw_10, mw_11, mw_12, mw_13, mw_14, mw_15, mw_16, mw_17, mw_18, mw_19, mw_20, mw_21, mw_22, h18]) | (refine bq_t (by omega) ?_) | (refine bq_f (by omega) ?_) | fail)
    exact hq S' 0 ⟨(PF_n (by omega)).trans hpf, h17, h18⟩
  | inr q =>
    obtain ⟨a, g', t'⟩ := q
    rw [hr1] at hpo hq hR
    obtain ⟨hpf, h17, h25, h18, hi', hn, hN'⟩ := hpo
    obtain ⟨r1, r2, r3, r4, r5, _⟩ := hR
    rw [if_pos (by omega)] at r5
    have t00 : tsh (.num 0) = 0 := rfl
    have e24 : uN S.1 17 (p + 1) 24 = S.1 24 := uN_n (by omega)
    simp only [e24] at hn
    have hge := hpf.2.2.1
    simp only [e24] at hge
    have hPF : PF S S' := (PF_n (by omega)).trans hpf
    have hN2 := Nd_pf hPF hN (by omega)
    have q1 := Nd_sh hN2
    have q2 := Nd_sh hN'
    have e1 := q1.2.1
    have e2 := q1.2.2
    have e3 := q2.2.1
    have e4 := q2.2.2
    have b1 := tsh_0 t
    have b2 := tsh_0 t'
    have b3 := tlo_rg t
    have b4 := tlo_rg t'
    repeat' (first | (simp (disch := first | assumption | exact wd_n | exact wd_i | exact wd_r | exact ct_r | exact ct_i | exact stB_0 | exact stB_1 | exact stB_2 | exact stB_3 | exact stB_4 | exact stB_5 | exact ct_2 | exact wd_0 | exact wd_f | omega) only [x154_0, x154_1, x154_4, x154_6, x154_9, x154_9b, x154_12, x154_13, x154_16, x154_18, x154_21, x154_22, x154_23, x154_26, x154_27, x154_28, x154_31, x154_32, x154_35, x154_36, x154_37, x154_40, x154_40b, x154_43, x154_44, x154_45, x154_46, x154_47, x154_48, x154_49, x154_50, x154_53, x154_54, x154_55, x154_56, x154_59, x154_60, x154_61, x154_64, x154_65, x154_68, x154_69, x154_70, x154_71, x154_74, x154_75, x154_76, x154_79, x154_82, x154_83, x154_86, x154_87, e154, XC_v, XC_s, true_and, and_true, and_self, bq_T, bq_F, yt_s, Bool.false_eq_true, Bool.true_eq_false, mm_cl, mm_1, uN_s, uN_n, uA_s, uA_n, uN_uN, mf_0, mf_1, mf_2, mf_3, mf_4, mf_5, mf_6, mf_7, mf_8, mf_9, mf_10, mf_11, mf_12, mf_13, mf_14, mf_15, mf_16, mf_17, mf_18, mf_19, mf_20, mf_21, mf_22, mf_23, mf_24, mf_25, mf_26, mf_27, mf_28, mf_29, mf_30, mf_31, mf_32, mf_33, mf_34, mf_35, mf_36, mf_37, mf_38, mf_39, mf_40, ms_3, ms_4, ms_5, ms_7, ms_9, ms_10, ms_11, ms_12, ms_14, ms_16, ms_17, ms_18, ms_24, ms_25, ms_29, ms_34, ms_35, ms_38, ma_0, ma_1, ma_2, ma_3, ma_4, ma_5, ma_6, ma_7, ma_8, ma_9, ma_10, ma_11, ma_12, ma_13, ma_14, ma_15, ma_16, ma_17, ma_18, ma_19, ma_20, ma_21, ma_22, mw_0, mw_1, mw_2, mw_3, mw_4, mw_5, mw_6, mw_7, mw_8, mw_9, mw_10, mw_11, mw_12, mw_13, mw_14, mw_15, mw_16, mw_17, mw_18, mw_19, mw_20, mw_21, mw_22, h18, e1, e2, e3, e4, m_least, m_most, m_grows]) | (refine bq_t (by omega) ?_) | (refine bq_f (by omega) ?_) | fail)
    refine h1 d (grw S' 5 i0 i (min (tsh t) (tsh t')) (max (tlo t) (tlo t'))) Q c n a g' (.sub t t') _ _ (by omega) (Pre_pf hP' (hPF.trans PF_grw) ((grw_n (by omega)).trans h17) ((grw_n (by omega)).trans h18) ((grw_n (by omega)).trans h25) (by omega) r2 (by omega) r4 (by rw [grw_24]; omega)) (by omega) (by rw [grw_24]; omega) ?_ (by show min (tsh t) (tsh t') ≤ a; omega) (fun S'' i' hpo' => ?_)
    · have w := grw_r (S := S') (k := 5) (l := i0) (r := i) (lo := min (tsh t) (tsh t')) (hi := max (tlo t) (tlo t'))
      unfold Nd
      refine ⟨by omega, w.2.2.2.1, by rw [w.2.2.2.2]; show _ = max (tlo t) (tlo t'); omega, w.1, by rw [w.2.1]; omega, by rw [w.2.2.1]; omega, ?_, ?_⟩
      · rw [w.2.1]; exact Nd_gr hN2 (by omega)
      · rw [w.2.2.1]; exact Nd_gr hN' (by omega)
    · exact hq S'' i' (PO_tr (b := 0) (b1 := 0) (hPF.trans PF_grw) (by rw [grw_24]; omega) hpo')
end MPA
