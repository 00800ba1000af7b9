/-! the list of matches -/
abbrev ML : Type := List (Int × Int)
def mls (sk : Int → Option (Int × Int × (Int → Int))) (L : Int) : Nat → Int → ML
  | 0, _ => []
  | f + 1, fr => if fr ≤ L then (match sk fr with
    | none => []
    | some q => (q.1, q.2.1) :: mls sk L f (if q.1 < q.2.1 then q.2.1 else q.2.1 + 1)) else []
def ml (G : Int → Int) (p : Int) : ML := mls (sG G p) (G 125) 42 0
def gl (l : ML) (i : Int) : Int × Int := l.getD i.toNat (0, 0)
def LA (c1 c2 : Int → Int) (l : ML) : Prop := ∀ i, 0 ≤ i → i < (l.length : Int) → c1 i = (gl l i).1 ∧ c2 i = (gl l i).2
def MLok (L : Int) : Int → ML → Prop
  | _, [] => True
  | fr, v :: l => fr ≤ v.1 ∧ v.1 ≤ v.2 ∧ v.2 ≤ L ∧ MLok L (if v.1 < v.2 then v.2 else v.2 + 1) l
theorem mls_ok {sk : Int → Option (Int × Int × (Int → Int))} {L : Int} (h : ∀ fr q, 0 ≤ fr → fr ≤ L → sk fr = some q → fr ≤ q.1 ∧ q.1 ≤ q.2.1 ∧ q.2.1 ≤ L) : ∀ (f : Nat) (fr : Int), 0 ≤ fr → MLok L fr (mls sk L f fr) := by
  intro f
  induction f with
  | zero => intro fr _; trivial
  | succ f ih =>
    intro fr h0
    unfold mls
    split
    · cases hs : sk fr with
      | none => trivial
      | some q =>
        have := h fr q h0 (by assumption) hs
        exact ⟨this.1, this.2.1, this.2.2, ih _ (by split <;> omega)⟩
    · trivial
theorem MLok_w {L : Int} : ∀ (l : ML) (a b : Int), a ≤ b → MLok L b l → MLok L a l := by
  intro l
  cases l with
  | nil => intro a b _ _; trivial
  | cons v l => intro a b h h2; exact ⟨by have := h2.1; omega, h2.2⟩
theorem MLok_n {L : Int} : ∀ (l : ML) (fr : Int), MLok L fr l → (l.length : Int) ≤ L + 1 - fr ∨ l = [] := by
  intro l
  induction l with
  | nil => intro fr _; exact Or.inr rfl
  | cons v l ih =>
    intro fr h
    obtain ⟨h1, h2, h3, h4⟩ := h
    left
    rw [List.length_cons]
    rcases ih _ h4 with h5 | h5
    · split at h5 <;> omega
    · rw [h5]
      simp only [List.length_nil]
      omega
theorem MLok_g {L : Int} : ∀ (l : ML) (fr : Int), MLok L fr l → ∀ i, 0 ≤ i → i < (l.length : Int) → fr ≤ (gl l i).1 ∧ (gl l i).1 ≤ (gl l i).2 ∧ (gl l i).2 ≤ L := by
  intro l
  induction l with
  | nil => intro fr _ i h0 h1; simp only [List.length_nil] at h1; omega
  | cons v l ih =>
    intro fr h i h0 h1
    obtain ⟨a1, a2, a3, a4⟩ := h
    rw [List.length_cons] at h1
    by_cases hi : i = 0
    · subst hi; exact ⟨a1, a2, a3⟩
    · have h := ih _ a4 (i - 1) (by omega) (by omega)
      have e : gl (v :: l) i = gl l (i - 1) := by
        unfold gl
        rw [show i.toNat = (i - 1).toNat + 1 by omega]
        rfl
      rw [e]
      exact ⟨by have := h.1; split at this <;> omega, h.2⟩
theorem sG_m {G : Int → Int} {p : Int} : ∀ fr q, 0 ≤ fr → fr ≤ G 125 → sG G p fr = some q → fr ≤ q.1 ∧ q.1 ≤ q.2.1 ∧ q.2.1 ≤ G 125 := by
  intro fr q h0 h1 h
  have := sG_ok ⟨h0, h1⟩ h
  exact ⟨this.1, this.2.2.1, this.2.2.2.1⟩
theorem ml_ok (G : Int → Int) (p : Int) : MLok (G 125) 0 (ml G p) := mls_ok sG_m 42 0 (Int.le_refl _)
theorem ml_n {G : Int → Int} {p : Int} (hk : GOK G) : ((ml G p).length : Int) ≤ 41 := by
  have h := hk.2.2.2.2.1
  have h0 := hk.2.2.2.1
  rcases MLok_n _ _ (ml_ok G p) with h1 | h1
  · omega
  · rw [h1]; simp only [List.length_nil]; omega
theorem gl_snoc {l : ML} {v : Int × Int} {i : Int} (h0 : 0 ≤ i) : gl (l ++ [v]) i = if i = (l.length : Int) then v else if i < (l.length : Int) then gl l i else (0, 0) := by
  unfold gl
  by_cases h : i = (l.length : Int)
  · rw [if_pos h, show i.toNat = l.length by omega]
    simp [List.getD]
  · rw [if_neg h]
    by_cases h2 : i < (l.length : Int)
    · rw [if_pos h2]
      simp only [List.getD]
      rw [List.getElem?_append_left (by omega)]
    · rw [if_neg h2]
      simp only [List.getD]
      rw [List.getElem?_eq_none (by simp; omega)]
      rfl
theorem LA_snoc {c1 c2 : Int → Int} {l : ML} {s e : Int} (h : LA c1 c2 l) : LA (up c1 (l.length : Int) s) (up c2 (l.length : Int) e) (l ++ [(s, e)]) := by
  intro i h0 h1
  have hl : ((l ++ [(s, e)]).length : Int) = (l.length : Int) + 1 := by simp
  rw [gl_snoc h0]
  by_cases hi : i = (l.length : Int)
  · rw [if_pos hi, hi, up_s, up_s]; exact ⟨rfl, rfl⟩
  · rw [if_neg hi, if_pos (by omega), up_n hi, up_n hi]
    exact h i h0 (by omega)
section LST
variable {X : JX} {M0 : JM} {m d : Nat} {S : MS} {Q : JR → JM → Prop} {G : Int → Int} {p : Int}
theorem m_listsL (hd : 8 ≤ d) (hk : GOK G) : ∀ (f : Nat) (S1 : MS) (fr : Int) (l3 : Option Value) (pre : ML), LDG S1 G p → RF S S1 → S1.1 5 = S.1 5 → 0 ≤ fr → fr ≤ 41 → G 125 + 1 - fr ≤ f → S1.1 38 = (pre.length : Int) → (pre.length : Int) ≤ fr → LA (S1.2 19) (S1.2 20) pre → (∀ S', RF S S' → S'.1 5 = S.1 5 → S'.1 38 = ((pre ++ mls (sG G p) (G 125) f fr).length : Int) → LA (S'.2 19) (S'.2 20) (pre ++ mls (sG G p) (G 125) f fr) → Q (.inl none) (mm M0 m S')) → XX X d 193 (12, [some (.ref m), some (.int (ii p)), some (.int (ii fr)), l3], [], mm M0 m S1) Q := by
  intro f
  induction f with
  | zero =>
    intro S1 fr l3 pre hD hR h5 h0 h41 hf h38 hpl hLA hq
    have hL : S1.2 0 125 = G 125 := by rw [hD.1]
    obtain ⟨x1, x2, x3⟩ := hk.2.2.2
    rw [x193_12]
    repeat' (first | (simp (disch := first | assumption | exact wd_n | exact wd_i | exact wd_r | exact ct_r | exact ct_i | exact stB_0 | exact stB_1 | exact stB_2 | exact stB_3 | exact stB_4 | exact stB_5 | exact ct_2 | exact b2i_c _ | exact wd_0 | exact wd_f | omega) only [x193_0, x193_1, x193_2, x193_5, x193_6, x193_7, x193_10, x193_11, x193_13, x193_14, x193_17, x193_19, x193_20, x193_23, x193_24, x193_25, x193_28, x193_29, x193_30, x193_33, x193_34, x193_35, x193_38, x193_39, x193_42, x193_43, x193_44, x193_45, x193_48, x193_49, x193_52, x193_53, x193_56, x193_57, x193_58, x193_59, x193_62, x193_63, x193_64, x193_67, x193_68, x193_71, x193_72, x193_75, x193_76, x193_79, x193_82, x193_83, x193_86, x193_87, x193_88, x193_89, x193_92, e193, XC_v, XC_s, true_and, and_true, and_self, bq_T, bq_F, yt_s, Bool.false_eq_true, Bool.true_eq_false, mm_cl, mm_1, uN_s, uN_n, uA_s, uA_n, uN_uN, mf_0, mf_1, mf_2, mf_3, mf_4, mf_5, mf_6, mf_7, mf_8, mf_9, mf_10, mf_11, mf_12, mf_13, mf_14, mf_15, mf_16, mf_17, mf_18, mf_19, mf_20, mf_21, mf_22, mf_23, mf_24, mf_25, mf_26, mf_27, mf_28, mf_29, mf_30, mf_31, mf_32, mf_33, mf_34, mf_35, mf_36, mf_37, mf_38, mf_39, mf_40, ms_3, ms_4, ms_5, ms_7, ms_9, ms_10, ms_11, ms_12, ms_14, ms_16, ms_17, ms_18, ms_24, ms_25, ms_29, ms_34, ms_35, ms_38, ma_0, ma_1, ma_2, ma_3, ma_4, ma_5, ma_6, ma_7, ma_8, ma_9, ma_10, ma_11, ma_12, ma_13, ma_14, ma_15, ma_16, ma_17, ma_18, ma_19, ma_20, ma_21, ma_22, mw_0, mw_1, mw_2, mw_3, mw_4, mw_5, mw_6, mw_7, mw_8, mw_9, mw_10, mw_11, mw_12, mw_13, mw_14, mw_15, mw_16, mw_17, mw_18, mw_19, mw_20, mw_21, mw_22, hL]) | (refine bq_t (by omega) ?_) | (refine bq_f (by omega) ?_) | fail)
    unfold mls at hq
    rw [List.append_nil] at hq
    exact hq S1 hR h5 h38 hLA
  | succ f ih =>
    intro S1 fr l3 pre hD hR h5 h0 h41 hf h38 hpl hLA hq
    have hL : S1.2 0 125 = G 125 := by rw [hD.1]
    obtain ⟨x1, x2, x3⟩ := hk.2.2.2
    rw [x193_12]
    unfold mls at hq
    by_cases hfr : fr ≤ G 125
    · rw [if_pos hfr] at hq
      repeat' (first | (simp (disch := first | assumption | exact wd_n | exact wd_i | exact wd_r | exact ct_r | exact ct_i | exact stB_0 | exact stB_1 | exact stB_2 | exact stB_3 | exact stB_4 | exact stB_5 | exact ct_2 | exact b2i_c _ | exact wd_0 | exact wd_f | omega) only [x193_0, x193_1, x193_2, x193_5, x193_6, x193_7, x193_10, x193_11, x193_13, x193_14, x193_17, x193_19, x193_20, x193_23, x193_24, x193_25, x193_28, x193_29, x193_30, x193_33, x193_34, x193_35, x193_38, x193_39, x193_42, x193_43, x193_44, x193_45, x193_48, x193_49, x193_52, x193_53, x193_56, x193_57, x193_58, x193_59, x193_62, x193_63, x193_64, x193_67, x193_68, x193_71, x193_72, x193_75, x193_76, x193_79, x193_82, x193_83, x193_86, x193_87, x193_88, x193_89, x193_92, e193, XC_v, XC_s, true_and, and_true, and_self, bq_T, bq_F, yt_s, Bool.false_eq_true, Bool.true_eq_false, mm_cl, mm_1, uN_s, uN_n, uA_s, uA_n, uN_uN, mf_0, mf_1, mf_2, mf_3, mf_4, mf_5, mf_6, mf_7, mf_8, mf_9, mf_10, mf_11, mf_12, mf_13, mf_14, mf_15, mf_16, mf_17, mf_18, mf_19, mf_20, mf_21, mf_22, mf_23, mf_24, mf_25, mf_26, mf_27, mf_28, mf_29, mf_30, mf_31, mf_32, mf_33, mf_34, mf_35, mf_36, mf_37, mf_38, mf_39, mf_40, ms_3, ms_4, ms_5, ms_7, ms_9, ms_10, ms_11, ms_12, ms_14, ms_16, ms_17, ms_18, ms_24, ms_25, ms_29, ms_34, ms_35, ms_38, ma_0, ma_1, ma_2, ma_3, ma_4, ma_5, ma_6, ma_7, ma_8, ma_9, ma_10, ma_11, ma_12, ma_13, ma_14, ma_15, ma_16, ma_17, ma_18, ma_19, ma_20, ma_21, ma_22, mw_0, mw_1, mw_2, mw_3, mw_4, mw_5, mw_6, mw_7, mw_8, mw_9, mw_10, mw_11, mw_12, mw_13, mw_14, mw_15, mw_16, mw_17, mw_18, mw_19, mw_20, mw_21, mw_22, hL]) | (refine bq_t (by omega) ?_) | (refine bq_f (by omega) ?_) | fail)
      refine m_seekG (by omega) hD ⟨h0, hfr⟩ (fun S2 hP => ?_)
      have hD2 := LDG_pw hP hD
      have hR2 := hR.trans hP.rf
      have e5 : S2.1 5 = S.1 5 := (hP.1 5 (by omega) (by omega)).trans h5
      have e38 : S2.1 38 = (pre.length : Int) := (hP.1 38 (by omega) (by omega)).trans h38
      have e19 : S2.2 19 = S1.2 19 := hP.2 19 (by omega)
      have e20 : S2.2 20 = S1.2 20 := hP.2 20 (by omega)
      cases hs : sG G p fr with
      | none =>
        rw [hs] at hq
        repeat' (first | (simp (disch := first | assumption | exact wd_n | exact wd_i | exact wd_r | exact ct_r | exact ct_i | exact stB_0 | exact stB_1 | exact stB_2 | exact stB_3 | exact stB_4 | exact stB_5 | exact ct_2 | exact b2i_c _ | exact wd_0 | exact wd_f | omega) only [x193_0, x193_1, x193_2, x193_5, x193_6, x193_7, x193_10, x193_11, x193_13, x193_14, x193_17, x193_19, x193_20, x193_23, x193_24, x193_25, x193_28, x193_29, x193_30, x193_33, x193_34, x193_35, x193_38, x193_39, x193_42, x193_43, x193_44, x193_45, x193_48, x193_49, x193_52, x193_53, x193_56, x193_57, x193_58, x193_59, x193_62, x193_63, x193_64, x193_67, x193_68, x193_71, x193_72, x193_75, x193_76, x193_79, x193_82, x193_83, x193_86, x193_87, x193_88, x193_89, x193_92, e193, XC_v, XC_s, true_and, and_true, and_self, bq_T, bq_F, yt_s, Bool.false_eq_true, Bool.true_eq_false, mm_cl, mm_1, uN_s, uN_n, uA_s, uA_n, uN_uN, mf_0, mf_1, mf_2, mf_3, mf_4, mf_5, mf_6, mf_7, mf_8, mf_9, mf_10, mf_11, mf_12, mf_13, mf_14, mf_15, mf_16, mf_17, mf_18, mf_19, mf_20, mf_21, mf_22, mf_23, mf_24, mf_25, mf_26, mf_27, mf_28, mf_29, mf_30, mf_31, mf_32, mf_33, mf_34, mf_35, mf_36, mf_37, mf_38, mf_39, mf_40, ms_3, ms_4, ms_5, ms_7, ms_9, ms_10, ms_11, ms_12, ms_14, ms_16, ms_17, ms_18, ms_24, ms_25, ms_29, ms_34, ms_35, ms_38, ma_0, ma_1, ma_2, ma_3, ma_4, ma_5, ma_6, ma_7, ma_8, ma_9, ma_10, ma_11, ma_12, ma_13, ma_14, ma_15, ma_16, ma_17, ma_18, ma_19, ma_20, ma_21, ma_22, mw_0, mw_1, mw_2, mw_3, mw_4, mw_5, mw_6, mw_7, mw_8, mw_9, mw_10, mw_11, mw_12, mw_13, mw_14, mw_15, mw_16, mw_17, mw_18, mw_19, mw_20, mw_21, mw_22]) | (refine bq_t (by omega) ?_) | (refine bq_f (by omega) ?_) | fail)
        rw [List.append_nil] at hq
        exact hq S2 hR2 e5 e38 (by rw [e19, e20]; exact hLA)
      | some q =>
        rw [hs] at hq
        intro e35 e16
        have ho := sG_m fr q h0 hfr hs
        repeat' (first | (simp (disch := first | assumption | exact wd_n | exact wd_i | exact wd_r | exact ct_r | exact ct_i | exact stB_0 | exact stB_1 | exact stB_2 | exact stB_3 | exact stB_4 | exact stB_5 | exact ct_2 | exact b2i_c _ | exact wd_0 | exact wd_f | omega) only [x193_0, x193_1, x193_2, x193_5, x193_6, x193_7, x193_10, x193_11, x193_13, x193_14, x193_17, x193_19, x193_20, x193_23, x193_24, x193_25, x193_28, x193_29, x193_30, x193_33, x193_34, x193_35, x193_38, x193_39, x193_42, x193_43, x193_44, x193_45, x193_48, x193_49, x193_52, x193_53, x193_56, x193_57, x193_58, x193_59, x193_62, x193_63, x193_64, x193_67, x193_68, x193_71, x193_72, x193_75, x193_76, x193_79, x193_82, x193_83, x193_86, x193_87, x193_88, x193_89, x193_92, e193, XC_v, XC_s, true_and, and_true, and_self, bq_T, bq_F, yt_s, Bool.false_eq_true, Bool.true_eq_false, mm_cl, mm_1, uN_s, uN_n, uA_s, uA_n, uN_uN, mf_0, mf_1, mf_2, mf_3, mf_4, mf_5, mf_6, mf_7, mf_8, mf_9, mf_10, mf_11, mf_12, mf_13, mf_14, mf_15, mf_16, mf_17, mf_18, mf_19, mf_20, mf_21, mf_22, mf_23, mf_24, mf_25, mf_26, mf_27, mf_28, mf_29, mf_30, mf_31, mf_32, mf_33, mf_34, mf_35, mf_36, mf_37, mf_38, mf_39, mf_40, ms_3, ms_4, ms_5, ms_7, ms_9, ms_10, ms_11, ms_12, ms_14, ms_16, ms_17, ms_18, ms_24, ms_25, ms_29, ms_34, ms_35, ms_38, ma_0, ma_1, ma_2, ma_3, ma_4, ma_5, ma_6, ma_7, ma_8, ma_9, ma_10, ma_11, ma_12, ma_13, ma_14, ma_15, ma_16, ma_17, ma_18, ma_19, ma_20, ma_21, ma_22, mw_0, mw_1, mw_2, mw_3, mw_4, mw_5, mw_6, mw_7, mw_8, mw_9, mw_10, mw_11, mw_12, mw_13, mw_14, mw_15, mw_16, mw_17, mw_18, mw_19, mw_20, mw_21, mw_22, e38, e35]) | (refine bq_t (by omega) ?_) | (refine bq_f (by omega) ?_) | fail)
        have hLA2 := LA_snoc (s := q.1) (e := q.2.1) hLA
        have hlen : ((pre ++ [(q.1, q.2.1)]).length : Int) = (pre.length : Int) + 1 := by simp
        have fin : ∀ fr', fr' = (if q.1 < q.2.1 then q.2.1 else q.2.1 + 1) → XX X d 193 (12, [some (.ref m), some (.int (ii p)), some (.int (ii fr')), some (.int (ii q.1))], [], mm M0 m (uN S2.1 38 ((pre.length : Int) + 1), uA (uA S2.2 19 (up (S2.2 19) (pre.length : Int) q.1)) 20 (up (S2.2 20) (pre.length : Int) q.2.1))) Q := by
          intro fr' hfr'
          refine ih _ fr' _ (pre ++ [(q.1, q.2.1)]) (LDG_n (S := (S2.1, uA (uA S2.2 19 (up (S2.2 19) (pre.length : Int) q.1)) 20 (up (S2.2 20) (pre.length : Int) q.2.1))) (by omega) (LDG_a (S := (S2.1, uA S2.2 19 (up (S2.2 19) (pre.length : Int) q.1))) (by omega) (LDG_a (by omega) hD2))) (RF_n (S' := (S2.1, uA (uA S2.2 19 (up (S2.2 19) (pre.length : Int) q.1)) 20 (up (S2.2 20) (pre.length : Int) q.2.1))) (RF_a (S' := (S2.1, uA S2.2 19 (up (S2.2 19) (pre.length : Int) q.1))) (RF_a hR2 (by omega)) (by omega)) (by omega)) ?_ ?_ ?_ ?_ ?_ ?_ ?_ ?_
          · simp (disch := omega) only [uN_s, uN_n, uA_s, uA_n, up_s, up_n, uN_uN, uA_uA]
            exact e5
          · rw [hfr']; split <;> omega
          · rw [hfr']; split <;> omega
          · rw [hfr']; split <;> omega
          · simp (disch := omega) only [uN_s, uN_n, uA_s, uA_n, up_s, up_n, uN_uN, uA_uA]
            exact hlen.symm
          · rw [hlen, hfr']; split <;> omega
          · simp (disch := omega) only [uN_s, uN_n, uA_s, uA_n, up_s, up_n, uN_uN, uA_uA]
            rw [e19, e20]
            exact hLA2
          · intro S' r1 r2 r3 r4
            rw [hfr', List.append_assoc] at r3 r4
            exact hq S' r1 r2 r3 r4
        by_cases hc : q.1 < q.2.1
        · repeat' (first | (simp (disch := first | assumption | exact wd_n | exact wd_i | exact wd_r | exact ct_r | exact ct_i | exact stB_0 | exact stB_1 | exact stB_2 | exact stB_3 | exact stB_4 | exact stB_5 | exact ct_2 | exact b2i_c _ | exact wd_0 | exact wd_f | omega) only [x193_0, x193_1, x193_2, x193_5, x193_6, x193_7, x193_10, x193_11, x193_13, x193_14, x193_17, x193_19, x193_20, x193_23, x193_24, x193_25, x193_28, x193_29, x193_30, x193_33, x193_34, x193_35, x193_38, x193_39, x193_42, x193_43, x193_44, x193_45, x193_48, x193_49, x193_52, x193_53, x193_56, x193_57, x193_58, x193_59, x193_62, x193_63, x193_64, x193_67, x193_68, x193_71, x193_72, x193_75, x193_76, x193_79, x193_82, x193_83, x193_86, x193_87, x193_88, x193_89, x193_92, e193, XC_v, XC_s, true_and, and_true, and_self, bq_T, bq_F, yt_s, Bool.false_eq_true, Bool.true_eq_false, mm_cl, mm_1, uN_s, uN_n, uA_s, uA_n, uN_uN, mf_0, mf_1, mf_2, mf_3, mf_4, mf_5, mf_6, mf_7, mf_8, mf_9, mf_10, mf_11, mf_12, mf_13, mf_14, mf_15, mf_16, mf_17, mf_18, mf_19, mf_20, mf_21, mf_22, mf_23, mf_24, mf_25, mf_26, mf_27, mf_28, mf_29, mf_30, mf_31, mf_32, mf_33, mf_34, mf_35, mf_36, mf_37, mf_38, mf_39, mf_40, ms_3, ms_4, ms_5, ms_7, ms_9, ms_10, ms_11, ms_12, ms_14, ms_16, ms_17, ms_18, ms_24, ms_25, ms_29, ms_34, ms_35, ms_38, ma_0, ma_1, ma_2, ma_3, ma_4, ma_5, ma_6, ma_7, ma_8, ma_9, ma_10, ma_11, ma_12, ma_13, ma_14, ma_15, ma_16, ma_17, ma_18, ma_19, ma_20, ma_21, ma_22, mw_0, mw_1, mw_2, mw_3, mw_4, mw_5, mw_6, mw_7, mw_8, mw_9, mw_10, mw_11, mw_12, mw_13, mw_14, mw_15, mw_16, mw_17, mw_18, mw_19, mw_20, mw_21, mw_22, e35]) | (refine bq_t (by omega) ?_) | (refine bq_f (by omega) ?_) | fail)
          exact fin _ (by rw [if_pos hc])
        · repeat' (first | (simp (disch := first | assumption | exact wd_n | exact wd_i | exact wd_r | exact ct_r | exact ct_i | exact stB_0 | exact stB_1 | exact stB_2 | exact stB_3 | exact stB_4 | exact stB_5 | exact ct_2 | exact b2i_c _ | exact wd_0 | exact wd_f | omega) only [x193_0, x193_1, x193_2, x193_5, x193_6, x193_7, x193_10, x193_11, x193_13, x193_14, x193_17, x193_19, x193_20, x193_23, x193_24, x193_25, x193_28, x193_29, x193_30, x193_33, x193_34, x193_35, x193_38, x193_39, x193_42, x193_43, x193_44, x193_45, x193_48, x193_49, x193_52, x193_53, x193_56, x193_57, x193_58, x193_59, x193_62, x193_63, x193_64, x193_67, x193_68, x193_71, x193_72, x193_75, x193_76, x193_79, x193_82, x193_83, x193_86, x193_87, x193_88, x193_89, x193_92, e193, XC_v, XC_s, true_and, and_true, and_self, bq_T, bq_F, yt_s, Bool.false_eq_true, Bool.true_eq_false, mm_cl, mm_1, uN_s, uN_n, uA_s, uA_n, uN_uN, mf_0, mf_1, mf_2, mf_3, mf_4, mf_5, mf_6, mf_7, mf_8, mf_9, mf_10, mf_11, mf_12, mf_13, mf_14, mf_15, mf_16, mf_17, mf_18, mf_19, mf_20, mf_21, mf_22, mf_23, mf_24, mf_25, mf_26, mf_27, mf_28, mf_29, mf_30, mf_31, mf_32, mf_33, mf_34, mf_35, mf_36, mf_37, mf_38, mf_39, mf_40, ms_3, ms_4, ms_5, ms_7, ms_9, ms_10, ms_11, ms_12, ms_14, ms_16, ms_17, ms_18, ms_24, ms_25, ms_29, ms_34, ms_35, ms_38, ma_0, ma_1, ma_2, ma_3, ma_4, ma_5, ma_6, ma_7, ma_8, ma_9, ma_10, ma_11, ma_12, ma_13, ma_14, ma_15, ma_16, ma_17, ma_18, ma_19, ma_20, ma_21, ma_22, mw_0, mw_1, mw_2, mw_3, mw_4, mw_5, mw_6, mw_7, mw_8, mw_9, mw_10, mw_11, mw_12, mw_13, mw_14, mw_15, mw_16, mw_17, mw_18, mw_19, mw_20, mw_21, mw_22, e35]) | (refine bq_t (by omega) ?_) | (refine bq_f (by omega) ?_) | fail)
          exact fin _ (by rw [if_neg hc])
    · rw [if_neg hfr, List.append_nil] at hq
      repeat' (first | (simp (disch := first | assumption | exact wd_n | exact wd_i | exact wd_r | exact ct_r | exact ct_i | exact stB_0 | exact stB_1 | exact stB_2 | exact stB_3 | exact stB_4 | exact stB_5 | exact ct_2 | exact b2i_c _ | exact wd_0 | exact wd_f | omega) only [x193_0, x193_1, x193_2, x193_5, x193_6, x193_7, x193_10, x193_11, x193_13, x193_14, x193_17, x193_19, x193_20, x193_23, x193_24, x193_25, x193_28, x193_29, x193_30, x193_33, x193_34, x193_35, x193_38, x193_39, x193_42, x193_43, x193_44, x193_45, x193_48, x193_49, x193_52, x193_53, x193_56, x193_57, x193_58, x193_59, x193_62, x193_63, x193_64, x193_67, x193_68, x193_71, x193_72, x193_75, x193_76, x193_79, x193_82, x193_83, x193_86, x193_87, x193_88, x193_89, x193_92, e193, XC_v, XC_s, true_and, and_true, and_self, bq_T, bq_F, yt_s, Bool.false_eq_true, Bool.true_eq_false, mm_cl, mm_1, uN_s, uN_n, uA_s, uA_n, uN_uN, mf_0, mf_1, mf_2, mf_3, mf_4, mf_5, mf_6, mf_7, mf_8, mf_9, mf_10, mf_11, mf_12, mf_13, mf_14, mf_15, mf_16, mf_17, mf_18, mf_19, mf_20, mf_21, mf_22, mf_23, mf_24, mf_25, mf_26, mf_27, mf_28, mf_29, mf_30, mf_31, mf_32, mf_33, mf_34, mf_35, mf_36, mf_37, mf_38, mf_39, mf_40, ms_3, ms_4, ms_5, ms_7, ms_9, ms_10, ms_11, ms_12, ms_14, ms_16, ms_17, ms_18, ms_24, ms_25, ms_29, ms_34, ms_35, ms_38, ma_0, ma_1, ma_2, ma_3, ma_4, ma_5, ma_6, ma_7, ma_8, ma_9, ma_10, ma_11, ma_12, ma_13, ma_14, ma_15, ma_16, ma_17, ma_18, ma_19, ma_20, ma_21, ma_22, mw_0, mw_1, mw_2, mw_3, mw_4, mw_5, mw_6, mw_7, mw_8, mw_9, mw_10, mw_11, mw_12, mw_13, mw_14, mw_15, mw_16, mw_17, mw_18, mw_19, mw_20, mw_21, mw_22, hL]) | (refine bq_t (by omega) ?_) | (refine bq_f (by omega) ?_) | fail)
      exact hq S1 hR h5 h38 hLA
theorem m_lists (hd : 412 ≤ d) (hG : S.2 0 = G) (hk : GOK G) (hv : vP G p) (hq : ∀ S', RF S S' → S'.1 5 = S.1 5 → S'.1 38 = ((ml G p).length : Int) → LA (S'.2 19) (S'.2 20) (ml G p) → Q (.inl none) (mm M0 m S')) : CC X d 193 [.ref m, .int (ii p)] (mm M0 m S) Q := by
  obtain ⟨x1, x2, x3⟩ := hk.2.2.2
  repeat' (first | (simp (disch := first | assumption | exact wd_n | exact wd_i | exact wd_r | exact ct_r | exact ct_i | exact stB_0 | exact stB_1 | exact stB_2 | exact stB_3 | exact stB_4 | exact stB_5 | exact ct_2 | exact b2i_c _ | exact wd_0 | exact wd_f | omega) only [x193_0, x193_1, x193_2, x193_5, x193_6, x193_7, x193_10, x193_11, x193_13, x193_14, x193_17, x193_19, x193_20, x193_23, x193_24, x193_25, x193_28, x193_29, x193_30, x193_33, x193_34, x193_35, x193_38, x193_39, x193_42, x193_43, x193_44, x193_45, x193_48, x193_49, x193_52, x193_53, x193_56, x193_57, x193_58, x193_59, x193_62, x193_63, x193_64, x193_67, x193_68, x193_71, x193_72, x193_75, x193_76, x193_79, x193_82, x193_83, x193_86, x193_87, x193_88, x193_89, x193_92, e193, XC_v, XC_s, true_and, and_true, and_self, bq_T, bq_F, yt_s, Bool.false_eq_true, Bool.true_eq_false, mm_cl, mm_1, uN_s, uN_n, uA_s, uA_n, uN_uN, mf_0, mf_1, mf_2, mf_3, mf_4, mf_5, mf_6, mf_7, mf_8, mf_9, mf_10, mf_11, mf_12, mf_13, mf_14, mf_15, mf_16, mf_17, mf_18, mf_19, mf_20, mf_21, mf_22, mf_23, mf_24, mf_25, mf_26, mf_27, mf_28, mf_29, mf_30, mf_31, mf_32, mf_33, mf_34, mf_35, mf_36, mf_37, mf_38, mf_39, mf_40, ms_3, ms_4, ms_5, ms_7, ms_9, ms_10, ms_11, ms_12, ms_14, ms_16, ms_17, ms_18, ms_24, ms_25, ms_29, ms_34, ms_35, ms_38, ma_0, ma_1, ma_2, ma_3, ma_4, ma_5, ma_6, ma_7, ma_8, ma_9, ma_10, ma_11, ma_12, ma_13, ma_14, ma_15, ma_16, ma_17, ma_18, ma_19, ma_20, ma_21, ma_22, mw_0, mw_1, mw_2, mw_3, mw_4, mw_5, mw_6, mw_7, mw_8, mw_9, mw_10, mw_11, mw_12, mw_13, mw_14, mw_15, mw_16, mw_17, mw_18, mw_19, mw_20, mw_21, mw_22]) | (refine bq_t (by omega) ?_) | (refine bq_f (by omega) ?_) | fail)
  refine m_layG (by omega) hG hk hv (fun S1 h1 h2 => ?_)
  repeat' (first | (simp (disch := first | assumption | exact wd_n | exact wd_i | exact wd_r | exact ct_r | exact ct_i | exact stB_0 | exact stB_1 | exact stB_2 | exact stB_3 | exact stB_4 | exact stB_5 | exact ct_2 | exact b2i_c _ | exact wd_0 | exact wd_f | omega) only [x193_0, x193_1, x193_2, x193_5, x193_6, x193_7, x193_10, x193_11, x193_13, x193_14, x193_17, x193_19, x193_20, x193_23, x193_24, x193_25, x193_28, x193_29, x193_30, x193_33, x193_34, x193_35, x193_38, x193_39, x193_42, x193_43, x193_44, x193_45, x193_48, x193_49, x193_52, x193_53, x193_56, x193_57, x193_58, x193_59, x193_62, x193_63, x193_64, x193_67, x193_68, x193_71, x193_72, x193_75, x193_76, x193_79, x193_82, x193_83, x193_86, x193_87, x193_88, x193_89, x193_92, e193, XC_v, XC_s, true_and, and_true, and_self, bq_T, bq_F, yt_s, Bool.false_eq_true, Bool.true_eq_false, mm_cl, mm_1, uN_s, uN_n, uA_s, uA_n, uN_uN, mf_0, mf_1, mf_2, mf_3, mf_4, mf_5, mf_6, mf_7, mf_8, mf_9, mf_10, mf_11, mf_12, mf_13, mf_14, mf_15, mf_16, mf_17, mf_18, mf_19, mf_20, mf_21, mf_22, mf_23, mf_24, mf_25, mf_26, mf_27, mf_28, mf_29, mf_30, mf_31, mf_32, mf_33, mf_34, mf_35, mf_36, mf_37, mf_38, mf_39, mf_40, ms_3, ms_4, ms_5, ms_7, ms_9, ms_10, ms_11, ms_12, ms_14, ms_16, ms_17, ms_18, ms_24, ms_25, ms_29, ms_34, ms_35, ms_38, ma_0, ma_1, ma_2, ma_3, ma_4, ma_5, ma_6, ma_7, ma_8, ma_9, ma_10, ma_11, ma_12, ma_13, ma_14, ma_15, ma_16, ma_17, ma_18, ma_19, ma_20, ma_21, ma_22, mw_0, mw_1, mw_2, mw_3, mw_4, mw_5, mw_6, mw_7, mw_8, mw_9, mw_10, mw_11, mw_12, mw_13, mw_14, mw_15, mw_16, mw_17, mw_18, mw_19, mw_20, mw_21, mw_22]) | (refine bq_t (by omega) ?_) | (refine bq_f (by omega) ?_) | fail)
  refine m_listsL (S := S) (by omega) hk 42 (uN S1.1 38 0, S1.2) 0 none [] (LDG_n (by omega) h2) (RF_n h1.rf (by omega)) ?_ (by omega) (by omega) (by omega) (by simp (disch := omega) only [uN_s, uN_n, uA_s, uA_n, up_s, up_n, uN_uN, uA_uA]; rfl) (by simp) (fun i a b => by simp only [List.length_nil] at b; omega) (fun S' r1 r2 r3 r4 => ?_)
  · simp (disch := omega) only [uN_s, uN_n, uA_s, uA_n, up_s, up_n, uN_uN, uA_uA]
    exact h1.1 5 (by omega) (by omega) (by omega) (by omega) (by omega) (by omega)
  · rw [List.nil_append] at r3 r4
    exact hq S' r1 r2 r3 r4
end LST
