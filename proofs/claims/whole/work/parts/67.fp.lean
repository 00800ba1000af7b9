/-! quotients of small ints are numbers -/
theorem fpd_all : ((List.range 41).all fun a => (List.range 42).all fun b => b == 0 || (nn64 (FP.ddiv (FP.i2d (Int32.ofNat a)) (FP.i2d (Int32.ofNat b))) && FP.dcmp (FP.ddiv (FP.i2d (Int32.ofNat a)) (FP.i2d (Int32.ofNat b))) (FP.ddiv (FP.i2d (Int32.ofNat a)) (FP.i2d (Int32.ofNat b))) == some .eq)) = true := by decide +kernel
theorem fpf_all : ((List.range 41).all fun a => (List.range 41).all fun b => b == 0 || (nn32 (FP.fdiv (FP.i2f (Int32.ofNat a)) (FP.i2f (Int32.ofNat b))) && nn64 (FP.f2d (FP.fdiv (FP.i2f (Int32.ofNat a)) (FP.i2f (Int32.ofNat b)))) && FP.dcmp (FP.f2d (FP.fdiv (FP.i2f (Int32.ofNat a)) (FP.i2f (Int32.ofNat b)))) (FP.f2d (FP.fdiv (FP.i2f (Int32.ofNat a)) (FP.i2f (Int32.ofNat b)))) == some .eq)) = true := by decide +kernel
/-- the mean, the share -/
def qd (a b : Int) : UInt64 := FP.ddiv (FP.i2d (ii a)) (FP.i2d (ii b))
def qf (a b : Int) : UInt32 := FP.fdiv (FP.i2f (ii a)) (FP.i2f (ii b))
theorem qd_ok {a b : Int} (ha : 0 ≤ a ∧ a ≤ 40) (hb : 1 ≤ b ∧ b ≤ 41) : nn64 (qd a b) = true ∧ FP.dcmp (qd a b) (qd a b) = some .eq := by
  obtain ⟨n, rfl⟩ := Int.eq_ofNat_of_zero_le ha.1
  obtain ⟨k, rfl⟩ := Int.eq_ofNat_of_zero_le (show 0 ≤ b by omega)
  have h := List.all_eq_true.mp (List.all_eq_true.mp fpd_all n (List.mem_range.mpr (by omega))) k (List.mem_range.mpr (by omega))
  unfold qd
  rw [← ii_nat, ← ii_nat]
  rw [Bool.or_eq_true, Bool.and_eq_true] at h
  rcases h with h | h
  · have : k = 0 := by simpa using h
    omega
  · exact ⟨h.1, by simpa using h.2⟩
theorem qf_ok {a b : Int} (ha : 0 ≤ a ∧ a ≤ 40) (hb : 1 ≤ b ∧ b ≤ 40) : nn32 (qf a b) = true ∧ nn64 (FP.f2d (qf a b)) = true ∧ FP.dcmp (FP.f2d (qf a b)) (FP.f2d (qf a b)) = some .eq := by
  obtain ⟨n, rfl⟩ := Int.eq_ofNat_of_zero_le ha.1
  obtain ⟨k, rfl⟩ := Int.eq_ofNat_of_zero_le (show 0 ≤ b by omega)
  have h := List.all_eq_true.mp (List.all_eq_true.mp fpf_all n (List.mem_range.mpr (by omega))) k (List.mem_range.mpr (by omega))
  unfold qf
  rw [← ii_nat, ← ii_nat]
  rw [Bool.or_eq_true, Bool.and_eq_true, Bool.and_eq_true] at h
  rcases h with h | h
  · have : k = 0 := by simpa using h
    omega
  · exact ⟨h.1.1, h.1.2, by simpa using h.2⟩
section FPM
variable {X : JX} {M0 : JM} {m d : Nat} {S : MS} {Q : JR → JM → Prop} {G : Int → Int} {p : Int}
theorem m_meanMatchLength (hd : 413 ≤ d) (hG : S.2 0 = G) (hk : GOK G) (hp : I32 p)
    (q1 : ¬ vP G p → ∀ S' v, RF S S' → S'.1 5 = 1 → Q (.inl (some (.double v))) (mm M0 m S'))
    (q2 : vP G p → ml G p = [] → ∀ S' v, RF S S' → S'.1 5 = 2 → Q (.inl (some (.double v))) (mm M0 m S'))
    (q3 : vP G p → ml G p ≠ [] → ∀ S', RF S S' → S'.1 5 = 0 → Q (.inl (some (.double (qd (tot (ml G p)) ((ml G p).length : Int))))) (mm M0 m S')) : CC X d 220 [.ref m, .int (ii p)] (mm M0 m S) Q := by
  by_cases hv : vP G p
  · have mi := fun (d : Nat) (Q : JR → JM → Prop) (hd : 3 ≤ d) => m_isNone_t (X := X) (M0 := M0) (m := m) (Q := Q) hd hG hk hv
    repeat' (first | (simp (disch := first | assumption | exact wd_n | exact wd_i | exact wd_r | exact ct_r | exact ct_i | exact stB_0 | exact stB_1 | exact stB_2 | exact stB_3 | exact stB_4 | exact stB_5 | exact ct_2 | exact b2i_c _ | exact wd_0 | exact wd_f | omega) only [x220_0, x220_1, x220_2, x220_5, x220_5b, x220_8, x220_9, x220_10, x220_11, x220_12, x220_15, x220_16, x220_17, x220_20, x220_20b, x220_23, x220_24, x220_27, x220_28, x220_31, x220_31b, x220_34, x220_35, x220_38, x220_39, x220_42, x220_43, x220_44, x220_47, x220_48, x220_49, e220, XC_v, XC_s, true_and, and_true, and_self, bq_T, bq_F, yt_s, Bool.false_eq_true, Bool.true_eq_false, mm_cl, mm_1, uN_s, uN_n, uA_s, uA_n, uN_uN, mf_0, mf_1, mf_2, mf_3, mf_4, mf_5, mf_6, mf_7, mf_8, mf_9, mf_10, mf_11, mf_12, mf_13, mf_14, mf_15, mf_16, mf_17, mf_18, mf_19, mf_20, mf_21, mf_22, mf_23, mf_24, mf_25, mf_26, mf_27, mf_28, mf_29, mf_30, mf_31, mf_32, mf_33, mf_34, mf_35, mf_36, mf_37, mf_38, mf_39, mf_40, ms_3, ms_4, ms_5, ms_7, ms_9, ms_10, ms_11, ms_12, ms_14, ms_16, ms_17, ms_18, ms_24, ms_25, ms_29, ms_34, ms_35, ms_38, ma_0, ma_1, ma_2, ma_3, ma_4, ma_5, ma_6, ma_7, ma_8, ma_9, ma_10, ma_11, ma_12, ma_13, ma_14, ma_15, ma_16, ma_17, ma_18, ma_19, ma_20, ma_21, ma_22, mw_0, mw_1, mw_2, mw_3, mw_4, mw_5, mw_6, mw_7, mw_8, mw_9, mw_10, mw_11, mw_12, mw_13, mw_14, mw_15, mw_16, mw_17, mw_18, mw_19, mw_20, mw_21, mw_22, mi]) | (refine bq_t (by omega) ?_) | (refine bq_f (by omega) ?_) | fail)
    refine m_lists (S := (uN S.1 5 0, S.2)) (by omega) hG hk hv (fun S1 h1 h2 h3 h4 => ?_)
    have hR : RF S S1 := (RF_n (RF.refl S) (by omega)).trans h1
    have ht := tot_ml (p := p) hk
    have hL := hk.2.2.2.2.1
    have hn := ml_n (p := p) hk
    by_cases hl : ml G p = []
    · have h3' : S1.1 38 = 0 := by rw [h3, hl]; rfl
      repeat' (first | (simp (disch := first | assumption | exact wd_n | exact wd_i | exact wd_r | exact ct_r | exact ct_i | exact stB_0 | exact stB_1 | exact stB_2 | exact stB_3 | exact stB_4 | exact stB_5 | exact ct_2 | exact b2i_c _ | exact wd_0 | exact wd_f | omega) only [x220_0, x220_1, x220_2, x220_5, x220_5b, x220_8, x220_9, x220_10, x220_11, x220_12, x220_15, x220_16, x220_17, x220_20, x220_20b, x220_23, x220_24, x220_27, x220_28, x220_31, x220_31b, x220_34, x220_35, x220_38, x220_39, x220_42, x220_43, x220_44, x220_47, x220_48, x220_49, e220, XC_v, XC_s, true_and, and_true, and_self, bq_T, bq_F, yt_s, Bool.false_eq_true, Bool.true_eq_false, mm_cl, mm_1, uN_s, uN_n, uA_s, uA_n, uN_uN, mf_0, mf_1, mf_2, mf_3, mf_4, mf_5, mf_6, mf_7, mf_8, mf_9, mf_10, mf_11, mf_12, mf_13, mf_14, mf_15, mf_16, mf_17, mf_18, mf_19, mf_20, mf_21, mf_22, mf_23, mf_24, mf_25, mf_26, mf_27, mf_28, mf_29, mf_30, mf_31, mf_32, mf_33, mf_34, mf_35, mf_36, mf_37, mf_38, mf_39, mf_40, ms_3, ms_4, ms_5, ms_7, ms_9, ms_10, ms_11, ms_12, ms_14, ms_16, ms_17, ms_18, ms_24, ms_25, ms_29, ms_34, ms_35, ms_38, ma_0, ma_1, ma_2, ma_3, ma_4, ma_5, ma_6, ma_7, ma_8, ma_9, ma_10, ma_11, ma_12, ma_13, ma_14, ma_15, ma_16, ma_17, ma_18, ma_19, ma_20, ma_21, ma_22, mw_0, mw_1, mw_2, mw_3, mw_4, mw_5, mw_6, mw_7, mw_8, mw_9, mw_10, mw_11, mw_12, mw_13, mw_14, mw_15, mw_16, mw_17, mw_18, mw_19, mw_20, mw_21, mw_22, h3', m_fails, b2i_d, b2i_nd]) | (refine bq_t (by omega) ?_) | (refine bq_f (by omega) ?_) | fail)
      exact q2 hv hl _ _ (RF_n hR (by omega)) at_s
    · have hlen : 1 ≤ ((ml G p).length : Int) := by
        have := List.length_pos_iff.mpr hl
        omega
      have mc := fun (d : Nat) (Q : JR → JM → Prop) => m_covered (X := X) (M0 := M0) (m := m) (d := d) (Q := Q) (S := (uN S1.1 5 0, S1.2)) (ml_ok G p) hL hn ((at_n (by omega)).trans h3) h4
      unfold rt at mc
      have hnn := (qd_ok (a := tot (ml G p)) (b := ((ml G p).length : Int)) (by omega) (by omega)).1
      unfold qd at hnn
      repeat' (first | (simp (disch := first | assumption | exact wd_n | exact wd_i | exact wd_r | exact ct_r | exact ct_i | exact stB_0 | exact stB_1 | exact stB_2 | exact stB_3 | exact stB_4 | exact stB_5 | exact ct_2 | exact b2i_c _ | exact wd_0 | exact wd_f | omega) only [x220_0, x220_1, x220_2, x220_5, x220_5b, x220_8, x220_9, x220_10, x220_11, x220_12, x220_15, x220_16, x220_17, x220_20, x220_20b, x220_23, x220_24, x220_27, x220_28, x220_31, x220_31b, x220_34, x220_35, x220_38, x220_39, x220_42, x220_43, x220_44, x220_47, x220_48, x220_49, e220, XC_v, XC_s, true_and, and_true, and_self, bq_T, bq_F, yt_s, Bool.false_eq_true, Bool.true_eq_false, mm_cl, mm_1, uN_s, uN_n, uA_s, uA_n, uN_uN, mf_0, mf_1, mf_2, mf_3, mf_4, mf_5, mf_6, mf_7, mf_8, mf_9, mf_10, mf_11, mf_12, mf_13, mf_14, mf_15, mf_16, mf_17, mf_18, mf_19, mf_20, mf_21, mf_22, mf_23, mf_24, mf_25, mf_26, mf_27, mf_28, mf_29, mf_30, mf_31, mf_32, mf_33, mf_34, mf_35, mf_36, mf_37, mf_38, mf_39, mf_40, ms_3, ms_4, ms_5, ms_7, ms_9, ms_10, ms_11, ms_12, ms_14, ms_16, ms_17, ms_18, ms_24, ms_25, ms_29, ms_34, ms_35, ms_38, ma_0, ma_1, ma_2, ma_3, ma_4, ma_5, ma_6, ma_7, ma_8, ma_9, ma_10, ma_11, ma_12, ma_13, ma_14, ma_15, ma_16, ma_17, ma_18, ma_19, ma_20, ma_21, ma_22, mw_0, mw_1, mw_2, mw_3, mw_4, mw_5, mw_6, mw_7, mw_8, mw_9, mw_10, mw_11, mw_12, mw_13, mw_14, mw_15, mw_16, mw_17, mw_18, mw_19, mw_20, mw_21, mw_22, h3, m_fails, b2i_d, b2i_nd, mc]) | (refine bq_t (by omega) ?_) | (refine bq_f (by omega) ?_) | fail)
      exact q3 hv hl _ (RF_n hR (by omega)) at_s
  · have mi := fun (d : Nat) (Q : JR → JM → Prop) (hd : 3 ≤ d) => m_isNone_f (X := X) (M0 := M0) (m := m) (Q := Q) hd hG hk hp hv
    repeat' (first | (simp (disch := first | assumption | exact wd_n | exact wd_i | exact wd_r | exact ct_r | exact ct_i | exact stB_0 | exact stB_1 | exact stB_2 | exact stB_3 | exact stB_4 | exact stB_5 | exact ct_2 | exact b2i_c _ | exact wd_0 | exact wd_f | omega) only [x220_0, x220_1, x220_2, x220_5, x220_5b, x220_8, x220_9, x220_10, x220_11, x220_12, x220_15, x220_16, x220_17, x220_20, x220_20b, x220_23, x220_24, x220_27, x220_28, x220_31, x220_31b, x220_34, x220_35, x220_38, x220_39, x220_42, x220_43, x220_44, x220_47, x220_48, x220_49, e220, XC_v, XC_s, true_and, and_true, and_self, bq_T, bq_F, yt_s, Bool.false_eq_true, Bool.true_eq_false, mm_cl, mm_1, uN_s, uN_n, uA_s, uA_n, uN_uN, mf_0, mf_1, mf_2, mf_3, mf_4, mf_5, mf_6, mf_7, mf_8, mf_9, mf_10, mf_11, mf_12, mf_13, mf_14, mf_15, mf_16, mf_17, mf_18, mf_19, mf_20, mf_21, mf_22, mf_23, mf_24, mf_25, mf_26, mf_27, mf_28, mf_29, mf_30, mf_31, mf_32, mf_33, mf_34, mf_35, mf_36, mf_37, mf_38, mf_39, mf_40, ms_3, ms_4, ms_5, ms_7, ms_9, ms_10, ms_11, ms_12, ms_14, ms_16, ms_17, ms_18, ms_24, ms_25, ms_29, ms_34, ms_35, ms_38, ma_0, ma_1, ma_2, ma_3, ma_4, ma_5, ma_6, ma_7, ma_8, ma_9, ma_10, ma_11, ma_12, ma_13, ma_14, ma_15, ma_16, ma_17, ma_18, ma_19, ma_20, ma_21, ma_22, mw_0, mw_1, mw_2, mw_3, mw_4, mw_5, mw_6, mw_7, mw_8, mw_9, mw_10, mw_11, mw_12, mw_13, mw_14, mw_15, mw_16, mw_17, mw_18, mw_19, mw_20, mw_21, mw_22, mi]) | (refine bq_t (by omega) ?_) | (refine bq_f (by omega) ?_) | fail)
    exact q1 hv _ _ (RF_n (RF.refl S) (by omega)) at_s
theorem m_coverage (hd : 413 ≤ d) (hG : S.2 0 = G) (hk : GOK G) (hp : I32 p)
    (q1 : ¬ vP G p → ∀ S' v, RF S S' → S'.1 5 = 1 → Q (.inl (some (.float v))) (mm M0 m S'))
    (q2 : vP G p → G 125 = 0 → ∀ S' v, RF S S' → S'.1 5 = 2 → Q (.inl (some (.float v))) (mm M0 m S'))
    (q3 : vP G p → G 125 ≠ 0 → ∀ S', RF S S' → S'.1 5 = 0 → Q (.inl (some (.float (qf (tot (ml G p)) (G 125))))) (mm M0 m S')) : CC X d 221 [.ref m, .int (ii p)] (mm M0 m S) Q := by
  have mi := fun (d : Nat) (Q : JR → JM → Prop) (hd : 1 ≤ d) => m_isPattern (X := X) (M0 := M0) (m := m) (Q := Q) (p := p) hd hG hk hp
  have hL := hk.2.2.2.2.1
  have hL0 := hk.2.2.2.1
  have h125 : S.2 0 125 = G 125 := by rw [hG]
  by_cases hv : vP G p
  · have hv' := hv
    unfold vP at hv'
    rw [decide_eq_true (show 0 ≤ p ∧ p ≤ G 0 - 1 by omega)] at mi
    by_cases hl : G 125 = 0
    · have h125' : S.2 0 125 = 0 := h125.trans hl
      repeat' (first | (simp (disch := first | assumption | exact wd_n | exact wd_i | exact wd_r | exact ct_r | exact ct_i | exact stB_0 | exact stB_1 | exact stB_2 | exact stB_3 | exact stB_4 | exact stB_5 | exact ct_2 | exact b2i_c _ | exact wd_0 | exact wd_f | omega) only [x221_0, x221_1, x221_2, x221_3, x221_6, x221_6b, x221_9, x221_10, x221_13, x221_14, x221_17, x221_19, x221_20, x221_20b, x221_23, x221_24, x221_27, x221_28, x221_31, x221_31b, x221_34, x221_35, x221_36, x221_37, x221_38, x221_41, x221_42, x221_45, x221_46, x221_47, x221_50, x221_52, x221_53, x221_54, x221_55, e221, XC_v, XC_s, true_and, and_true, and_self, bq_T, bq_F, yt_s, Bool.false_eq_true, Bool.true_eq_false, mm_cl, mm_1, uN_s, uN_n, uA_s, uA_n, uN_uN, mf_0, mf_1, mf_2, mf_3, mf_4, mf_5, mf_6, mf_7, mf_8, mf_9, mf_10, mf_11, mf_12, mf_13, mf_14, mf_15, mf_16, mf_17, mf_18, mf_19, mf_20, mf_21, mf_22, mf_23, mf_24, mf_25, mf_26, mf_27, mf_28, mf_29, mf_30, mf_31, mf_32, mf_33, mf_34, mf_35, mf_36, mf_37, mf_38, mf_39, mf_40, ms_3, ms_4, ms_5, ms_7, ms_9, ms_10, ms_11, ms_12, ms_14, ms_16, ms_17, ms_18, ms_24, ms_25, ms_29, ms_34, ms_35, ms_38, ma_0, ma_1, ma_2, ma_3, ma_4, ma_5, ma_6, ma_7, ma_8, ma_9, ma_10, ma_11, ma_12, ma_13, ma_14, ma_15, ma_16, ma_17, ma_18, ma_19, ma_20, ma_21, ma_22, mw_0, mw_1, mw_2, mw_3, mw_4, mw_5, mw_6, mw_7, mw_8, mw_9, mw_10, mw_11, mw_12, mw_13, mw_14, mw_15, mw_16, mw_17, mw_18, mw_19, mw_20, mw_21, mw_22, mi, h125', m_fails, b2i_d, b2i_nd]) | (refine bq_t (by omega) ?_) | (refine bq_f (by omega) ?_) | fail)
      exact q2 hv hl _ _ (RF_n (RF.refl S) (by omega)) at_s
    · repeat' (first | (simp (disch := first | assumption | exact wd_n | exact wd_i | exact wd_r | exact ct_r | exact ct_i | exact stB_0 | exact stB_1 | exact stB_2 | exact stB_3 | exact stB_4 | exact stB_5 | exact ct_2 | exact b2i_c _ | exact wd_0 | exact wd_f | omega) only [x221_0, x221_1, x221_2, x221_3, x221_6, x221_6b, x221_9, x221_10, x221_13, x221_14, x221_17, x221_19, x221_20, x221_20b, x221_23, x221_24, x221_27, x221_28, x221_31, x221_31b, x221_34, x221_35, x221_36, x221_37, x221_38, x221_41, x221_42, x221_45, x221_46, x221_47, x221_50, x221_52, x221_53, x221_54, x221_55, e221, XC_v, XC_s, true_and, and_true, and_self, bq_T, bq_F, yt_s, Bool.false_eq_true, Bool.true_eq_false, mm_cl, mm_1, uN_s, uN_n, uA_s, uA_n, uN_uN, mf_0, mf_1, mf_2, mf_3, mf_4, mf_5, mf_6, mf_7, mf_8, mf_9, mf_10, mf_11, mf_12, mf_13, mf_14, mf_15, mf_16, mf_17, mf_18, mf_19, mf_20, mf_21, mf_22, mf_23, mf_24, mf_25, mf_26, mf_27, mf_28, mf_29, mf_30, mf_31, mf_32, mf_33, mf_34, mf_35, mf_36, mf_37, mf_38, mf_39, mf_40, ms_3, ms_4, ms_5, ms_7, ms_9, ms_10, ms_11, ms_12, ms_14, ms_16, ms_17, ms_18, ms_24, ms_25, ms_29, ms_34, ms_35, ms_38, ma_0, ma_1, ma_2, ma_3, ma_4, ma_5, ma_6, ma_7, ma_8, ma_9, ma_10, ma_11, ma_12, ma_13, ma_14, ma_15, ma_16, ma_17, ma_18, ma_19, ma_20, ma_21, ma_22, mw_0, mw_1, mw_2, mw_3, mw_4, mw_5, mw_6, mw_7, mw_8, mw_9, mw_10, mw_11, mw_12, mw_13, mw_14, mw_15, mw_16, mw_17, mw_18, mw_19, mw_20, mw_21, mw_22, mi, h125, m_fails, b2i_d, b2i_nd]) | (refine bq_t (by omega) ?_) | (refine bq_f (by omega) ?_) | fail)
      refine m_lists (S := (uN S.1 5 0, S.2)) (by omega) hG hk hv (fun S1 h1 h2 h3 h4 => ?_)
      have hR : RF S S1 := (RF_n (RF.refl S) (by omega)).trans h1
      have ht := tot_ml (p := p) hk
      have hn := ml_n (p := p) hk
      have h5 : S1.1 5 = 0 := h2.trans at_s
      have h125' : S1.2 0 125 = G 125 := by rw [hR.2 0 (by omega)]; exact h125
      have mc := fun (d : Nat) (Q : JR → JM → Prop) => m_covered (X := X) (M0 := M0) (m := m) (d := d) (Q := Q) (S := S1) (ml_ok G p) hL hn h3 h4
      unfold rt at mc
      have hnn := (qf_ok (a := tot (ml G p)) (b := G 125) (by omega) (by omega)).1
      unfold qf at hnn
      repeat' (first | (simp (disch := first | assumption | exact wd_n | exact wd_i | exact wd_r | exact ct_r | exact ct_i | exact stB_0 | exact stB_1 | exact stB_2 | exact stB_3 | exact stB_4 | exact stB_5 | exact ct_2 | exact b2i_c _ | exact wd_0 | exact wd_f | omega) only [x221_0, x221_1, x221_2, x221_3, x221_6, x221_6b, x221_9, x221_10, x221_13, x221_14, x221_17, x221_19, x221_20, x221_20b, x221_23, x221_24, x221_27, x221_28, x221_31, x221_31b, x221_34, x221_35, x221_36, x221_37, x221_38, x221_41, x221_42, x221_45, x221_46, x221_47, x221_50, x221_52, x221_53, x221_54, x221_55, e221, XC_v, XC_s, true_and, and_true, and_self, bq_T, bq_F, yt_s, Bool.false_eq_true, Bool.true_eq_false, mm_cl, mm_1, uN_s, uN_n, uA_s, uA_n, uN_uN, mf_0, mf_1, mf_2, mf_3, mf_4, mf_5, mf_6, mf_7, mf_8, mf_9, mf_10, mf_11, mf_12, mf_13, mf_14, mf_15, mf_16, mf_17, mf_18, mf_19, mf_20, mf_21, mf_22, mf_23, mf_24, mf_25, mf_26, mf_27, mf_28, mf_29, mf_30, mf_31, mf_32, mf_33, mf_34, mf_35, mf_36, mf_37, mf_38, mf_39, mf_40, ms_3, ms_4, ms_5, ms_7, ms_9, ms_10, ms_11, ms_12, ms_14, ms_16, ms_17, ms_18, ms_24, ms_25, ms_29, ms_34, ms_35, ms_38, ma_0, ma_1, ma_2, ma_3, ma_4, ma_5, ma_6, ma_7, ma_8, ma_9, ma_10, ma_11, ma_12, ma_13, ma_14, ma_15, ma_16, ma_17, ma_18, ma_19, ma_20, ma_21, ma_22, mw_0, mw_1, mw_2, mw_3, mw_4, mw_5, mw_6, mw_7, mw_8, mw_9, mw_10, mw_11, mw_12, mw_13, mw_14, mw_15, mw_16, mw_17, mw_18, mw_19, mw_20, mw_21, mw_22, h125', mc]) | (refine bq_t (by omega) ?_) | (refine bq_f (by omega) ?_) | fail)
      exact q3 hv hl _ hR h5
  · have hv' := hv
    unfold vP at hv'
    rw [decide_eq_false (show ¬ (0 ≤ p ∧ p ≤ G 0 - 1) by omega)] at mi
    repeat' (first | (simp (disch := first | assumption | exact wd_n | exact wd_i | exact wd_r | exact ct_r | exact ct_i | exact stB_0 | exact stB_1 | exact stB_2 | exact stB_3 | exact stB_4 | exact stB_5 | exact ct_2 | exact b2i_c _ | exact wd_0 | exact wd_f | omega) only [x221_0, x221_1, x221_2, x221_3, x221_6, x221_6b, x221_9, x221_10, x221_13, x221_14, x221_17, x221_19, x221_20, x221_20b, x221_23, x221_24, x221_27, x221_28, x221_31, x221_31b, x221_34, x221_35, x221_36, x221_37, x221_38, x221_41, x221_42, x221_45, x221_46, x221_47, x221_50, x221_52, x221_53, x221_54, x221_55, e221, XC_v, XC_s, true_and, and_true, and_self, bq_T, bq_F, yt_s, Bool.false_eq_true, Bool.true_eq_false, mm_cl, mm_1, uN_s, uN_n, uA_s, uA_n, uN_uN, mf_0, mf_1, mf_2, mf_3, mf_4, mf_5, mf_6, mf_7, mf_8, mf_9, mf_10, mf_11, mf_12, mf_13, mf_14, mf_15, mf_16, mf_17, mf_18, mf_19, mf_20, mf_21, mf_22, mf_23, mf_24, mf_25, mf_26, mf_27, mf_28, mf_29, mf_30, mf_31, mf_32, mf_33, mf_34, mf_35, mf_36, mf_37, mf_38, mf_39, mf_40, ms_3, ms_4, ms_5, ms_7, ms_9, ms_10, ms_11, ms_12, ms_14, ms_16, ms_17, ms_18, ms_24, ms_25, ms_29, ms_34, ms_35, ms_38, ma_0, ma_1, ma_2, ma_3, ma_4, ma_5, ma_6, ma_7, ma_8, ma_9, ma_10, ma_11, ma_12, ma_13, ma_14, ma_15, ma_16, ma_17, ma_18, ma_19, ma_20, ma_21, ma_22, mw_0, mw_1, mw_2, mw_3, mw_4, mw_5, mw_6, mw_7, mw_8, mw_9, mw_10, mw_11, mw_12, mw_13, mw_14, mw_15, mw_16, mw_17, mw_18, mw_19, mw_20, mw_21, mw_22, mi, m_fails, b2i_d, b2i_nd]) | (refine bq_t (by omega) ?_) | (refine bq_f (by omega) ?_) | fail)
    exact q1 hv _ _ (RF_n (RF.refl S) (by omega)) at_s
end FPM
