/-! the items of a branch, an item, an atom -/
section MPB
variable {X : JX} {M0 : JM} {m : Nat} {d : Nat} {S : MS} {Q : JR → JM → Prop} {c : Int → Int} {n p g : Int}
theorem A2_s {f : Nat} (h2 : A2 X M0 m f) (h3 : A3 X M0 m f) : A2 X M0 m (f + 1) := by
  intro d S Q c n p g t i0 l2 hd hP hf hi hN ht hq
  have hP' := hP
  obtain ⟨p1, p2, p3, p4, p5, p6, p7, p8, p9, p10, p11, p12, p13⟩ := hP
  have hh := hr_rg (c := c) (n := n) (p := p) p6 p13
  have hN0 := Nd_sh hN
  rw [PZ_2] at hq
  rw [x155_10]
  by_cases hst : sgB (hr c n p) = true ∨ hr c n p = 46 ∨ hr c n p = 40 ∨ hr c n p = 91
  · rw [if_pos hst] at hq
    have key : CC X (d - 1) 156 [.ref m] (mm M0 m S) (XC X d 155 55 58 [some (.ref m), some (.int (ii i0)), l2] [] Q) := by
      have hpn : p < n := by
        rcases hst with hs | hs
        · exact sgB_in hs
        · exact hr_in (c := c) (n := n) (p := p) (by omega)
      refine h3 (d - 1) S _ c n p g t (by omega) hP' hpn (by omega) hst (fun S' i hpo => ?_)
      have hR := PZ_rg (c := c) (n := n) f 3 t p g p6 p7 (fun _ => hpn) p9 p10
      cases hr1 : PZ c n f 3 t p g with
      | inl e =>
        rw [hr1] at hpo hq
        obtain ⟨hpf, h17, h18⟩ := hpo
        repeat' (first | (simp (disch := first | assumption | exact wd_n | exact wd_i | exact wd_r | exact ct_r | exact ct_i | exact stB_0 | exact stB_1 | exact stB_2 | exact stB_3 | exact stB_4 | exact stB_5 | exact ct_2 | exact wd_0 | exact wd_f | omega) only [x155_0, x155_1, x155_2, x155_3, x155_4, x155_5, x155_6, x155_9, x155_10, x155_11, x155_14, x155_14b, x155_17, x155_18, x155_21, x155_24, x155_24b, x155_27, x155_28, x155_31, x155_33, x155_36, x155_37, x155_40, x155_42, x155_45, x155_46, x155_49, x155_51, x155_54, x155_55, x155_58, x155_59, x155_60, x155_63, x155_63b, x155_66, x155_67, x155_68, x155_69, x155_70, x155_71, x155_72, x155_73, x155_76, x155_77, x155_78, x155_79, x155_82, x155_83, x155_84, x155_85, x155_86, x155_89, x155_90, x155_91, x155_92, x155_95, x155_96, x155_97, x155_98, x155_101, x155_102, x155_105, x155_106, e155, XC_v, XC_s, true_and, and_true, and_self, bq_T, bq_F, yt_s, Bool.false_eq_true, Bool.true_eq_false, mm_cl, mm_1, uN_s, uN_n, uA_s, uA_n, uN_uN, mf_0, mf_1, mf_2, mf_3, mf_4, mf_5, mf_6, mf_7, mf_8, mf_9, mf_10, mf_11, mf_12, mf_13, mf_14, mf_15, mf_16, mf_17, mf_18, mf_19, mf_20, mf_21, mf_22, mf_23, mf_24, mf_25, mf_26, mf_27, mf_28, mf_29, mf_30, mf_31, mf_32, mf_33, mf_34, mf_35, mf_36, mf_37, mf_38, mf_39, mf_40, ms_3, ms_4, ms_5, ms_7, ms_9, ms_10, ms_11, ms_12, ms_14, ms_16, ms_17, ms_18, ms_24, ms_25, ms_29, ms_34, ms_35, ms_38, ma_0, ma_1, ma_2, ma_3, ma_4, ma_5, ma_6, ma_7, ma_8, ma_9, ma_10, ma_11, ma_12, ma_13, ma_14, ma_15, ma_16, ma_17, ma_18, ma_19, ma_20, ma_21, ma_22, mw_0, mw_1, mw_2, mw_3, mw_4, mw_5, mw_6, mw_7, mw_8, mw_9, mw_10, mw_11, mw_12, mw_13, mw_14, mw_15, mw_16, mw_17, mw_18, mw_19, mw_20, mw_21, mw_22, h18]) | (refine bq_t (by omega) ?_) | (refine bq_f (by omega) ?_) | fail)
        exact hq S' 0 ⟨hpf, h17, h18⟩
      | inr q =>
        obtain ⟨a, g', t'⟩ := q
        rw [hr1] at hpo hq hR
        obtain ⟨hpf, h17, h25, h18, hi', hn, hN'⟩ := hpo
        obtain ⟨r1, r2, r3, r4, r5, r6⟩ := hR
        rw [if_neg (by omega)] at r5
        have r7 := r6 (by omega)
        have hge := hpf.2.2.1
        have hN2 := Nd_pf hpf hN (by omega)
        have q1 := Nd_sh hN2
        have q2 := Nd_sh hN'
        have e1 := q1.2.1
        have e2 := q1.2.2
        have e3 := q2.2.1
        have e4 := q2.2.2
        have b1 := tsh_0 t
        have b2 := tsh_0 t'
        have b3 := tlo_rg t
        have b4 := tlo_rg t'
        repeat' (first | (simp (disch := first | assumption | exact wd_n | exact wd_i | exact wd_r | exact ct_r | exact ct_i | exact stB_0 | exact stB_1 | exact stB_2 | exact stB_3 | exact stB_4 | exact stB_5 | exact ct_2 | exact wd_0 | exact wd_f | omega) only [x155_0, x155_1, x155_2, x155_3, x155_4, x155_5, x155_6, x155_9, x155_11, x155_14, x155_14b, x155_17, x155_18, x155_21, x155_24, x155_24b, x155_27, x155_28, x155_31, x155_33, x155_36, x155_37, x155_40, x155_42, x155_45, x155_46, x155_49, x155_51, x155_54, x155_55, x155_58, x155_59, x155_60, x155_63, x155_63b, x155_66, x155_67, x155_68, x155_69, x155_70, x155_71, x155_72, x155_73, x155_76, x155_77, x155_78, x155_79, x155_82, x155_83, x155_84, x155_85, x155_86, x155_89, x155_90, x155_91, x155_92, x155_95, x155_96, x155_97, x155_98, x155_101, x155_102, x155_105, x155_106, e155, XC_v, XC_s, true_and, and_true, and_self, bq_T, bq_F, yt_s, Bool.false_eq_true, Bool.true_eq_false, mm_cl, mm_1, uN_s, uN_n, uA_s, uA_n, uN_uN, mf_0, mf_1, mf_2, mf_3, mf_4, mf_5, mf_6, mf_7, mf_8, mf_9, mf_10, mf_11, mf_12, mf_13, mf_14, mf_15, mf_16, mf_17, mf_18, mf_19, mf_20, mf_21, mf_22, mf_23, mf_24, mf_25, mf_26, mf_27, mf_28, mf_29, mf_30, mf_31, mf_32, mf_33, mf_34, mf_35, mf_36, mf_37, mf_38, mf_39, mf_40, ms_3, ms_4, ms_5, ms_7, ms_9, ms_10, ms_11, ms_12, ms_14, ms_16, ms_17, ms_18, ms_24, ms_25, ms_29, ms_34, ms_35, ms_38, ma_0, ma_1, ma_2, ma_3, ma_4, ma_5, ma_6, ma_7, ma_8, ma_9, ma_10, ma_11, ma_12, ma_13, ma_14, ma_15, ma_16, ma_17, ma_18, ma_19, ma_20, ma_21, ma_22, mw_0, mw_1, mw_2, mw_3, mw_4, mw_5, mw_6, mw_7, mw_8, mw_9, mw_10, mw_11, mw_12, mw_13, mw_14, mw_15, mw_16, mw_17, mw_18, mw_19, mw_20, mw_21, mw_22, h18, e1, e2, e3, e4, m_grows]) | (refine bq_t (by omega) ?_) | (refine bq_f (by omega) ?_) | fail)
        refine h2 d (grw S' 4 i0 i (tsh t + tsh t') (tlo t + tlo t')) Q c n a g' (.add t t') _ _ (by omega) (Pre_pf hP' (hpf.trans PF_grw) ((grw_n (by omega)).trans h17) ((grw_n (by omega)).trans h18) ((grw_n (by omega)).trans h25) (by omega) r2 (by omega) r4 (by rw [grw_24]; omega)) (by omega) (by rw [grw_24]; omega) ?_ (by show tsh t + tsh t' ≤ a; omega) (fun S'' i' hpo' => ?_)
        · have w := grw_r (S := S') (k := 4) (l := i0) (r := i) (lo := tsh t + tsh t') (hi := tlo t + tlo t')
          unfold Nd
          refine ⟨by omega, w.2.2.2.1, w.2.2.2.2, w.1, by rw [w.2.1]; omega, by rw [w.2.2.1]; omega, ?_, ?_⟩
          · rw [w.2.1]; exact Nd_gr hN2 (by omega)
          · rw [w.2.2.1]; exact Nd_gr hN' (by omega)
        · exact hq S'' i' (PO_tr (b := 0) (b1 := 0) (hpf.trans PF_grw) (by rw [grw_24]; omega) hpo')
    repeat' (first | (simp (disch := first | assumption | exact wd_n | exact wd_i | exact wd_r | exact ct_r | exact ct_i | exact stB_0 | exact stB_1 | exact stB_2 | exact stB_3 | exact stB_4 | exact stB_5 | exact ct_2 | exact wd_0 | exact wd_f | omega) only [x155_0, x155_1, x155_2, x155_3, x155_4, x155_5, x155_6, x155_9, x155_11, x155_14, x155_14b, x155_17, x155_18, x155_21, x155_24, x155_24b, x155_27, x155_28, x155_31, x155_33, x155_36, x155_37, x155_40, x155_42, x155_45, x155_46, x155_49, x155_51, x155_54, x155_55, x155_58, x155_59, x155_60, x155_63, x155_63b, x155_66, x155_67, x155_68, x155_69, x155_70, x155_71, x155_72, x155_73, x155_76, x155_77, x155_78, x155_79, x155_82, x155_83, x155_84, x155_85, x155_86, x155_89, x155_90, x155_91, x155_92, x155_95, x155_96, x155_97, x155_98, x155_101, x155_102, x155_105, x155_106, e155, XC_v, XC_s, true_and, and_true, and_self, bq_T, bq_F, yt_s, Bool.false_eq_true, Bool.true_eq_false, mm_cl, mm_1, uN_s, uN_n, uA_s, uA_n, uN_uN, mf_0, mf_1, mf_2, mf_3, mf_4, mf_5, mf_6, mf_7, mf_8, mf_9, mf_10, mf_11, mf_12, mf_13, mf_14, mf_15, mf_16, mf_17, mf_18, mf_19, mf_20, mf_21, mf_22, mf_23, mf_24, mf_25, mf_26, mf_27, mf_28, mf_29, mf_30, mf_31, mf_32, mf_33, mf_34, mf_35, mf_36, mf_37, mf_38, mf_39, mf_40, ms_3, ms_4, ms_5, ms_7, ms_9, ms_10, ms_11, ms_12, ms_14, ms_16, ms_17, ms_18, ms_24, ms_25, ms_29, ms_34, ms_35, ms_38, ma_0, ma_1, ma_2, ma_3, ma_4, ma_5, ma_6, ma_7, ma_8, ma_9, ma_10, ma_11, ma_12, ma_13, ma_14, ma_15, ma_16, ma_17, ma_18, ma_19, ma_20, ma_21, ma_22, mw_0, mw_1, mw_2, mw_3, mw_4, mw_5, mw_6, mw_7, mw_8, mw_9, mw_10, mw_11, mw_12, mw_13, mw_14, mw_15, mw_16, mw_17, mw_18, mw_19, mw_20, mw_21, mw_22, p1, p2, p3, p4, m_here, m_isSign]) | (refine bq_t (by omega) ?_) | (refine bq_f (by omega) ?_) | (refine bq_i (fun h => ?_) (fun h => ?_)) | fail)
    all_goals first | exact key | skip
    exfalso
    rcases hst with hs | hs
    · contradiction
    · omega
  · rw [if_neg hst] at hq
    have hs1 : sgB (hr c n p) = false := by
      cases hx : sgB (hr c n p) with
      | true => exact absurd (Or.inl hx) hst
      | false => rfl
    have hs2 : hr c n p ≠ 46 := fun q => hst (Or.inr (Or.inl q))
    have hs3 : hr c n p ≠ 40 := fun q => hst (Or.inr (Or.inr (Or.inl q)))
    have hs4 : hr c n p ≠ 91 := fun q => hst (Or.inr (Or.inr (Or.inr q)))
    repeat' (first | (simp (disch := first | assumption | exact wd_n | exact wd_i | exact wd_r | exact ct_r | exact ct_i | exact stB_0 | exact stB_1 | exact stB_2 | exact stB_3 | exact stB_4 | exact stB_5 | exact ct_2 | exact wd_0 | exact wd_f | omega) only [x155_0, x155_1, x155_2, x155_3, x155_4, x155_5, x155_6, x155_9, x155_11, x155_14, x155_14b, x155_17, x155_18, x155_21, x155_24, x155_24b, x155_27, x155_28, x155_31, x155_33, x155_36, x155_37, x155_40, x155_42, x155_45, x155_46, x155_49, x155_51, x155_54, x155_55, x155_58, x155_59, x155_60, x155_63, x155_63b, x155_66, x155_67, x155_68, x155_69, x155_70, x155_71, x155_72, x155_73, x155_76, x155_77, x155_78, x155_79, x155_82, x155_83, x155_84, x155_85, x155_86, x155_89, x155_90, x155_91, x155_92, x155_95, x155_96, x155_97, x155_98, x155_101, x155_102, x155_105, x155_106, e155, XC_v, XC_s, true_and, and_true, and_self, bq_T, bq_F, yt_s, Bool.false_eq_true, Bool.true_eq_false, mm_cl, mm_1, uN_s, uN_n, uA_s, uA_n, uN_uN, mf_0, mf_1, mf_2, mf_3, mf_4, mf_5, mf_6, mf_7, mf_8, mf_9, mf_10, mf_11, mf_12, mf_13, mf_14, mf_15, mf_16, mf_17, mf_18, mf_19, mf_20, mf_21, mf_22, mf_23, mf_24, mf_25, mf_26, mf_27, mf_28, mf_29, mf_30, mf_31, mf_32, mf_33, mf_34, mf_35, mf_36, mf_37, mf_38, mf_39, mf_40, ms_3, ms_4, ms_5, ms_7, ms_9, ms_10, ms_11, ms_12, ms_14, ms_16, ms_17, ms_18, ms_24, ms_25, ms_29, ms_34, ms_35, ms_38, ma_0, ma_1, ma_2, ma_3, ma_4, ma_5, ma_6, ma_7, ma_8, ma_9, ma_10, ma_11, ma_12, ma_13, ma_14, ma_15, ma_16, ma_17, ma_18, ma_19, ma_20, ma_21, ma_22, mw_0, mw_1, mw_2, mw_3, mw_4, mw_5, mw_6, mw_7, mw_8, mw_9, mw_10, mw_11, mw_12, mw_13, mw_14, mw_15, mw_16, mw_17, mw_18, mw_19, mw_20, mw_21, mw_22, p1, p2, p3, p4, m_here, m_isSign, hs1]) | (refine bq_t (by omega) ?_) | (refine bq_f (by omega) ?_) | fail)
    exact hq S i0 ⟨PF.refl S, p3, p5, p4, hi, by omega, hN⟩
end MPB
