/-! the class's changes: buffers, the text, undo, snapshots -/
def K4 (k : Nat) : Prop := k = 1 ∨ k = 3 ∨ k = 5 ∨ k = 7
section CH1
variable {X : JX} {d : Nat} {B : JM} {x : Nat} {C C' C1 : CS} {S S' : MS} {Q : JR → JM → Prop} {c a b : Int} {ks js : List Nat}
theorem EX_rq (h : EX [] [] S S') : RQ S S' := by
  refine ⟨fun k hk => h.1 k ?_ (by simp), fun j hj => h.2 j hj (by simp)⟩
  unfold PSc
  simp only [List.mem_cons, List.not_mem_nil, or_false]
  exact hk
theorem REL_ex (h : REL B x C S) (he : EX [] [] S S') : REL B x C S' := REL_q h (QF.refl h.1.1) (EX_rq he)
theorem RPb_e (h : RPb C S) (e1 : C'.1 1 = C.1 1) (e2 : C'.2.1 1 = C.2.1 1) (e3 : S'.1 7 = S.1 7) (e4 : S'.2 3 = S.2 3) : RPb C' S' := by
  unfold RPb at h ⊢
  rw [e1, e2, e3, e4]
  exact h
theorem RTb_e (h : RTb C S) (e1 : C'.1 3 = C.1 3) (e2 : C'.2.1 3 = C.2.1 3) (e3 : S'.1 9 = S.1 9) (e4 : S'.2 4 = S.2 4) : RTb C' S' := by
  unfold RTb at h ⊢
  rw [e1, e2, e3, e4]
  exact h
theorem REL_n (h : REL B x C S) (hk : KX (fun k => k = 1 ∨ k = 3) C C') (he : EX [7, 9] [3, 4] S S') (hp : RPb C' S') (ht : RTb C' S') : REL B x C' S' := by
  obtain ⟨⟨z1, z2, z3, z4⟩, h1, h2, h3, h4, h5, h6, h7⟩ := h
  refine ⟨⟨SOK_k z1 hk (fun k hk => by unfold scr at hk; omega), z2, ?_, fun o ho => ?_⟩, ?_, RS1_f h2 hk he (by omega) (by omega) (by omega) (by decide) (by decide), RH_s (RH_kx z3.1 h3 hk (fun k hk => by unfold HK at hk; omega)) (he.1 4 (by decide) (by decide)) (he.2 1 (by omega) (by decide)), hp, ht, RFl_f h6 hk he (by omega) (by omega) (by omega) (by decide) (by decide) (by decide), RLn_f h7 hk he (by omega) (by decide) (by decide)⟩
  · rw [hk.1 13 (by omega)]
    exact z3
  · have : o + 2 ≠ 1 ∧ o + 2 ≠ 3 := by
      unfold isC at ho
      omega
    rw [hk.1 _ (by omega)]
    exact z4 o ho
  · rw [he.2 0 (by omega) (by decide)]
    exact CG_kx h1 hk (by omega) (by omega)
theorem rm_t (hd : 6 ≤ d) (h : REL B x C S) : CC X d 25 [.ref (x + 13), .ref (x + 5)] (cm B x C) Q = Q (.inl none) (cm B x (hrm C)) := by
  obtain ⟨⟨z1, z2, z3, z4⟩, h1, h2, h3, h4⟩ := h
  have h14 := h3.2.1
  have h140 := h3.1
  have h5 : C.1 5 = S.2 0 0 := h1.2.1
  have g0 := h1.1.1
  have g1 := h1.1.2.1
  refine h_rem z3 (by omega) (by omega) (fun j j0 j1 => ?_) (CG_tx h1).1 z4 hd
  obtain ⟨p, e, hP⟩ := h1.2.2.2.2 j j0 (by omega)
  rw [e]
  exact PV_pp hP
/-- behind the history's step -/
theorem rm_k (h : REL B x C S) : KX HK C (hrm C) ∧ RZ B x (hrm C) ∧ CG B x (hrm C) 5 (S.2 0) ∧ ∀ S', KB S S' → RH B x (hrm C) S' := by
  obtain ⟨⟨z1, z2, z3, z4⟩, h1, h2, h3, h4⟩ := h
  have h14 : 0 ≤ C.1 14 ∧ C.1 14 ≤ 8 := by
    have := h3.2.1
    have := h3.1
    omega
  have hk := hrm_k z3 h14
  obtain ⟨a1, a2, a3, a4⟩ := hfr_rg z3 h14
  obtain ⟨b1, b2, b3⟩ := hs_rg (C := hfr C) a1.1 a2.1
  have hk0 := hfr_k (C := C)
  refine ⟨hk, ⟨SOK_k z1 hk (fun k hk => by unfold scr at hk; unfold HK; omega), z2, ?_, fun o ho => ?_⟩, CG_kx h1 hk (by unfold HK; omega) (by unfold HK; omega), fun S' hkb => (hrm_ok z3 h1 h3 hkb).1⟩
  · show 0 ≤ uN (cpC (hfr C) (hs (hfr C) ((hfr C).1 14)) 5).1 14 ((hfr C).1 14 + 1) 13 ∧ uN (cpC (hfr C) (hs (hfr C) ((hfr C).1 14)) 5).1 14 ((hfr C).1 14 + 1) 13 < 8
    rw [uN_n (by omega), cpC_n (by omega) (by omega)]
    exact a1
  · show 0 ≤ uN (cpC (hfr C) (hs (hfr C) ((hfr C).1 14)) 5).1 14 ((hfr C).1 14 + 1) (o + 2) ∧ uN (cpC (hfr C) (hs (hfr C) ((hfr C).1 14)) 5).1 14 ((hfr C).1 14 + 1) (o + 2) ≤ 40
    have i1 := isC_2 b3 ho
    have n14 : o + 2 ≠ 14 ∧ o + 2 ≠ 13 := by
      unfold isC at ho
      omega
    rw [uN_n n14.1]
    by_cases hoa : o = hs (hfr C) ((hfr C).1 14)
    · rw [hoa]
      show 0 ≤ uN (uN (hfr C).1 _ _) (hs (hfr C) ((hfr C).1 14) + 2) ((hfr C).1 (5 + 2)) (hs (hfr C) ((hfr C).1 14) + 2) ∧ uN (uN (hfr C).1 _ _) (hs (hfr C) ((hfr C).1 14) + 2) ((hfr C).1 (5 + 2)) (hs (hfr C) ((hfr C).1 14) + 2) ≤ 40
      rw [uN_s, hk0.1 _ (by omega)]
      exact z4 5 (Or.inl rfl)
    · rw [cpC_n (fun q => i1 q.symm) (by omega), hk0.1 _ (by omega)]
      exact z4 o ho
theorem REL_h (h : REL B x C S) (hk : KX K4 (hrm C) C') (h7 : 0 ≤ C'.1 7 ∧ C'.1 7 ≤ 40) (he : EX [4, 7, 9] [0, 1] S S') (hkb : KB S S') (hc : CG B x C' 5 (S'.2 0)) (hp : RPb C' S') (ht : RTb C' S') : REL B x C' S' := by
  obtain ⟨r1, ⟨r2, r3, r4, r5⟩, r6, r7⟩ := rm_k h
  obtain ⟨z, h1, h2, h3, h4, h5, h6, h7'⟩ := h
  have hall : KX (fun k => HK k ∨ K4 k) C C' := (r1.w (fun k q => Or.inl q)).trans (hk.w (fun k q => Or.inr q))
  refine ⟨⟨SOK_k r2 hk (fun k hk => by unfold scr at hk; unfold K4; omega), r3, ?_, fun o ho => ?_⟩, hc, RS1_f h2 hall he (by unfold HK K4; omega) (by unfold HK K4; omega) (by unfold HK K4; omega) (by decide) (by decide), RH_kx r4.1 (r7 S' hkb) hk (fun k hk => by unfold HK at hk; unfold K4; omega), hp, ht, RFl_f h6 hall he (by unfold HK K4; omega) (by unfold HK K4; omega) (by unfold HK K4; omega) (by decide) (by decide) (by decide), RLn_f h7' hall he (by unfold HK K4; omega) (by decide) (by decide)⟩
  · rw [hk.1 13 (by unfold K4; omega)]
    exact r4
  · by_cases h5 : o = 5
    · rw [h5]
      exact h7
    · have : ¬ K4 (o + 2) := by
        unfold isC at ho
        unfold K4
        omega
      rw [hk.1 _ this]
      exact r5 o ho
theorem s_typePattern (hd : 4 ≤ d) (h : REL B x C S) (hc : 0 ≤ c ∧ c ≤ 65535) (q1 : S.1 7 = 30 → Q (.inr 0) (mthr (cm B x C))) (q3 : S.1 7 ≠ 30 → ∀ C', (∀ S', EX [7] [3] S S' → S'.1 7 = S.1 7 + 1 → S'.2 3 = up (S.2 3) (S.1 7) c → REL B x C' S') → Q (rt (S.1 7 + 1)) (cm B x C')) : CC X d 79 [.ref x, .int (ii c)] (cm B x C) Q := by
  obtain ⟨p1, p2, p3⟩ := h.2.2.2.2.1
  by_cases hf : S.1 7 = 30
  · have q1 := q1 hf
    have hdec := decide_eq_true (show (30 : Int) ≤ C.1 1 by omega)
    repeat' (first | (simp (disch := first | assumption | exact wd_n | exact wd_i | exact wd_r | exact ct_r | exact ct_i | exact stB_0 | exact stB_1 | exact stB_2 | exact stB_3 | exact stB_4 | exact stB_5 | exact ct_2 | exact b2i_c _ | exact wd_0 | exact wd_f | omega | ((simp (disch := omega) only [uN_s, uN_n, uA_s, uA_n, up_s, up_n]) <;> omega)) only [x79_0, x79_0n, x79_1, x79_4, x79_7, x79_7b, x79_10, x79_20, x79_20n, x79_21, x79_24, x79_25, x79_28, x79_28n, x79_29, x79_32, x79_35, e79, XE79_4, XE79_25, XE79_32, XC_v, XC_s, true_and, and_true, and_self, bq_T, bq_F, yt_s, Bool.false_eq_true, Bool.true_eq_false, rg_0, rg_1, rp_1, mset_1, mset_21, mset_eq, mset_ne, yn_I, ya_I, yw_I, mset_cl, cc_0, cf_0_0, cf_0_1, cf_0_2, cf_0_3, cf_0_4, cf_0_5, cf_0_6, cf_0_7, cf_0_8, cf_0_9, cf_0_10, cf_0_11, cf_0_12, cf_0_13, cf_0_14, cf_0_15, cs_0_4, cs_0_6, cs_0_7, cs_0_8, cc_13, cf_13_0, cf_13_1, cf_13_2, cs_13_1, cs_13_2, cc_47, cf_47_0, cf_47_1, cf_47_2, cc_53, cf_53_0, cf_53_1, cf_53_2, cf_53_3, cf_53_4, cf_53_5, cs_53_3, cs_53_4, cs_53_5, cc_5, cf_5_0, cf_5_1, cf_5_2, cs_5_1, cc_9, cf_9_0, cf_9_1, cf_9_2, cs_9_1, cc_15, cf_15_0, cf_15_1, cf_15_2, cs_15_1, cc_19, cf_19_0, cf_19_1, cf_19_2, cs_19_1, cc_23, cf_23_0, cf_23_1, cf_23_2, cs_23_1, cc_27, cf_27_0, cf_27_1, cf_27_2, cs_27_1, cc_31, cf_31_0, cf_31_1, cf_31_2, cs_31_1, cc_35, cf_35_0, cf_35_1, cf_35_2, cs_35_1, cc_39, cf_39_0, cf_39_1, cf_39_2, cs_39_1, cc_43, cf_43_0, cf_43_1, cf_43_2, cs_43_1, cc_1, cc_3, cc_7, cc_11, cc_49, cc_51, cc_54, cc_56, cc_58, cc_60, cc_62, cc_64, cc_66, cc_68, cc_17, cc_21, cc_25, cc_29, cc_33, cc_37, cc_41, cc_45, c1_size, c1_full, c1_holds, c1_at, c1_put, c1_add, c1_pop, c1_clear, c3_size, c3_full, c3_holds, c3_at, c3_put, c3_add, c3_pop, c3_clear, c7_size, c7_full, c7_holds, c7_at, c7_put, c7_add, c7_pop, c7_clear, c7_ins, c7_cut, c7_copy3, c7_copy66, c49_size, c49_full, c49_holds, c49_at, c49_put, c49_add, c49_pop, c49_clear, c51_size, c51_full, c51_holds, c51_at, c51_put, c51_add, c51_pop, c51_clear, c54_size, c54_full, c54_holds, c54_at, c54_put, c54_add, c54_pop, c54_clear, c54_copy56, c56_size, c56_full, c56_holds, c56_at, c56_put, c56_add, c56_pop, c56_clear, c58_size, c58_full, c58_holds, c58_at, c58_put, c58_add, c58_pop, c58_clear, c60_size, c60_full, c60_holds, c60_at, c60_put, c60_add, c60_pop, c60_clear, c62_size, c62_full, c62_holds, c62_at, c62_put, c62_add, c62_pop, c62_clear, c64_size, c64_full, c64_holds, c64_at, c64_put, c64_add, c64_pop, c64_clear, c66_size, c66_full, c66_holds, c66_at, c66_put, c66_add, c66_pop, c66_clear, c66_part7, c68_size, c68_full, c68_holds, c68_at, c68_put, c68_add, c68_pop, c68_clear, c68_part7, ct_ld, ct_st, ct_ln, ck_ld, ck_ln, cp_ld5, cp_ln5, uN_s, uN_n, uA_s, uA_n, uN_uN, uA_uA, hdec]) | (refine bq_t (by omega) ?_) | (refine bq_f (by omega) ?_) | fail)
    exact q1
  · have hdec := decide_eq_false (show ¬ (30 : Int) ≤ C.1 1 by omega)
    have q3 := q3 hf (uN C.1 1 (C.1 1 + 1), uA C.2.1 1 (up (C.2.1 1) (C.1 1) c), C.2.2) (fun S' he e7 e3 => by
      refine REL_n h (KX_r (Or.inl rfl)) (he.w (by simp) (by simp)) ⟨fu_s.trans (by omega), by omega, fun k k0 k1 => ?_⟩ (RTb_f h.2.2.2.2.2.1 (K := fun k => k = 1) (KX_r rfl) he (by omega) (by decide) (by decide))
      show uA C.2.1 1 (up (C.2.1 1) (C.1 1) c) 1 k = _ ∧ _
      rw [uA_s, e3, p1]
      by_cases hk : k = S.1 7
      · rw [hk, up_s, up_s]
        exact ⟨rfl, hc⟩
      · rw [up_n hk, up_n hk]
        exact p3 k k0 (by omega))
    rw [← p1] at q3
    unfold rt at q3
    repeat' (first | (simp (disch := first | assumption | exact wd_n | exact wd_i | exact wd_r | exact ct_r | exact ct_i | exact stB_0 | exact stB_1 | exact stB_2 | exact stB_3 | exact stB_4 | exact stB_5 | exact ct_2 | exact b2i_c _ | exact wd_0 | exact wd_f | omega | ((simp (disch := omega) only [uN_s, uN_n, uA_s, uA_n, up_s, up_n]) <;> omega)) only [x79_0, x79_0n, x79_1, x79_4, x79_7, x79_7b, x79_10, x79_20, x79_20n, x79_21, x79_24, x79_25, x79_28, x79_28n, x79_29, x79_32, x79_35, e79, XE79_4, XE79_25, XE79_32, XC_v, XC_s, true_and, and_true, and_self, bq_T, bq_F, yt_s, Bool.false_eq_true, Bool.true_eq_false, rg_0, rg_1, rp_1, mset_1, mset_21, mset_eq, mset_ne, yn_I, ya_I, yw_I, mset_cl, cc_0, cf_0_0, cf_0_1, cf_0_2, cf_0_3, cf_0_4, cf_0_5, cf_0_6, cf_0_7, cf_0_8, cf_0_9, cf_0_10, cf_0_11, cf_0_12, cf_0_13, cf_0_14, cf_0_15, cs_0_4, cs_0_6, cs_0_7, cs_0_8, cc_13, cf_13_0, cf_13_1, cf_13_2, cs_13_1, cs_13_2, cc_47, cf_47_0, cf_47_1, cf_47_2, cc_53, cf_53_0, cf_53_1, cf_53_2, cf_53_3, cf_53_4, cf_53_5, cs_53_3, cs_53_4, cs_53_5, cc_5, cf_5_0, cf_5_1, cf_5_2, cs_5_1, cc_9, cf_9_0, cf_9_1, cf_9_2, cs_9_1, cc_15, cf_15_0, cf_15_1, cf_15_2, cs_15_1, cc_19, cf_19_0, cf_19_1, cf_19_2, cs_19_1, cc_23, cf_23_0, cf_23_1, cf_23_2, cs_23_1, cc_27, cf_27_0, cf_27_1, cf_27_2, cs_27_1, cc_31, cf_31_0, cf_31_1, cf_31_2, cs_31_1, cc_35, cf_35_0, cf_35_1, cf_35_2, cs_35_1, cc_39, cf_39_0, cf_39_1, cf_39_2, cs_39_1, cc_43, cf_43_0, cf_43_1, cf_43_2, cs_43_1, cc_1, cc_3, cc_7, cc_11, cc_49, cc_51, cc_54, cc_56, cc_58, cc_60, cc_62, cc_64, cc_66, cc_68, cc_17, cc_21, cc_25, cc_29, cc_33, cc_37, cc_41, cc_45, c1_size, c1_full, c1_holds, c1_at, c1_put, c1_add, c1_pop, c1_clear, c3_size, c3_full, c3_holds, c3_at, c3_put, c3_add, c3_pop, c3_clear, c7_size, c7_full, c7_holds, c7_at, c7_put, c7_add, c7_pop, c7_clear, c7_ins, c7_cut, c7_copy3, c7_copy66, c49_size, c49_full, c49_holds, c49_at, c49_put, c49_add, c49_pop, c49_clear, c51_size, c51_full, c51_holds, c51_at, c51_put, c51_add, c51_pop, c51_clear, c54_size, c54_full, c54_holds, c54_at, c54_put, c54_add, c54_pop, c54_clear, c54_copy56, c56_size, c56_full, c56_holds, c56_at, c56_put, c56_add, c56_pop, c56_clear, c58_size, c58_full, c58_holds, c58_at, c58_put, c58_add, c58_pop, c58_clear, c60_size, c60_full, c60_holds, c60_at, c60_put, c60_add, c60_pop, c60_clear, c62_size, c62_full, c62_holds, c62_at, c62_put, c62_add, c62_pop, c62_clear, c64_size, c64_full, c64_holds, c64_at, c64_put, c64_add, c64_pop, c64_clear, c66_size, c66_full, c66_holds, c66_at, c66_put, c66_add, c66_pop, c66_clear, c66_part7, c68_size, c68_full, c68_holds, c68_at, c68_put, c68_add, c68_pop, c68_clear, c68_part7, ct_ld, ct_st, ct_ln, ck_ld, ck_ln, cp_ld5, cp_ln5, uN_s, uN_n, uA_s, uA_n, uN_uN, uA_uA, hdec]) | (refine bq_t (by omega) ?_) | (refine bq_f (by omega) ?_) | fail)
    exact q3
theorem cd_t (hc : 32 ≤ c ∧ c ≤ 126) : CC X d 126 [.int (ii c)] (cm B x C) Q = Q (.inl none) (cm B x C) := by
  refine CC_eq ?_ Q
  repeat' (first | (simp (disch := first | assumption | exact wd_n | exact wd_i | exact wd_r | exact ct_r | exact ct_i | exact stB_0 | exact stB_1 | exact stB_2 | exact stB_3 | exact stB_4 | exact stB_5 | exact ct_2 | exact b2i_c _ | exact wd_0 | exact wd_f | omega | ((simp (disch := omega) only [uN_s, uN_n, uA_s, uA_n, up_s, up_n]) <;> omega)) only [x126_0, x126_1, x126_3, x126_6, x126_7, x126_9, x126_12, x126_23, e126, XC_v, XC_s, true_and, and_true, and_self, bq_T, bq_F, yt_s, Bool.false_eq_true, Bool.true_eq_false, rg_0, rg_1, rp_1, mset_1, mset_21, mset_eq, mset_ne, yn_I, ya_I, yw_I, mset_cl, cc_0, cf_0_0, cf_0_1, cf_0_2, cf_0_3, cf_0_4, cf_0_5, cf_0_6, cf_0_7, cf_0_8, cf_0_9, cf_0_10, cf_0_11, cf_0_12, cf_0_13, cf_0_14, cf_0_15, cs_0_4, cs_0_6, cs_0_7, cs_0_8, cc_13, cf_13_0, cf_13_1, cf_13_2, cs_13_1, cs_13_2, cc_47, cf_47_0, cf_47_1, cf_47_2, cc_53, cf_53_0, cf_53_1, cf_53_2, cf_53_3, cf_53_4, cf_53_5, cs_53_3, cs_53_4, cs_53_5, cc_5, cf_5_0, cf_5_1, cf_5_2, cs_5_1, cc_9, cf_9_0, cf_9_1, cf_9_2, cs_9_1, cc_15, cf_15_0, cf_15_1, cf_15_2, cs_15_1, cc_19, cf_19_0, cf_19_1, cf_19_2, cs_19_1, cc_23, cf_23_0, cf_23_1, cf_23_2, cs_23_1, cc_27, cf_27_0, cf_27_1, cf_27_2, cs_27_1, cc_31, cf_31_0, cf_31_1, cf_31_2, cs_31_1, cc_35, cf_35_0, cf_35_1, cf_35_2, cs_35_1, cc_39, cf_39_0, cf_39_1, cf_39_2, cs_39_1, cc_43, cf_43_0, cf_43_1, cf_43_2, cs_43_1, cc_1, cc_3, cc_7, cc_11, cc_49, cc_51, cc_54, cc_56, cc_58, cc_60, cc_62, cc_64, cc_66, cc_68, cc_17, cc_21, cc_25, cc_29, cc_33, cc_37, cc_41, cc_45, c1_size, c1_full, c1_holds, c1_at, c1_put, c1_add, c1_pop, c1_clear, c3_size, c3_full, c3_holds, c3_at, c3_put, c3_add, c3_pop, c3_clear, c7_size, c7_full, c7_holds, c7_at, c7_put, c7_add, c7_pop, c7_clear, c7_ins, c7_cut, c7_copy3, c7_copy66, c49_size, c49_full, c49_holds, c49_at, c49_put, c49_add, c49_pop, c49_clear, c51_size, c51_full, c51_holds, c51_at, c51_put, c51_add, c51_pop, c51_clear, c54_size, c54_full, c54_holds, c54_at, c54_put, c54_add, c54_pop, c54_clear, c54_copy56, c56_size, c56_full, c56_holds, c56_at, c56_put, c56_add, c56_pop, c56_clear, c58_size, c58_full, c58_holds, c58_at, c58_put, c58_add, c58_pop, c58_clear, c60_size, c60_full, c60_holds, c60_at, c60_put, c60_add, c60_pop, c60_clear, c62_size, c62_full, c62_holds, c62_at, c62_put, c62_add, c62_pop, c62_clear, c64_size, c64_full, c64_holds, c64_at, c64_put, c64_add, c64_pop, c64_clear, c66_size, c66_full, c66_holds, c66_at, c66_put, c66_add, c66_pop, c66_clear, c66_part7, c68_size, c68_full, c68_holds, c68_at, c68_put, c68_add, c68_pop, c68_clear, c68_part7, ct_ld, ct_st, ct_ln, ck_ld, ck_ln, cp_ld5, cp_ln5, uN_s, uN_n, uA_s, uA_n, uN_uN, uA_uA]) | (refine bq_t (by omega) ?_) | (refine bq_f (by omega) ?_) | fail)
theorem cd_f (hr : 0 ≤ c ∧ c ≤ 65535) (hc : ¬ (32 ≤ c ∧ c ≤ 126)) : CC X d 126 [.int (ii c)] (cm B x C) Q = Q (.inr 1) (mthr (cm B x C)) := by
  refine CC_eq ?_ Q
  by_cases h : c < 32
  · repeat' (first | (simp (disch := first | assumption | exact wd_n | exact wd_i | exact wd_r | exact ct_r | exact ct_i | exact stB_0 | exact stB_1 | exact stB_2 | exact stB_3 | exact stB_4 | exact stB_5 | exact ct_2 | exact b2i_c _ | exact wd_0 | exact wd_f | omega | ((simp (disch := omega) only [uN_s, uN_n, uA_s, uA_n, up_s, up_n]) <;> omega)) only [x126_0, x126_1, x126_3, x126_6, x126_7, x126_9, x126_12, x126_23, e126, XC_v, XC_s, true_and, and_true, and_self, bq_T, bq_F, yt_s, Bool.false_eq_true, Bool.true_eq_false, rg_0, rg_1, rp_1, mset_1, mset_21, mset_eq, mset_ne, yn_I, ya_I, yw_I, mset_cl, cc_0, cf_0_0, cf_0_1, cf_0_2, cf_0_3, cf_0_4, cf_0_5, cf_0_6, cf_0_7, cf_0_8, cf_0_9, cf_0_10, cf_0_11, cf_0_12, cf_0_13, cf_0_14, cf_0_15, cs_0_4, cs_0_6, cs_0_7, cs_0_8, cc_13, cf_13_0, cf_13_1, cf_13_2, cs_13_1, cs_13_2, cc_47, cf_47_0, cf_47_1, cf_47_2, cc_53, cf_53_0, cf_53_1, cf_53_2, cf_53_3, cf_53_4, cf_53_5, cs_53_3, cs_53_4, cs_53_5, cc_5, cf_5_0, cf_5_1, cf_5_2, cs_5_1, cc_9, cf_9_0, cf_9_1, cf_9_2, cs_9_1, cc_15, cf_15_0, cf_15_1, cf_15_2, cs_15_1, cc_19, cf_19_0, cf_19_1, cf_19_2, cs_19_1, cc_23, cf_23_0, cf_23_1, cf_23_2, cs_23_1, cc_27, cf_27_0, cf_27_1, cf_27_2, cs_27_1, cc_31, cf_31_0, cf_31_1, cf_31_2, cs_31_1, cc_35, cf_35_0, cf_35_1, cf_35_2, cs_35_1, cc_39, cf_39_0, cf_39_1, cf_39_2, cs_39_1, cc_43, cf_43_0, cf_43_1, cf_43_2, cs_43_1, cc_1, cc_3, cc_7, cc_11, cc_49, cc_51, cc_54, cc_56, cc_58, cc_60, cc_62, cc_64, cc_66, cc_68, cc_17, cc_21, cc_25, cc_29, cc_33, cc_37, cc_41, cc_45, c1_size, c1_full, c1_holds, c1_at, c1_put, c1_add, c1_pop, c1_clear, c3_size, c3_full, c3_holds, c3_at, c3_put, c3_add, c3_pop, c3_clear, c7_size, c7_full, c7_holds, c7_at, c7_put, c7_add, c7_pop, c7_clear, c7_ins, c7_cut, c7_copy3, c7_copy66, c49_size, c49_full, c49_holds, c49_at, c49_put, c49_add, c49_pop, c49_clear, c51_size, c51_full, c51_holds, c51_at, c51_put, c51_add, c51_pop, c51_clear, c54_size, c54_full, c54_holds, c54_at, c54_put, c54_add, c54_pop, c54_clear, c54_copy56, c56_size, c56_full, c56_holds, c56_at, c56_put, c56_add, c56_pop, c56_clear, c58_size, c58_full, c58_holds, c58_at, c58_put, c58_add, c58_pop, c58_clear, c60_size, c60_full, c60_holds, c60_at, c60_put, c60_add, c60_pop, c60_clear, c62_size, c62_full, c62_holds, c62_at, c62_put, c62_add, c62_pop, c62_clear, c64_size, c64_full, c64_holds, c64_at, c64_put, c64_add, c64_pop, c64_clear, c66_size, c66_full, c66_holds, c66_at, c66_put, c66_add, c66_pop, c66_clear, c66_part7, c68_size, c68_full, c68_holds, c68_at, c68_put, c68_add, c68_pop, c68_clear, c68_part7, ct_ld, ct_st, ct_ln, ck_ld, ck_ln, cp_ld5, cp_ln5, uN_s, uN_n, uA_s, uA_n, uN_uN, uA_uA]) | (refine bq_t (by omega) ?_) | (refine bq_f (by omega) ?_) | fail)
  · repeat' (first | (simp (disch := first | assumption | exact wd_n | exact wd_i | exact wd_r | exact ct_r | exact ct_i | exact stB_0 | exact stB_1 | exact stB_2 | exact stB_3 | exact stB_4 | exact stB_5 | exact ct_2 | exact b2i_c _ | exact wd_0 | exact wd_f | omega | ((simp (disch := omega) only [uN_s, uN_n, uA_s, uA_n, up_s, up_n]) <;> omega)) only [x126_0, x126_1, x126_3, x126_6, x126_7, x126_9, x126_12, x126_23, e126, XC_v, XC_s, true_and, and_true, and_self, bq_T, bq_F, yt_s, Bool.false_eq_true, Bool.true_eq_false, rg_0, rg_1, rp_1, mset_1, mset_21, mset_eq, mset_ne, yn_I, ya_I, yw_I, mset_cl, cc_0, cf_0_0, cf_0_1, cf_0_2, cf_0_3, cf_0_4, cf_0_5, cf_0_6, cf_0_7, cf_0_8, cf_0_9, cf_0_10, cf_0_11, cf_0_12, cf_0_13, cf_0_14, cf_0_15, cs_0_4, cs_0_6, cs_0_7, cs_0_8, cc_13, cf_13_0, cf_13_1, cf_13_2, cs_13_1, cs_13_2, cc_47, cf_47_0, cf_47_1, cf_47_2, cc_53, cf_53_0, cf_53_1, cf_53_2, cf_53_3, cf_53_4, cf_53_5, cs_53_3, cs_53_4, cs_53_5, cc_5, cf_5_0, cf_5_1, cf_5_2, cs_5_1, cc_9, cf_9_0, cf_9_1, cf_9_2, cs_9_1, cc_15, cf_15_0, cf_15_1, cf_15_2, cs_15_1, cc_19, cf_19_0, cf_19_1, cf_19_2, cs_19_1, cc_23, cf_23_0, cf_23_1, cf_23_2, cs_23_1, cc_27, cf_27_0, cf_27_1, cf_27_2, cs_27_1, cc_31, cf_31_0, cf_31_1, cf_31_2, cs_31_1, cc_35, cf_35_0, cf_35_1, cf_35_2, cs_35_1, cc_39, cf_39_0, cf_39_1, cf_39_2, cs_39_1, cc_43, cf_43_0, cf_43_1, cf_43_2, cs_43_1, cc_1, cc_3, cc_7, cc_11, cc_49, cc_51, cc_54, cc_56, cc_58, cc_60, cc_62, cc_64, cc_66, cc_68, cc_17, cc_21, cc_25, cc_29, cc_33, cc_37, cc_41, cc_45, c1_size, c1_full, c1_holds, c1_at, c1_put, c1_add, c1_pop, c1_clear, c3_size, c3_full, c3_holds, c3_at, c3_put, c3_add, c3_pop, c3_clear, c7_size, c7_full, c7_holds, c7_at, c7_put, c7_add, c7_pop, c7_clear, c7_ins, c7_cut, c7_copy3, c7_copy66, c49_size, c49_full, c49_holds, c49_at, c49_put, c49_add, c49_pop, c49_clear, c51_size, c51_full, c51_holds, c51_at, c51_put, c51_add, c51_pop, c51_clear, c54_size, c54_full, c54_holds, c54_at, c54_put, c54_add, c54_pop, c54_clear, c54_copy56, c56_size, c56_full, c56_holds, c56_at, c56_put, c56_add, c56_pop, c56_clear, c58_size, c58_full, c58_holds, c58_at, c58_put, c58_add, c58_pop, c58_clear, c60_size, c60_full, c60_holds, c60_at, c60_put, c60_add, c60_pop, c60_clear, c62_size, c62_full, c62_holds, c62_at, c62_put, c62_add, c62_pop, c62_clear, c64_size, c64_full, c64_holds, c64_at, c64_put, c64_add, c64_pop, c64_clear, c66_size, c66_full, c66_holds, c66_at, c66_put, c66_add, c66_pop, c66_clear, c66_part7, c68_size, c68_full, c68_holds, c68_at, c68_put, c68_add, c68_pop, c68_clear, c68_part7, ct_ld, ct_st, ct_ln, ck_ld, ck_ln, cp_ld5, cp_ln5, uN_s, uN_n, uA_s, uA_n, uN_uN, uA_uA]) | (refine bq_t (by omega) ?_) | (refine bq_f (by omega) ?_) | fail)
theorem s_typeText (hd : 4 ≤ d) (h : REL B x C S) (hc : 0 ≤ c ∧ c ≤ 65535) (q1 : ¬ (32 ≤ c ∧ c ≤ 126) → Q (.inr 1) (mthr (cm B x C))) (q2 : 32 ≤ c ∧ c ≤ 126 → S.1 9 = 40 → Q (.inr 0) (mthr (cm B x C))) (q3 : 32 ≤ c ∧ c ≤ 126 → S.1 9 ≠ 40 → ∀ C', (∀ S', EX [9] [4] S S' → S'.1 9 = S.1 9 + 1 → S'.2 4 = up (S.2 4) (S.1 9) c → REL B x C' S') → Q (rt (S.1 9 + 1)) (cm B x C')) : CC X d 91 [.ref x, .int (ii c)] (cm B x C) Q := by
  obtain ⟨p1, p2, p3⟩ := h.2.2.2.2.2.1
  by_cases hcc : 32 ≤ c ∧ c ≤ 126
  · have hcd := fun (d : Nat) (Q : JR → JM → Prop) => cd_t (X := X) (d := d) (B := B) (x := x) (C := C) (Q := Q) hcc
    by_cases hf : S.1 9 = 40
    · have q2 := q2 hcc hf
      have hdec := decide_eq_true (show (40 : Int) ≤ C.1 3 by omega)
      repeat' (first | (simp (disch := first | assumption | exact wd_n | exact wd_i | exact wd_r | exact ct_r | exact ct_i | exact stB_0 | exact stB_1 | exact stB_2 | exact stB_3 | exact stB_4 | exact stB_5 | exact ct_2 | exact b2i_c _ | exact wd_0 | exact wd_f | omega | ((simp (disch := omega) only [uN_s, uN_n, uA_s, uA_n, up_s, up_n]) <;> omega)) only [x91_0, x91_1, x91_4, x91_4n, x91_5, x91_8, x91_11, x91_11b, x91_14, x91_24, x91_24n, x91_25, x91_28, x91_29, x91_32, x91_32n, x91_33, x91_36, x91_39, e91, XE91_1, XE91_8, XE91_29, XE91_36, XC_v, XC_s, true_and, and_true, and_self, bq_T, bq_F, yt_s, Bool.false_eq_true, Bool.true_eq_false, rg_0, rg_1, rp_1, mset_1, mset_21, mset_eq, mset_ne, yn_I, ya_I, yw_I, mset_cl, cc_0, cf_0_0, cf_0_1, cf_0_2, cf_0_3, cf_0_4, cf_0_5, cf_0_6, cf_0_7, cf_0_8, cf_0_9, cf_0_10, cf_0_11, cf_0_12, cf_0_13, cf_0_14, cf_0_15, cs_0_4, cs_0_6, cs_0_7, cs_0_8, cc_13, cf_13_0, cf_13_1, cf_13_2, cs_13_1, cs_13_2, cc_47, cf_47_0, cf_47_1, cf_47_2, cc_53, cf_53_0, cf_53_1, cf_53_2, cf_53_3, cf_53_4, cf_53_5, cs_53_3, cs_53_4, cs_53_5, cc_5, cf_5_0, cf_5_1, cf_5_2, cs_5_1, cc_9, cf_9_0, cf_9_1, cf_9_2, cs_9_1, cc_15, cf_15_0, cf_15_1, cf_15_2, cs_15_1, cc_19, cf_19_0, cf_19_1, cf_19_2, cs_19_1, cc_23, cf_23_0, cf_23_1, cf_23_2, cs_23_1, cc_27, cf_27_0, cf_27_1, cf_27_2, cs_27_1, cc_31, cf_31_0, cf_31_1, cf_31_2, cs_31_1, cc_35, cf_35_0, cf_35_1, cf_35_2, cs_35_1, cc_39, cf_39_0, cf_39_1, cf_39_2, cs_39_1, cc_43, cf_43_0, cf_43_1, cf_43_2, cs_43_1, cc_1, cc_3, cc_7, cc_11, cc_49, cc_51, cc_54, cc_56, cc_58, cc_60, cc_62, cc_64, cc_66, cc_68, cc_17, cc_21, cc_25, cc_29, cc_33, cc_37, cc_41, cc_45, c1_size, c1_full, c1_holds, c1_at, c1_put, c1_add, c1_pop, c1_clear, c3_size, c3_full, c3_holds, c3_at, c3_put, c3_add, c3_pop, c3_clear, c7_size, c7_full, c7_holds, c7_at, c7_put, c7_add, c7_pop, c7_clear, c7_ins, c7_cut, c7_copy3, c7_copy66, c49_size, c49_full, c49_holds, c49_at, c49_put, c49_add, c49_pop, c49_clear, c51_size, c51_full, c51_holds, c51_at, c51_put, c51_add, c51_pop, c51_clear, c54_size, c54_full, c54_holds, c54_at, c54_put, c54_add, c54_pop, c54_clear, c54_copy56, c56_size, c56_full, c56_holds, c56_at, c56_put, c56_add, c56_pop, c56_clear, c58_size, c58_full, c58_holds, c58_at, c58_put, c58_add, c58_pop, c58_clear, c60_size, c60_full, c60_holds, c60_at, c60_put, c60_add, c60_pop, c60_clear, c62_size, c62_full, c62_holds, c62_at, c62_put, c62_add, c62_pop, c62_clear, c64_size, c64_full, c64_holds, c64_at, c64_put, c64_add, c64_pop, c64_clear, c66_size, c66_full, c66_holds, c66_at, c66_put, c66_add, c66_pop, c66_clear, c66_part7, c68_size, c68_full, c68_holds, c68_at, c68_put, c68_add, c68_pop, c68_clear, c68_part7, ct_ld, ct_st, ct_ln, ck_ld, ck_ln, cp_ld5, cp_ln5, uN_s, uN_n, uA_s, uA_n, uN_uN, uA_uA, hdec, hcd]) | (refine bq_t (by omega) ?_) | (refine bq_f (by omega) ?_) | fail)
      exact q2
    · have hdec := decide_eq_false (show ¬ (40 : Int) ≤ C.1 3 by omega)
      have q3 := q3 hcc hf (uN C.1 3 (C.1 3 + 1), uA C.2.1 3 (up (C.2.1 3) (C.1 3) c), C.2.2) (fun S' he e7 e3 => by
        refine REL_n h (KX_r (Or.inr rfl)) (he.w (by simp) (by simp)) (RPb_f h.2.2.2.2.1 (K := fun k => k = 3) (KX_r rfl) he (by omega) (by decide) (by decide)) ⟨fu_s.trans (by omega), by omega, fun k k0 k1 => ?_⟩
        show uA C.2.1 3 (up (C.2.1 3) (C.1 3) c) 3 k = _ ∧ _
        rw [uA_s, e3, p1]
        by_cases hk : k = S.1 9
        · rw [hk, up_s, up_s]
          exact ⟨rfl, hc⟩
        · rw [up_n hk, up_n hk]
          exact p3 k k0 (by omega))
      rw [← p1] at q3
      unfold rt at q3
      repeat' (first | (simp (disch := first | assumption | exact wd_n | exact wd_i | exact wd_r | exact ct_r | exact ct_i | exact stB_0 | exact stB_1 | exact stB_2 | exact stB_3 | exact stB_4 | exact stB_5 | exact ct_2 | exact b2i_c _ | exact wd_0 | exact wd_f | omega | ((simp (disch := omega) only [uN_s, uN_n, uA_s, uA_n, up_s, up_n]) <;> omega)) only [x91_0, x91_1, x91_4, x91_4n, x91_5, x91_8, x91_11, x91_11b, x91_14, x91_24, x91_24n, x91_25, x91_28, x91_29, x91_32, x91_32n, x91_33, x91_36, x91_39, e91, XE91_1, XE91_8, XE91_29, XE91_36, XC_v, XC_s, true_and, and_true, and_self, bq_T, bq_F, yt_s, Bool.false_eq_true, Bool.true_eq_false, rg_0, rg_1, rp_1, mset_1, mset_21, mset_eq, mset_ne, yn_I, ya_I, yw_I, mset_cl, cc_0, cf_0_0, cf_0_1, cf_0_2, cf_0_3, cf_0_4, cf_0_5, cf_0_6, cf_0_7, cf_0_8, cf_0_9, cf_0_10, cf_0_11, cf_0_12, cf_0_13, cf_0_14, cf_0_15, cs_0_4, cs_0_6, cs_0_7, cs_0_8, cc_13, cf_13_0, cf_13_1, cf_13_2, cs_13_1, cs_13_2, cc_47, cf_47_0, cf_47_1, cf_47_2, cc_53, cf_53_0, cf_53_1, cf_53_2, cf_53_3, cf_53_4, cf_53_5, cs_53_3, cs_53_4, cs_53_5, cc_5, cf_5_0, cf_5_1, cf_5_2, cs_5_1, cc_9, cf_9_0, cf_9_1, cf_9_2, cs_9_1, cc_15, cf_15_0, cf_15_1, cf_15_2, cs_15_1, cc_19, cf_19_0, cf_19_1, cf_19_2, cs_19_1, cc_23, cf_23_0, cf_23_1, cf_23_2, cs_23_1, cc_27, cf_27_0, cf_27_1, cf_27_2, cs_27_1, cc_31, cf_31_0, cf_31_1, cf_31_2, cs_31_1, cc_35, cf_35_0, cf_35_1, cf_35_2, cs_35_1, cc_39, cf_39_0, cf_39_1, cf_39_2, cs_39_1, cc_43, cf_43_0, cf_43_1, cf_43_2, cs_43_1, cc_1, cc_3, cc_7, cc_11, cc_49, cc_51, cc_54, cc_56, cc_58, cc_60, cc_62, cc_64, cc_66, cc_68, cc_17, cc_21, cc_25, cc_29, cc_33, cc_37, cc_41, cc_45, c1_size, c1_full, c1_holds, c1_at, c1_put, c1_add, c1_pop, c1_clear, c3_size, c3_full, c3_holds, c3_at, c3_put, c3_add, c3_pop, c3_clear, c7_size, c7_full, c7_holds, c7_at, c7_put, c7_add, c7_pop, c7_clear, c7_ins, c7_cut, c7_copy3, c7_copy66, c49_size, c49_full, c49_holds, c49_at, c49_put, c49_add, c49_pop, c49_clear, c51_size, c51_full, c51_holds, c51_at, c51_put, c51_add, c51_pop, c51_clear, c54_size, c54_full, c54_holds, c54_at, c54_put, c54_add, c54_pop, c54_clear, c54_copy56, c56_size, c56_full, c56_holds, c56_at, c56_put, c56_add, c56_pop, c56_clear, c58_size, c58_full, c58_holds, c58_at, c58_put, c58_add, c58_pop, c58_clear, c60_size, c60_full, c60_holds, c60_at, c60_put, c60_add, c60_pop, c60_clear, c62_size, c62_full, c62_holds, c62_at, c62_put, c62_add, c62_pop, c62_clear, c64_size, c64_full, c64_holds, c64_at, c64_put, c64_add, c64_pop, c64_clear, c66_size, c66_full, c66_holds, c66_at, c66_put, c66_add, c66_pop, c66_clear, c66_part7, c68_size, c68_full, c68_holds, c68_at, c68_put, c68_add, c68_pop, c68_clear, c68_part7, ct_ld, ct_st, ct_ln, ck_ld, ck_ln, cp_ld5, cp_ln5, uN_s, uN_n, uA_s, uA_n, uN_uN, uA_uA, hdec, hcd]) | (refine bq_t (by omega) ?_) | (refine bq_f (by omega) ?_) | fail)
      exact q3
  · have q1 := q1 hcc
    have hcd := fun (d : Nat) (Q : JR → JM → Prop) => cd_f (X := X) (d := d) (B := B) (x := x) (C := C) (Q := Q) hc hcc
    repeat' (first | (simp (disch := first | assumption | exact wd_n | exact wd_i | exact wd_r | exact ct_r | exact ct_i | exact stB_0 | exact stB_1 | exact stB_2 | exact stB_3 | exact stB_4 | exact stB_5 | exact ct_2 | exact b2i_c _ | exact wd_0 | exact wd_f | omega | ((simp (disch := omega) only [uN_s, uN_n, uA_s, uA_n, up_s, up_n]) <;> omega)) only [x91_0, x91_1, x91_4, x91_4n, x91_5, x91_8, x91_11, x91_11b, x91_14, x91_24, x91_24n, x91_25, x91_28, x91_29, x91_32, x91_32n, x91_33, x91_36, x91_39, e91, XE91_1, XE91_8, XE91_29, XE91_36, XC_v, XC_s, true_and, and_true, and_self, bq_T, bq_F, yt_s, Bool.false_eq_true, Bool.true_eq_false, rg_0, rg_1, rp_1, mset_1, mset_21, mset_eq, mset_ne, yn_I, ya_I, yw_I, mset_cl, cc_0, cf_0_0, cf_0_1, cf_0_2, cf_0_3, cf_0_4, cf_0_5, cf_0_6, cf_0_7, cf_0_8, cf_0_9, cf_0_10, cf_0_11, cf_0_12, cf_0_13, cf_0_14, cf_0_15, cs_0_4, cs_0_6, cs_0_7, cs_0_8, cc_13, cf_13_0, cf_13_1, cf_13_2, cs_13_1, cs_13_2, cc_47, cf_47_0, cf_47_1, cf_47_2, cc_53, cf_53_0, cf_53_1, cf_53_2, cf_53_3, cf_53_4, cf_53_5, cs_53_3, cs_53_4, cs_53_5, cc_5, cf_5_0, cf_5_1, cf_5_2, cs_5_1, cc_9, cf_9_0, cf_9_1, cf_9_2, cs_9_1, cc_15, cf_15_0, cf_15_1, cf_15_2, cs_15_1, cc_19, cf_19_0, cf_19_1, cf_19_2, cs_19_1, cc_23, cf_23_0, cf_23_1, cf_23_2, cs_23_1, cc_27, cf_27_0, cf_27_1, cf_27_2, cs_27_1, cc_31, cf_31_0, cf_31_1, cf_31_2, cs_31_1, cc_35, cf_35_0, cf_35_1, cf_35_2, cs_35_1, cc_39, cf_39_0, cf_39_1, cf_39_2, cs_39_1, cc_43, cf_43_0, cf_43_1, cf_43_2, cs_43_1, cc_1, cc_3, cc_7, cc_11, cc_49, cc_51, cc_54, cc_56, cc_58, cc_60, cc_62, cc_64, cc_66, cc_68, cc_17, cc_21, cc_25, cc_29, cc_33, cc_37, cc_41, cc_45, c1_size, c1_full, c1_holds, c1_at, c1_put, c1_add, c1_pop, c1_clear, c3_size, c3_full, c3_holds, c3_at, c3_put, c3_add, c3_pop, c3_clear, c7_size, c7_full, c7_holds, c7_at, c7_put, c7_add, c7_pop, c7_clear, c7_ins, c7_cut, c7_copy3, c7_copy66, c49_size, c49_full, c49_holds, c49_at, c49_put, c49_add, c49_pop, c49_clear, c51_size, c51_full, c51_holds, c51_at, c51_put, c51_add, c51_pop, c51_clear, c54_size, c54_full, c54_holds, c54_at, c54_put, c54_add, c54_pop, c54_clear, c54_copy56, c56_size, c56_full, c56_holds, c56_at, c56_put, c56_add, c56_pop, c56_clear, c58_size, c58_full, c58_holds, c58_at, c58_put, c58_add, c58_pop, c58_clear, c60_size, c60_full, c60_holds, c60_at, c60_put, c60_add, c60_pop, c60_clear, c62_size, c62_full, c62_holds, c62_at, c62_put, c62_add, c62_pop, c62_clear, c64_size, c64_full, c64_holds, c64_at, c64_put, c64_add, c64_pop, c64_clear, c66_size, c66_full, c66_holds, c66_at, c66_put, c66_add, c66_pop, c66_clear, c66_part7, c68_size, c68_full, c68_holds, c68_at, c68_put, c68_add, c68_pop, c68_clear, c68_part7, ct_ld, ct_st, ct_ln, ck_ld, ck_ln, cp_ld5, cp_ln5, uN_s, uN_n, uA_s, uA_n, uN_uN, uA_uA, hcd]) | (refine bq_t (by omega) ?_) | (refine bq_f (by omega) ?_) | fail)
    exact q1
theorem s_setText (hd : 8 ≤ d) (h : REL B x C S) (q3 : ∀ C', (∀ S', EX [4, 9] [0, 1] S S' → S'.1 9 = 0 → KB S S' → S'.2 0 125 = S.1 9 → (∀ k, 0 ≤ k → k < 40 → S'.2 0 (126 + k) = if k < S.1 9 then S.2 4 k else 0) → (∀ j, j < 125 → S'.2 0 j = S.2 0 j) → REL B x C' S') → Q (rt (S.1 9)) (cm B x C')) : CC X d 92 [.ref x] (cm B x C) Q := by
  obtain ⟨r1, r2, r6, r7⟩ := rm_k h
  have hrt := fun (d : Nat) (Q : JR → JM → Prop) (hd : 6 ≤ d) => rm_t (X := X) (Q := Q) hd h
  have hH := fun C' S' => REL_h (C' := C') (S' := S') h
  obtain ⟨p1, p2, p3⟩ := h.2.2.2.2.2.1
  have hPb := h.2.2.2.2.1
  have e3 : (hrm C).1 3 = C.1 3 := r1.1 3 (by unfold HK; omega)
  have a3 : (hrm C).2.1 3 = C.2.1 3 := r1.2.1 3 (by unfold HK; omega)
  have e1 : (hrm C).1 1 = C.1 1 := r1.1 1 (by unfold HK; omega)
  have a1 : (hrm C).2.1 1 = C.2.1 1 := r1.2.1 1 (by unfold HK; omega)
  have e7 := (CG_tx r6).1
  generalize hrm C = C1 at *
  have hk1 : KX K4 C1 (uN C1.1 7 (C1.1 3), uA C1.2.1 7 (apn (C1.2.1 7) 0 (C1.2.1 3) 0 (C1.1 3)), C1.2.2) := KX_r (by unfold K4; omega)
  have hk2 : KX K4 C1 (uN (uN C1.1 7 (C1.1 3)) 3 0, uA (uA C1.2.1 7 (apn (C1.2.1 7) 0 (C1.2.1 3) 0 (C1.1 3))) 3 (C1.2.1 3), C1.2.2) := hk1.trans (KX_r (by unfold K4; omega))
  have q3 := q3 (uN (uN C1.1 7 (C1.1 3)) 3 0, uA (uA C1.2.1 7 (apn (C1.2.1 7) 0 (C1.2.1 3) 0 (C1.1 3))) 3 (C1.2.1 3), C1.2.2) (fun S' he f9 hkb f125 ft fj => by
    refine hH _ S' hk2 ?_ (he.w (by simp) (by simp)) hkb (CG_tx2 r6 (fun j _ j1 => fj j j1) ⟨by omega, by omega, fun k k0 k1 => ?_⟩ ?_ ?_ (fun k k0 k1 => ?_) rfl) (RPb_e hPb ?_ ?_ (he.1 7 (by decide) (by decide)) (he.2 3 (by omega) (by decide))) ⟨fu_s.trans f9.symm, by omega, fun k k0 k1 => by omega⟩
    · show 0 ≤ uN (uN C1.1 7 (C1.1 3)) 3 0 7 ∧ uN (uN C1.1 7 (C1.1 3)) 3 0 7 ≤ 40
      simp (disch := omega) only [uN_s, uN_n, uA_s, uA_n, up_s, up_n, uN_uN, uA_uA]
      omega
    · rw [ft k k0 k1]
      split
      · rename_i hk
        exact (p3 k k0 hk).2
      · omega
    · show uN (uN C1.1 7 (C1.1 3)) 3 0 5 = _
      simp (disch := omega) only [uN_s, uN_n, uA_s, uA_n, up_s, up_n, uN_uN, uA_uA]
    · show uN (uN C1.1 7 (C1.1 3)) 3 0 7 = _
      simp (disch := omega) only [uN_s, uN_n, uA_s, uA_n, up_s, up_n, uN_uN, uA_uA]
      omega
    · show uA (uA C1.2.1 7 (apn (C1.2.1 7) 0 (C1.2.1 3) 0 (C1.1 3))) 3 (C1.2.1 3) 7 k = S'.2 0 (126 + k)
      rw [uA_n (by omega), uA_s, ft k k0 (by omega), if_pos (by omega)]
      unfold apn
      rw [if_pos (by omega), a3, show (0 : Int) + (k - 0) = k by omega]
      exact (p3 k k0 (by omega)).1
    · show uN (uN C1.1 7 (C1.1 3)) 3 0 1 = _
      simp (disch := omega) only [uN_s, uN_n, uA_s, uA_n, up_s, up_n, uN_uN, uA_uA]
      exact e1
    · show uA (uA C1.2.1 7 (apn (C1.2.1 7) 0 (C1.2.1 3) 0 (C1.1 3))) 3 (C1.2.1 3) 1 = _
      rw [uA_n (by omega), uA_n (by omega)]
      exact a1)
  rw [← p1, ← e3] at q3
  unfold rt at q3
  repeat' (first | (simp (disch := first | assumption | exact wd_n | exact wd_i | exact wd_r | exact ct_r | exact ct_i | exact stB_0 | exact stB_1 | exact stB_2 | exact stB_3 | exact stB_4 | exact stB_5 | exact ct_2 | exact b2i_c _ | exact wd_0 | exact wd_f | omega | ((simp (disch := omega) only [uN_s, uN_n, uA_s, uA_n, up_s, up_n]) <;> omega)) only [x92_0, x92_0n, x92_1, x92_4, x92_4n, x92_5, x92_8, x92_11, x92_11n, x92_12, x92_15, x92_18, x92_18n, x92_19, x92_22, x92_25, x92_25n, x92_26, x92_29, x92_32, x92_32n, x92_33, x92_36, x92_39, x92_42, e92, XE92_8, XE92_22, XE92_29, XE92_39, XC_v, XC_s, true_and, and_true, and_self, bq_T, bq_F, yt_s, Bool.false_eq_true, Bool.true_eq_false, rg_0, rg_1, rp_1, mset_1, mset_21, mset_eq, mset_ne, yn_I, ya_I, yw_I, mset_cl, cc_0, cf_0_0, cf_0_1, cf_0_2, cf_0_3, cf_0_4, cf_0_5, cf_0_6, cf_0_7, cf_0_8, cf_0_9, cf_0_10, cf_0_11, cf_0_12, cf_0_13, cf_0_14, cf_0_15, cs_0_4, cs_0_6, cs_0_7, cs_0_8, cc_13, cf_13_0, cf_13_1, cf_13_2, cs_13_1, cs_13_2, cc_47, cf_47_0, cf_47_1, cf_47_2, cc_53, cf_53_0, cf_53_1, cf_53_2, cf_53_3, cf_53_4, cf_53_5, cs_53_3, cs_53_4, cs_53_5, cc_5, cf_5_0, cf_5_1, cf_5_2, cs_5_1, cc_9, cf_9_0, cf_9_1, cf_9_2, cs_9_1, cc_15, cf_15_0, cf_15_1, cf_15_2, cs_15_1, cc_19, cf_19_0, cf_19_1, cf_19_2, cs_19_1, cc_23, cf_23_0, cf_23_1, cf_23_2, cs_23_1, cc_27, cf_27_0, cf_27_1, cf_27_2, cs_27_1, cc_31, cf_31_0, cf_31_1, cf_31_2, cs_31_1, cc_35, cf_35_0, cf_35_1, cf_35_2, cs_35_1, cc_39, cf_39_0, cf_39_1, cf_39_2, cs_39_1, cc_43, cf_43_0, cf_43_1, cf_43_2, cs_43_1, cc_1, cc_3, cc_7, cc_11, cc_49, cc_51, cc_54, cc_56, cc_58, cc_60, cc_62, cc_64, cc_66, cc_68, cc_17, cc_21, cc_25, cc_29, cc_33, cc_37, cc_41, cc_45, c1_size, c1_full, c1_holds, c1_at, c1_put, c1_add, c1_pop, c1_clear, c3_size, c3_full, c3_holds, c3_at, c3_put, c3_add, c3_pop, c3_clear, c7_size, c7_full, c7_holds, c7_at, c7_put, c7_add, c7_pop, c7_clear, c7_ins, c7_cut, c7_copy3, c7_copy66, c49_size, c49_full, c49_holds, c49_at, c49_put, c49_add, c49_pop, c49_clear, c51_size, c51_full, c51_holds, c51_at, c51_put, c51_add, c51_pop, c51_clear, c54_size, c54_full, c54_holds, c54_at, c54_put, c54_add, c54_pop, c54_clear, c54_copy56, c56_size, c56_full, c56_holds, c56_at, c56_put, c56_add, c56_pop, c56_clear, c58_size, c58_full, c58_holds, c58_at, c58_put, c58_add, c58_pop, c58_clear, c60_size, c60_full, c60_holds, c60_at, c60_put, c60_add, c60_pop, c60_clear, c62_size, c62_full, c62_holds, c62_at, c62_put, c62_add, c62_pop, c62_clear, c64_size, c64_full, c64_holds, c64_at, c64_put, c64_add, c64_pop, c64_clear, c66_size, c66_full, c66_holds, c66_at, c66_put, c66_add, c66_pop, c66_clear, c66_part7, c68_size, c68_full, c68_holds, c68_at, c68_put, c68_add, c68_pop, c68_clear, c68_part7, ct_ld, ct_st, ct_ln, ck_ld, ck_ln, cp_ld5, cp_ln5, uN_s, uN_n, uA_s, uA_n, uN_uN, uA_uA, hrt]) | (refine bq_t (by omega) ?_) | (refine bq_f (by omega) ?_) | fail)
  have ee : uA (uA C1.2.1 7 (apn (C1.2.1 7) 0 (C1.2.1 3) 0 (C1.1 3))) 3 (C1.2.1 3) = uA C1.2.1 7 (apn (C1.2.1 7) 0 (C1.2.1 3) 0 (C1.1 3)) := by
    have := uA_id (s := uA C1.2.1 7 (apn (C1.2.1 7) 0 (C1.2.1 3) 0 (C1.1 3))) (k := 3)
    rw [uA_n (by omega)] at this
    exact this
  first | exact q3 | (rw [ee] at q3; exact q3)
theorem s_deleteText (hd : 8 ≤ d) (h : REL B x C S) (ha : I32 a) (hb : I32 b) (q1 : ¬ (0 ≤ a ∧ a ≤ b ∧ b ≤ S.2 0 125) → Q (.inr 2) (mthr (cm B x C))) (q3 : 0 ≤ a ∧ a ≤ b ∧ b ≤ S.2 0 125 → ∀ C', (∀ S', EX [4] [0, 1] S S' → KB S S' → S'.2 0 125 = S.2 0 125 - (b - a) → (∀ k, 0 ≤ k → k < 40 → S'.2 0 (126 + k) = if k < a then S.2 0 (126 + k) else if k < S.2 0 125 - (b - a) then S.2 0 (126 + k + (b - a)) else S.2 0 (126 + k)) → (∀ j, j < 125 → S'.2 0 j = S.2 0 j) → REL B x C' S') → Q (rt (S.2 0 125 - (b - a))) (cm B x C')) : CC X d 94 [.ref x, .int (ii a), .int (ii b)] (cm B x C) Q := by
  have h7 : C.1 7 = S.2 0 125 := h.2.1.2.2.1
  have htx := CG_tx h.2.1
  unfold I32 at ha hb
  by_cases hv : 0 ≤ a ∧ a ≤ b ∧ b ≤ S.2 0 125
  · obtain ⟨r1, r2, r6, r7⟩ := rm_k h
    have hrt := fun (d : Nat) (Q : JR → JM → Prop) (hd : 6 ≤ d) => rm_t (X := X) (Q := Q) hd h
    have hH := fun C' S' => REL_h (C' := C') (S' := S') h
    have hPb := h.2.2.2.2.1
    have hTb := h.2.2.2.2.2.1
    have e7 : (hrm C).1 7 = S.2 0 125 := r6.2.2.1
    have c7 : ∀ k, 0 ≤ k → k < S.2 0 125 → (hrm C).2.1 7 k = tx (S.2 0) k := r6.2.2.2.1
    have e1 : (hrm C).1 1 = C.1 1 := r1.1 1 (by unfold HK; omega)
    have a1 : (hrm C).2.1 1 = C.2.1 1 := r1.2.1 1 (by unfold HK; omega)
    have e3 : (hrm C).1 3 = C.1 3 := r1.1 3 (by unfold HK; omega)
    have a3 : (hrm C).2.1 3 = C.2.1 3 := r1.2.1 3 (by unfold HK; omega)
    have t2 := r6.1.2.2.2.2.2
    generalize hrm C = C1 at *
    have hk1 : KX K4 C1 (uN C1.1 7 (C1.1 7 - (b - a)), uA C1.2.1 7 (ctf (C1.2.1 7) (C1.1 7) a b), C1.2.2) := KX_r (by unfold K4; omega)
    have q3 := q3 hv (uN C1.1 7 (C1.1 7 - (b - a)), uA C1.2.1 7 (ctf (C1.2.1 7) (C1.1 7) a b), C1.2.2) (fun S' he hkb f125 ft fj => by
      refine hH _ S' hk1 ?_ (he.w (by simp) (by simp)) hkb (CG_tx2 r6 (fun j _ j1 => fj j j1) ⟨by omega, by omega, fun k k0 k1 => ?_⟩ ?_ ?_ (fun k k0 k1 => ?_) rfl) (RPb_e hPb ?_ ?_ (he.1 7 (by decide) (by decide)) (he.2 3 (by omega) (by decide))) (RTb_e hTb ?_ ?_ (he.1 9 (by decide) (by decide)) (he.2 4 (by omega) (by decide)))
      · show 0 ≤ uN C1.1 7 (C1.1 7 - (b - a)) 7 ∧ uN C1.1 7 (C1.1 7 - (b - a)) 7 ≤ 40
        rw [uN_s]
        omega
      · rw [ft k k0 k1]
        split
        · exact t2 k k0 k1
        · split
          · rw [show 126 + k + (b - a) = 126 + (k + (b - a)) by omega]
            exact t2 _ (by omega) (by omega)
          · exact t2 k k0 k1
      · exact fu_n (by omega)
      · exact fu_s.trans (by omega)
      · show uA C1.2.1 7 (ctf (C1.2.1 7) (C1.1 7) a b) 7 k = S'.2 0 (126 + k)
        rw [uA_s, ft k k0 (by omega)]
        unfold ctf
        by_cases hka : k < a
        · rw [if_neg (by omega), if_pos hka]
          exact c7 k k0 (by omega)
        · rw [if_pos (by omega), if_neg hka, if_pos (by omega), c7 _ (by omega) (by omega)]
          unfold tx
          rw [show 126 + k + (b - a) = 126 + (k + (b - a)) by omega]
      · exact (fu_n (by omega)).trans e1
      · show uA C1.2.1 7 (ctf (C1.2.1 7) (C1.1 7) a b) 1 = _
        rw [uA_n (by omega)]
        exact a1
      · exact (fu_n (by omega)).trans e3
      · show uA C1.2.1 7 (ctf (C1.2.1 7) (C1.1 7) a b) 3 = _
        rw [uA_n (by omega)]
        exact a3)
    rw [← e7] at q3
    unfold rt at q3
    repeat' (first | (simp (disch := first | assumption | exact wd_n | exact wd_i | exact wd_r | exact ct_r | exact ct_i | exact stB_0 | exact stB_1 | exact stB_2 | exact stB_3 | exact stB_4 | exact stB_5 | exact ct_2 | exact b2i_c _ | exact wd_0 | exact wd_f | omega | ((simp (disch := omega) only [uN_s, uN_n, uA_s, uA_n, up_s, up_n]) <;> omega)) only [x94_0, x94_1, x94_4, x94_5, x94_6, x94_9, x94_10, x94_10n, x94_11, x94_14, x94_17, x94_20, x94_23, x94_33, x94_33n, x94_34, x94_37, x94_37n, x94_38, x94_41, x94_44, x94_44n, x94_45, x94_48, x94_51, x94_52, x94_53, x94_56, x94_56n, x94_57, x94_60, x94_63, x94_66, e94, XE94_17, XE94_41, XE94_53, XE94_63, XC_v, XC_s, true_and, and_true, and_self, bq_T, bq_F, yt_s, Bool.false_eq_true, Bool.true_eq_false, rg_0, rg_1, rp_1, mset_1, mset_21, mset_eq, mset_ne, yn_I, ya_I, yw_I, mset_cl, cc_0, cf_0_0, cf_0_1, cf_0_2, cf_0_3, cf_0_4, cf_0_5, cf_0_6, cf_0_7, cf_0_8, cf_0_9, cf_0_10, cf_0_11, cf_0_12, cf_0_13, cf_0_14, cf_0_15, cs_0_4, cs_0_6, cs_0_7, cs_0_8, cc_13, cf_13_0, cf_13_1, cf_13_2, cs_13_1, cs_13_2, cc_47, cf_47_0, cf_47_1, cf_47_2, cc_53, cf_53_0, cf_53_1, cf_53_2, cf_53_3, cf_53_4, cf_53_5, cs_53_3, cs_53_4, cs_53_5, cc_5, cf_5_0, cf_5_1, cf_5_2, cs_5_1, cc_9, cf_9_0, cf_9_1, cf_9_2, cs_9_1, cc_15, cf_15_0, cf_15_1, cf_15_2, cs_15_1, cc_19, cf_19_0, cf_19_1, cf_19_2, cs_19_1, cc_23, cf_23_0, cf_23_1, cf_23_2, cs_23_1, cc_27, cf_27_0, cf_27_1, cf_27_2, cs_27_1, cc_31, cf_31_0, cf_31_1, cf_31_2, cs_31_1, cc_35, cf_35_0, cf_35_1, cf_35_2, cs_35_1, cc_39, cf_39_0, cf_39_1, cf_39_2, cs_39_1, cc_43, cf_43_0, cf_43_1, cf_43_2, cs_43_1, cc_1, cc_3, cc_7, cc_11, cc_49, cc_51, cc_54, cc_56, cc_58, cc_60, cc_62, cc_64, cc_66, cc_68, cc_17, cc_21, cc_25, cc_29, cc_33, cc_37, cc_41, cc_45, c1_size, c1_full, c1_holds, c1_at, c1_put, c1_add, c1_pop, c1_clear, c3_size, c3_full, c3_holds, c3_at, c3_put, c3_add, c3_pop, c3_clear, c7_size, c7_full, c7_holds, c7_at, c7_put, c7_add, c7_pop, c7_clear, c7_ins, c7_cut, c7_copy3, c7_copy66, c49_size, c49_full, c49_holds, c49_at, c49_put, c49_add, c49_pop, c49_clear, c51_size, c51_full, c51_holds, c51_at, c51_put, c51_add, c51_pop, c51_clear, c54_size, c54_full, c54_holds, c54_at, c54_put, c54_add, c54_pop, c54_clear, c54_copy56, c56_size, c56_full, c56_holds, c56_at, c56_put, c56_add, c56_pop, c56_clear, c58_size, c58_full, c58_holds, c58_at, c58_put, c58_add, c58_pop, c58_clear, c60_size, c60_full, c60_holds, c60_at, c60_put, c60_add, c60_pop, c60_clear, c62_size, c62_full, c62_holds, c62_at, c62_put, c62_add, c62_pop, c62_clear, c64_size, c64_full, c64_holds, c64_at, c64_put, c64_add, c64_pop, c64_clear, c66_size, c66_full, c66_holds, c66_at, c66_put, c66_add, c66_pop, c66_clear, c66_part7, c68_size, c68_full, c68_holds, c68_at, c68_put, c68_add, c68_pop, c68_clear, c68_part7, ct_ld, ct_st, ct_ln, ck_ld, ck_ln, cp_ld5, cp_ln5, uN_s, uN_n, uA_s, uA_n, uN_uN, uA_uA, hrt]) | (refine bq_t (by omega) ?_) | (refine bq_f (by omega) ?_) | fail)
    exact q3
  · have q1 := q1 hv
    by_cases h1 : a < 0
    · repeat' (first | (simp (disch := first | assumption | exact wd_n | exact wd_i | exact wd_r | exact ct_r | exact ct_i | exact stB_0 | exact stB_1 | exact stB_2 | exact stB_3 | exact stB_4 | exact stB_5 | exact ct_2 | exact b2i_c _ | exact wd_0 | exact wd_f | omega | ((simp (disch := omega) only [uN_s, uN_n, uA_s, uA_n, up_s, up_n]) <;> omega)) only [x94_0, x94_1, x94_4, x94_5, x94_6, x94_9, x94_10, x94_10n, x94_11, x94_14, x94_17, x94_20, x94_23, x94_33, x94_33n, x94_34, x94_37, x94_37n, x94_38, x94_41, x94_44, x94_44n, x94_45, x94_48, x94_51, x94_52, x94_53, x94_56, x94_56n, x94_57, x94_60, x94_63, x94_66, e94, XE94_17, XE94_41, XE94_53, XE94_63, XC_v, XC_s, true_and, and_true, and_self, bq_T, bq_F, yt_s, Bool.false_eq_true, Bool.true_eq_false, rg_0, rg_1, rp_1, mset_1, mset_21, mset_eq, mset_ne, yn_I, ya_I, yw_I, mset_cl, cc_0, cf_0_0, cf_0_1, cf_0_2, cf_0_3, cf_0_4, cf_0_5, cf_0_6, cf_0_7, cf_0_8, cf_0_9, cf_0_10, cf_0_11, cf_0_12, cf_0_13, cf_0_14, cf_0_15, cs_0_4, cs_0_6, cs_0_7, cs_0_8, cc_13, cf_13_0, cf_13_1, cf_13_2, cs_13_1, cs_13_2, cc_47, cf_47_0, cf_47_1, cf_47_2, cc_53, cf_53_0, cf_53_1, cf_53_2, cf_53_3, cf_53_4, cf_53_5, cs_53_3, cs_53_4, cs_53_5, cc_5, cf_5_0, cf_5_1, cf_5_2, cs_5_1, cc_9, cf_9_0, cf_9_1, cf_9_2, cs_9_1, cc_15, cf_15_0, cf_15_1, cf_15_2, cs_15_1, cc_19, cf_19_0, cf_19_1, cf_19_2, cs_19_1, cc_23, cf_23_0, cf_23_1, cf_23_2, cs_23_1, cc_27, cf_27_0, cf_27_1, cf_27_2, cs_27_1, cc_31, cf_31_0, cf_31_1, cf_31_2, cs_31_1, cc_35, cf_35_0, cf_35_1, cf_35_2, cs_35_1, cc_39, cf_39_0, cf_39_1, cf_39_2, cs_39_1, cc_43, cf_43_0, cf_43_1, cf_43_2, cs_43_1, cc_1, cc_3, cc_7, cc_11, cc_49, cc_51, cc_54, cc_56, cc_58, cc_60, cc_62, cc_64, cc_66, cc_68, cc_17, cc_21, cc_25, cc_29, cc_33, cc_37, cc_41, cc_45, c1_size, c1_full, c1_holds, c1_at, c1_put, c1_add, c1_pop, c1_clear, c3_size, c3_full, c3_holds, c3_at, c3_put, c3_add, c3_pop, c3_clear, c7_size, c7_full, c7_holds, c7_at, c7_put, c7_add, c7_pop, c7_clear, c7_ins, c7_cut, c7_copy3, c7_copy66, c49_size, c49_full, c49_holds, c49_at, c49_put, c49_add, c49_pop, c49_clear, c51_size, c51_full, c51_holds, c51_at, c51_put, c51_add, c51_pop, c51_clear, c54_size, c54_full, c54_holds, c54_at, c54_put, c54_add, c54_pop, c54_clear, c54_copy56, c56_size, c56_full, c56_holds, c56_at, c56_put, c56_add, c56_pop, c56_clear, c58_size, c58_full, c58_holds, c58_at, c58_put, c58_add, c58_pop, c58_clear, c60_size, c60_full, c60_holds, c60_at, c60_put, c60_add, c60_pop, c60_clear, c62_size, c62_full, c62_holds, c62_at, c62_put, c62_add, c62_pop, c62_clear, c64_size, c64_full, c64_holds, c64_at, c64_put, c64_add, c64_pop, c64_clear, c66_size, c66_full, c66_holds, c66_at, c66_put, c66_add, c66_pop, c66_clear, c66_part7, c68_size, c68_full, c68_holds, c68_at, c68_put, c68_add, c68_pop, c68_clear, c68_part7, ct_ld, ct_st, ct_ln, ck_ld, ck_ln, cp_ld5, cp_ln5, uN_s, uN_n, uA_s, uA_n, uN_uN, uA_uA]) | (refine bq_t (by omega) ?_) | (refine bq_f (by omega) ?_) | fail)
      exact q1
    · by_cases h2 : b < a
      · repeat' (first | (simp (disch := first | assumption | exact wd_n | exact wd_i | exact wd_r | exact ct_r | exact ct_i | exact stB_0 | exact stB_1 | exact stB_2 | exact stB_3 | exact stB_4 | exact stB_5 | exact ct_2 | exact b2i_c _ | exact wd_0 | exact wd_f | omega | ((simp (disch := omega) only [uN_s, uN_n, uA_s, uA_n, up_s, up_n]) <;> omega)) only [x94_0, x94_1, x94_4, x94_5, x94_6, x94_9, x94_10, x94_10n, x94_11, x94_14, x94_17, x94_20, x94_23, x94_33, x94_33n, x94_34, x94_37, x94_37n, x94_38, x94_41, x94_44, x94_44n, x94_45, x94_48, x94_51, x94_52, x94_53, x94_56, x94_56n, x94_57, x94_60, x94_63, x94_66, e94, XE94_17, XE94_41, XE94_53, XE94_63, XC_v, XC_s, true_and, and_true, and_self, bq_T, bq_F, yt_s, Bool.false_eq_true, Bool.true_eq_false, rg_0, rg_1, rp_1, mset_1, mset_21, mset_eq, mset_ne, yn_I, ya_I, yw_I, mset_cl, cc_0, cf_0_0, cf_0_1, cf_0_2, cf_0_3, cf_0_4, cf_0_5, cf_0_6, cf_0_7, cf_0_8, cf_0_9, cf_0_10, cf_0_11, cf_0_12, cf_0_13, cf_0_14, cf_0_15, cs_0_4, cs_0_6, cs_0_7, cs_0_8, cc_13, cf_13_0, cf_13_1, cf_13_2, cs_13_1, cs_13_2, cc_47, cf_47_0, cf_47_1, cf_47_2, cc_53, cf_53_0, cf_53_1, cf_53_2, cf_53_3, cf_53_4, cf_53_5, cs_53_3, cs_53_4, cs_53_5, cc_5, cf_5_0, cf_5_1, cf_5_2, cs_5_1, cc_9, cf_9_0, cf_9_1, cf_9_2, cs_9_1, cc_15, cf_15_0, cf_15_1, cf_15_2, cs_15_1, cc_19, cf_19_0, cf_19_1, cf_19_2, cs_19_1, cc_23, cf_23_0, cf_23_1, cf_23_2, cs_23_1, cc_27, cf_27_0, cf_27_1, cf_27_2, cs_27_1, cc_31, cf_31_0, cf_31_1, cf_31_2, cs_31_1, cc_35, cf_35_0, cf_35_1, cf_35_2, cs_35_1, cc_39, cf_39_0, cf_39_1, cf_39_2, cs_39_1, cc_43, cf_43_0, cf_43_1, cf_43_2, cs_43_1, cc_1, cc_3, cc_7, cc_11, cc_49, cc_51, cc_54, cc_56, cc_58, cc_60, cc_62, cc_64, cc_66, cc_68, cc_17, cc_21, cc_25, cc_29, cc_33, cc_37, cc_41, cc_45, c1_size, c1_full, c1_holds, c1_at, c1_put, c1_add, c1_pop, c1_clear, c3_size, c3_full, c3_holds, c3_at, c3_put, c3_add, c3_pop, c3_clear, c7_size, c7_full, c7_holds, c7_at, c7_put, c7_add, c7_pop, c7_clear, c7_ins, c7_cut, c7_copy3, c7_copy66, c49_size, c49_full, c49_holds, c49_at, c49_put, c49_add, c49_pop, c49_clear, c51_size, c51_full, c51_holds, c51_at, c51_put, c51_add, c51_pop, c51_clear, c54_size, c54_full, c54_holds, c54_at, c54_put, c54_add, c54_pop, c54_clear, c54_copy56, c56_size, c56_full, c56_holds, c56_at, c56_put, c56_add, c56_pop, c56_clear, c58_size, c58_full, c58_holds, c58_at, c58_put, c58_add, c58_pop, c58_clear, c60_size, c60_full, c60_holds, c60_at, c60_put, c60_add, c60_pop, c60_clear, c62_size, c62_full, c62_holds, c62_at, c62_put, c62_add, c62_pop, c62_clear, c64_size, c64_full, c64_holds, c64_at, c64_put, c64_add, c64_pop, c64_clear, c66_size, c66_full, c66_holds, c66_at, c66_put, c66_add, c66_pop, c66_clear, c66_part7, c68_size, c68_full, c68_holds, c68_at, c68_put, c68_add, c68_pop, c68_clear, c68_part7, ct_ld, ct_st, ct_ln, ck_ld, ck_ln, cp_ld5, cp_ln5, uN_s, uN_n, uA_s, uA_n, uN_uN, uA_uA]) | (refine bq_t (by omega) ?_) | (refine bq_f (by omega) ?_) | fail)
        exact q1
      · repeat' (first | (simp (disch := first | assumption | exact wd_n | exact wd_i | exact wd_r | exact ct_r | exact ct_i | exact stB_0 | exact stB_1 | exact stB_2 | exact stB_3 | exact stB_4 | exact stB_5 | exact ct_2 | exact b2i_c _ | exact wd_0 | exact wd_f | omega | ((simp (disch := omega) only [uN_s, uN_n, uA_s, uA_n, up_s, up_n]) <;> omega)) only [x94_0, x94_1, x94_4, x94_5, x94_6, x94_9, x94_10, x94_10n, x94_11, x94_14, x94_17, x94_20, x94_23, x94_33, x94_33n, x94_34, x94_37, x94_37n, x94_38, x94_41, x94_44, x94_44n, x94_45, x94_48, x94_51, x94_52, x94_53, x94_56, x94_56n, x94_57, x94_60, x94_63, x94_66, e94, XE94_17, XE94_41, XE94_53, XE94_63, XC_v, XC_s, true_and, and_true, and_self, bq_T, bq_F, yt_s, Bool.false_eq_true, Bool.true_eq_false, rg_0, rg_1, rp_1, mset_1, mset_21, mset_eq, mset_ne, yn_I, ya_I, yw_I, mset_cl, cc_0, cf_0_0, cf_0_1, cf_0_2, cf_0_3, cf_0_4, cf_0_5, cf_0_6, cf_0_7, cf_0_8, cf_0_9, cf_0_10, cf_0_11, cf_0_12, cf_0_13, cf_0_14, cf_0_15, cs_0_4, cs_0_6, cs_0_7, cs_0_8, cc_13, cf_13_0, cf_13_1, cf_13_2, cs_13_1, cs_13_2, cc_47, cf_47_0, cf_47_1, cf_47_2, cc_53, cf_53_0, cf_53_1, cf_53_2, cf_53_3, cf_53_4, cf_53_5, cs_53_3, cs_53_4, cs_53_5, cc_5, cf_5_0, cf_5_1, cf_5_2, cs_5_1, cc_9, cf_9_0, cf_9_1, cf_9_2, cs_9_1, cc_15, cf_15_0, cf_15_1, cf_15_2, cs_15_1, cc_19, cf_19_0, cf_19_1, cf_19_2, cs_19_1, cc_23, cf_23_0, cf_23_1, cf_23_2, cs_23_1, cc_27, cf_27_0, cf_27_1, cf_27_2, cs_27_1, cc_31, cf_31_0, cf_31_1, cf_31_2, cs_31_1, cc_35, cf_35_0, cf_35_1, cf_35_2, cs_35_1, cc_39, cf_39_0, cf_39_1, cf_39_2, cs_39_1, cc_43, cf_43_0, cf_43_1, cf_43_2, cs_43_1, cc_1, cc_3, cc_7, cc_11, cc_49, cc_51, cc_54, cc_56, cc_58, cc_60, cc_62, cc_64, cc_66, cc_68, cc_17, cc_21, cc_25, cc_29, cc_33, cc_37, cc_41, cc_45, c1_size, c1_full, c1_holds, c1_at, c1_put, c1_add, c1_pop, c1_clear, c3_size, c3_full, c3_holds, c3_at, c3_put, c3_add, c3_pop, c3_clear, c7_size, c7_full, c7_holds, c7_at, c7_put, c7_add, c7_pop, c7_clear, c7_ins, c7_cut, c7_copy3, c7_copy66, c49_size, c49_full, c49_holds, c49_at, c49_put, c49_add, c49_pop, c49_clear, c51_size, c51_full, c51_holds, c51_at, c51_put, c51_add, c51_pop, c51_clear, c54_size, c54_full, c54_holds, c54_at, c54_put, c54_add, c54_pop, c54_clear, c54_copy56, c56_size, c56_full, c56_holds, c56_at, c56_put, c56_add, c56_pop, c56_clear, c58_size, c58_full, c58_holds, c58_at, c58_put, c58_add, c58_pop, c58_clear, c60_size, c60_full, c60_holds, c60_at, c60_put, c60_add, c60_pop, c60_clear, c62_size, c62_full, c62_holds, c62_at, c62_put, c62_add, c62_pop, c62_clear, c64_size, c64_full, c64_holds, c64_at, c64_put, c64_add, c64_pop, c64_clear, c66_size, c66_full, c66_holds, c66_at, c66_put, c66_add, c66_pop, c66_clear, c66_part7, c68_size, c68_full, c68_holds, c68_at, c68_put, c68_add, c68_pop, c68_clear, c68_part7, ct_ld, ct_st, ct_ln, ck_ld, ck_ln, cp_ld5, cp_ln5, uN_s, uN_n, uA_s, uA_n, uN_uN, uA_uA]) | (refine bq_t (by omega) ?_) | (refine bq_f (by omega) ?_) | fail)
        exact q1
theorem s_undo (hd : 8 ≤ d) (h : REL B x C S) (q1 : S.1 4 = 0 → Q (.inr 0) (mthr (cm B x C))) (q3 : S.1 4 ≠ 0 → ∀ C', (∀ S', EX [4] [0] S S' → S'.1 4 = S.1 4 - 1 → (∀ k, 0 ≤ k → k < 166 → S'.2 0 k = S.2 1 (166 * (S.1 4 - 1) + k)) → REL B x C' S') → Q (rt (S.1 4 - 1)) (cm B x C')) : CC X d 119 [.ref x] (cm B x C) Q := by
  obtain ⟨⟨z1, z2, z3, z4⟩, h1, h2, ⟨k1, k2, k3⟩, h4, h5, h6, h7⟩ := h
  have hz := fun (d : Nat) (C : CS) (Q : JR → JM → Prop) => h_size (X := X) (d := d) (M0 := B) (x := x) (C := C) (Q := Q)
  by_cases h0 : S.1 4 = 0
  · have q1 := q1 h0
    have h14 : C.1 14 = 0 := by omega
    unfold rt at hz
    repeat' (first | (simp (disch := first | assumption | exact wd_n | exact wd_i | exact wd_r | exact ct_r | exact ct_i | exact stB_0 | exact stB_1 | exact stB_2 | exact stB_3 | exact stB_4 | exact stB_5 | exact ct_2 | exact b2i_c _ | exact wd_0 | exact wd_f | omega | ((simp (disch := omega) only [uN_s, uN_n, uA_s, uA_n, up_s, up_n]) <;> omega)) only [x119_0, x119_0n, x119_1, x119_4, x119_7, x119_7b, x119_10, x119_21, x119_21n, x119_22, x119_25, x119_25n, x119_26, x119_29, x119_32, x119_32n, x119_33, x119_36, x119_39, e119, XE119_4, XE119_29, XE119_36, XC_v, XC_s, true_and, and_true, and_self, bq_T, bq_F, yt_s, Bool.false_eq_true, Bool.true_eq_false, rg_0, rg_1, rp_1, mset_1, mset_21, mset_eq, mset_ne, yn_I, ya_I, yw_I, mset_cl, cc_0, cf_0_0, cf_0_1, cf_0_2, cf_0_3, cf_0_4, cf_0_5, cf_0_6, cf_0_7, cf_0_8, cf_0_9, cf_0_10, cf_0_11, cf_0_12, cf_0_13, cf_0_14, cf_0_15, cs_0_4, cs_0_6, cs_0_7, cs_0_8, cc_13, cf_13_0, cf_13_1, cf_13_2, cs_13_1, cs_13_2, cc_47, cf_47_0, cf_47_1, cf_47_2, cc_53, cf_53_0, cf_53_1, cf_53_2, cf_53_3, cf_53_4, cf_53_5, cs_53_3, cs_53_4, cs_53_5, cc_5, cf_5_0, cf_5_1, cf_5_2, cs_5_1, cc_9, cf_9_0, cf_9_1, cf_9_2, cs_9_1, cc_15, cf_15_0, cf_15_1, cf_15_2, cs_15_1, cc_19, cf_19_0, cf_19_1, cf_19_2, cs_19_1, cc_23, cf_23_0, cf_23_1, cf_23_2, cs_23_1, cc_27, cf_27_0, cf_27_1, cf_27_2, cs_27_1, cc_31, cf_31_0, cf_31_1, cf_31_2, cs_31_1, cc_35, cf_35_0, cf_35_1, cf_35_2, cs_35_1, cc_39, cf_39_0, cf_39_1, cf_39_2, cs_39_1, cc_43, cf_43_0, cf_43_1, cf_43_2, cs_43_1, cc_1, cc_3, cc_7, cc_11, cc_49, cc_51, cc_54, cc_56, cc_58, cc_60, cc_62, cc_64, cc_66, cc_68, cc_17, cc_21, cc_25, cc_29, cc_33, cc_37, cc_41, cc_45, c1_size, c1_full, c1_holds, c1_at, c1_put, c1_add, c1_pop, c1_clear, c3_size, c3_full, c3_holds, c3_at, c3_put, c3_add, c3_pop, c3_clear, c7_size, c7_full, c7_holds, c7_at, c7_put, c7_add, c7_pop, c7_clear, c7_ins, c7_cut, c7_copy3, c7_copy66, c49_size, c49_full, c49_holds, c49_at, c49_put, c49_add, c49_pop, c49_clear, c51_size, c51_full, c51_holds, c51_at, c51_put, c51_add, c51_pop, c51_clear, c54_size, c54_full, c54_holds, c54_at, c54_put, c54_add, c54_pop, c54_clear, c54_copy56, c56_size, c56_full, c56_holds, c56_at, c56_put, c56_add, c56_pop, c56_clear, c58_size, c58_full, c58_holds, c58_at, c58_put, c58_add, c58_pop, c58_clear, c60_size, c60_full, c60_holds, c60_at, c60_put, c60_add, c60_pop, c60_clear, c62_size, c62_full, c62_holds, c62_at, c62_put, c62_add, c62_pop, c62_clear, c64_size, c64_full, c64_holds, c64_at, c64_put, c64_add, c64_pop, c64_clear, c66_size, c66_full, c66_holds, c66_at, c66_put, c66_add, c66_pop, c66_clear, c66_part7, c68_size, c68_full, c68_holds, c68_at, c68_put, c68_add, c68_pop, c68_clear, c68_part7, ct_ld, ct_st, ct_ln, ck_ld, ck_ln, cp_ld5, cp_ln5, uN_s, uN_n, uA_s, uA_n, uN_uN, uA_uA, hz, h14]) | (refine bq_t (by omega) ?_) | (refine bq_f (by omega) ?_) | fail)
    exact q1
  · have hL := k3 (S.1 4 - 1) (by omega) (by omega)
    obtain ⟨b1, b2, b3⟩ := hs_rg (C := C) (i := S.1 4 - 1) z3.1 (by omega)
    have hkx : KX (fun k => k = 14 ∨ k = 5 ∨ k = 7) C (htk C) := (KX_n (Or.inl rfl)).trans (KX_cp (Or.inr (Or.inl rfl)) (Or.inr (Or.inr rfl)))
    have e14 : (htk C).1 14 = C.1 14 - 1 := (cpC_n (by omega) (by omega)).trans fu_s
    have ht := fun (d : Nat) (Q : JR → JM → Prop) (hd : 6 ≤ d) => h_take (X := X) (d := d) (M0 := B) (x := x) (C := C) (Q := Q) z3 (by omega) (by rw [k2]; have g := hL.2.1; have g0 := hL.1.1; have g1 := hL.1.2.1; omega) (by
      rw [k2]
      intro j j0 j1
      have g := hL.2.1
      obtain ⟨p, e, hP⟩ := hL.2.2.2.2 j j0 (by omega)
      rw [e]
      exact PV_pp hP) z4 hd
    have hC5 : CG B x (htk C) 5 (fun k => S.2 1 (166 * (S.1 4 - 1) + k)) := by
      unfold htk
      rw [k2]
      exact CG_cp (Or.inl rfl) b3 (by omega) (CG_kx hL (KX_n (K := fun k => k = 14) rfl) (by omega) (by omega))
    have hr7 := CG_tx hC5
    have q3 := q3 h0 (htk C) (fun S' he f4 fg => by
      have e13 : (htk C).1 13 = C.1 13 := hkx.1 13 (by omega)
      refine ⟨⟨SOK_k z1 hkx (fun k hk => by unfold scr at hk; omega), z2, by omega, fun o ho => ?_⟩, CG_ext hC5 fg, RS1_f h2 hkx he (by omega) (by omega) (by omega) (by decide) (by decide), ⟨by omega, by omega, fun i i0 i1 => ?_⟩, RPb_f h4 hkx he (by omega) (by decide) (by decide), RTb_f h5 hkx he (by omega) (by decide) (by decide), RFl_f h6 hkx he (by omega) (by omega) (by omega) (by decide) (by decide) (by decide), RLn_f h7 hkx he (by omega) (by decide) (by decide)⟩
      · by_cases h5 : o = 5
        · rw [h5]
          exact hr7.1
        · have : o + 2 ≠ 14 ∧ o + 2 ≠ 5 ∧ o + 2 ≠ 7 := by
            unfold isC at ho
            omega
          rw [hkx.1 _ (by omega)]
          exact z4 o ho
      · obtain ⟨c1, c2, c3⟩ := hs_rg (C := C) z3.1 i0
        rw [hs_e e13, he.2 1 (by omega) (by decide)]
        exact CG_kx (k3 i i0 (by omega)) hkx (by omega) (by omega))
    rw [← k2, ← e14] at q3
    unfold rt at hz q3
    repeat' (first | (simp (disch := first | assumption | exact wd_n | exact wd_i | exact wd_r | exact ct_r | exact ct_i | exact stB_0 | exact stB_1 | exact stB_2 | exact stB_3 | exact stB_4 | exact stB_5 | exact ct_2 | exact b2i_c _ | exact wd_0 | exact wd_f | omega | ((simp (disch := omega) only [uN_s, uN_n, uA_s, uA_n, up_s, up_n]) <;> omega)) only [x119_0, x119_0n, x119_1, x119_4, x119_7, x119_7b, x119_10, x119_21, x119_21n, x119_22, x119_25, x119_25n, x119_26, x119_29, x119_32, x119_32n, x119_33, x119_36, x119_39, e119, XE119_4, XE119_29, XE119_36, XC_v, XC_s, true_and, and_true, and_self, bq_T, bq_F, yt_s, Bool.false_eq_true, Bool.true_eq_false, rg_0, rg_1, rp_1, mset_1, mset_21, mset_eq, mset_ne, yn_I, ya_I, yw_I, mset_cl, cc_0, cf_0_0, cf_0_1, cf_0_2, cf_0_3, cf_0_4, cf_0_5, cf_0_6, cf_0_7, cf_0_8, cf_0_9, cf_0_10, cf_0_11, cf_0_12, cf_0_13, cf_0_14, cf_0_15, cs_0_4, cs_0_6, cs_0_7, cs_0_8, cc_13, cf_13_0, cf_13_1, cf_13_2, cs_13_1, cs_13_2, cc_47, cf_47_0, cf_47_1, cf_47_2, cc_53, cf_53_0, cf_53_1, cf_53_2, cf_53_3, cf_53_4, cf_53_5, cs_53_3, cs_53_4, cs_53_5, cc_5, cf_5_0, cf_5_1, cf_5_2, cs_5_1, cc_9, cf_9_0, cf_9_1, cf_9_2, cs_9_1, cc_15, cf_15_0, cf_15_1, cf_15_2, cs_15_1, cc_19, cf_19_0, cf_19_1, cf_19_2, cs_19_1, cc_23, cf_23_0, cf_23_1, cf_23_2, cs_23_1, cc_27, cf_27_0, cf_27_1, cf_27_2, cs_27_1, cc_31, cf_31_0, cf_31_1, cf_31_2, cs_31_1, cc_35, cf_35_0, cf_35_1, cf_35_2, cs_35_1, cc_39, cf_39_0, cf_39_1, cf_39_2, cs_39_1, cc_43, cf_43_0, cf_43_1, cf_43_2, cs_43_1, cc_1, cc_3, cc_7, cc_11, cc_49, cc_51, cc_54, cc_56, cc_58, cc_60, cc_62, cc_64, cc_66, cc_68, cc_17, cc_21, cc_25, cc_29, cc_33, cc_37, cc_41, cc_45, c1_size, c1_full, c1_holds, c1_at, c1_put, c1_add, c1_pop, c1_clear, c3_size, c3_full, c3_holds, c3_at, c3_put, c3_add, c3_pop, c3_clear, c7_size, c7_full, c7_holds, c7_at, c7_put, c7_add, c7_pop, c7_clear, c7_ins, c7_cut, c7_copy3, c7_copy66, c49_size, c49_full, c49_holds, c49_at, c49_put, c49_add, c49_pop, c49_clear, c51_size, c51_full, c51_holds, c51_at, c51_put, c51_add, c51_pop, c51_clear, c54_size, c54_full, c54_holds, c54_at, c54_put, c54_add, c54_pop, c54_clear, c54_copy56, c56_size, c56_full, c56_holds, c56_at, c56_put, c56_add, c56_pop, c56_clear, c58_size, c58_full, c58_holds, c58_at, c58_put, c58_add, c58_pop, c58_clear, c60_size, c60_full, c60_holds, c60_at, c60_put, c60_add, c60_pop, c60_clear, c62_size, c62_full, c62_holds, c62_at, c62_put, c62_add, c62_pop, c62_clear, c64_size, c64_full, c64_holds, c64_at, c64_put, c64_add, c64_pop, c64_clear, c66_size, c66_full, c66_holds, c66_at, c66_put, c66_add, c66_pop, c66_clear, c66_part7, c68_size, c68_full, c68_holds, c68_at, c68_put, c68_add, c68_pop, c68_clear, c68_part7, ct_ld, ct_st, ct_ln, ck_ld, ck_ln, cp_ld5, cp_ln5, uN_s, uN_n, uA_s, uA_n, uN_uN, uA_uA, hz, ht]) | (refine bq_t (by omega) ?_) | (refine bq_f (by omega) ?_) | fail)
    exact q3
theorem s_saveSnapshot (hd : 8 ≤ d) (h : REL B x C S) (q3 : ∀ C', (∀ S', EX [3] [2] S S' → S'.1 3 = 1 → (∀ k, 0 ≤ k → k < 166 → S'.2 2 k = S.2 0 k) → REL B x C' S') → Q (rt (S.2 0 0)) (cm B x C')) : CC X d 121 [.ref x] (cm B x C) Q := by
  obtain ⟨⟨z1, z2, z3, z4⟩, h1, h2, h3, h4, h5, h6, h7⟩ := h
  have e5 : C.1 5 = S.2 0 0 := h1.2.1
  have g0 := h1.1.1
  have g1 := h1.1.2.1
  have hcp := fun (d : Nat) (Q : JR → JM → Prop) (hd : 5 ≤ d) => n_copy (X := X) (d := d) (M0 := B) (x := x) (C := C) (Q := Q) (a := 9) (b := 5) (Or.inr (Or.inl rfl)) (Or.inl rfl) (by omega) (by omega) (by
      intro j j0 j1
      obtain ⟨p, e, hP⟩ := h1.2.2.2.2 j j0 (by omega)
      rw [e]
      exact PV_pp hP) (CG_tx h1).1 (z4 9 (Or.inr (Or.inl rfl))) hd
  have hz := fun (d : Nat) (C : CS) (Q : JR → JM → Prop) => n_size (X := X) (d := d) (M0 := B) (x := x) (o := 5) (C := C) (Q := Q) (Or.inl rfl)
  have hkx : KX (fun k => k = 70 ∨ k = 9 ∨ k = 11) C (uN (cpC C 9 5).1 70 1, (cpC C 9 5).2) := (KX_cp (Or.inr (Or.inl rfl)) (Or.inr (Or.inr rfl))).trans (KX_n (Or.inl rfl))
  have hC9 : CG B x (uN (cpC C 9 5).1 70 1, (cpC C 9 5).2) 9 (S.2 0) := CG_kx (CG_cp (Or.inr (Or.inl rfl)) (Or.inl rfl) (by omega) h1) (KX_n (K := fun k => k = 70) rfl) (by omega) (by omega)
  have e5' : (cpC C 9 5).1 5 = C.1 5 := cpC_n (by omega) (by omega)
  have q3 := q3 (uN (cpC C 9 5).1 70 1, (cpC C 9 5).2) (fun S' he f3 fg => by
    refine ⟨⟨SOK_k z1 hkx (fun k hk => by unfold scr at hk; omega), z2, ?_, fun o ho => ?_⟩, ?_, ⟨Or.inr f3, fu_s.trans f3.symm, fun _ => CG_ext hC9 fg⟩, RH_s (RH_kx z3.1 h3 hkx (fun k hk => by unfold HK at hk; omega)) (he.1 4 (by decide) (by decide)) (he.2 1 (by omega) (by decide)), RPb_f h4 hkx he (by omega) (by decide) (by decide), RTb_f h5 hkx he (by omega) (by decide) (by decide), RFl_f h6 hkx he (by omega) (by omega) (by omega) (by decide) (by decide) (by decide), RLn_f h7 hkx he (by omega) (by decide) (by decide)⟩
    · rw [hkx.1 13 (by omega)]
      exact z3
    · by_cases h9 : o = 9
      · rw [h9]
        show 0 ≤ uN (cpC C 9 5).1 70 1 11 ∧ uN (cpC C 9 5).1 70 1 11 ≤ 40
        rw [uN_n (by omega)]
        show 0 ≤ uN (uN C.1 9 (C.1 5)) 11 (C.1 7) 11 ∧ uN (uN C.1 9 (C.1 5)) 11 (C.1 7) 11 ≤ 40
        rw [uN_s]
        exact z4 5 (Or.inl rfl)
      · have : o + 2 ≠ 70 ∧ o + 2 ≠ 9 ∧ o + 2 ≠ 11 := by
          unfold isC at ho
          omega
        rw [hkx.1 _ (by omega)]
        exact z4 o ho
    · rw [he.2 0 (by omega) (by decide)]
      exact CG_kx h1 hkx (by omega) (by omega))
  rw [← e5, ← e5'] at q3
  unfold rt at hz q3
  repeat' (first | (simp (disch := first | assumption | exact wd_n | exact wd_i | exact wd_r | exact ct_r | exact ct_i | exact stB_0 | exact stB_1 | exact stB_2 | exact stB_3 | exact stB_4 | exact stB_5 | exact ct_2 | exact b2i_c _ | exact wd_0 | exact wd_f | omega | ((simp (disch := omega) only [uN_s, uN_n, uA_s, uA_n, up_s, up_n]) <;> omega)) only [x121_0, x121_0n, x121_1, x121_4, x121_4n, x121_5, x121_8, x121_11, x121_11n, x121_12, x121_13, x121_16, x121_16n, x121_17, x121_20, x121_23, e121, XE121_8, XE121_20, XC_v, XC_s, true_and, and_true, and_self, bq_T, bq_F, yt_s, Bool.false_eq_true, Bool.true_eq_false, rg_0, rg_1, rp_1, mset_1, mset_21, mset_eq, mset_ne, yn_I, ya_I, yw_I, mset_cl, cc_0, cf_0_0, cf_0_1, cf_0_2, cf_0_3, cf_0_4, cf_0_5, cf_0_6, cf_0_7, cf_0_8, cf_0_9, cf_0_10, cf_0_11, cf_0_12, cf_0_13, cf_0_14, cf_0_15, cs_0_4, cs_0_6, cs_0_7, cs_0_8, cc_13, cf_13_0, cf_13_1, cf_13_2, cs_13_1, cs_13_2, cc_47, cf_47_0, cf_47_1, cf_47_2, cc_53, cf_53_0, cf_53_1, cf_53_2, cf_53_3, cf_53_4, cf_53_5, cs_53_3, cs_53_4, cs_53_5, cc_5, cf_5_0, cf_5_1, cf_5_2, cs_5_1, cc_9, cf_9_0, cf_9_1, cf_9_2, cs_9_1, cc_15, cf_15_0, cf_15_1, cf_15_2, cs_15_1, cc_19, cf_19_0, cf_19_1, cf_19_2, cs_19_1, cc_23, cf_23_0, cf_23_1, cf_23_2, cs_23_1, cc_27, cf_27_0, cf_27_1, cf_27_2, cs_27_1, cc_31, cf_31_0, cf_31_1, cf_31_2, cs_31_1, cc_35, cf_35_0, cf_35_1, cf_35_2, cs_35_1, cc_39, cf_39_0, cf_39_1, cf_39_2, cs_39_1, cc_43, cf_43_0, cf_43_1, cf_43_2, cs_43_1, cc_1, cc_3, cc_7, cc_11, cc_49, cc_51, cc_54, cc_56, cc_58, cc_60, cc_62, cc_64, cc_66, cc_68, cc_17, cc_21, cc_25, cc_29, cc_33, cc_37, cc_41, cc_45, c1_size, c1_full, c1_holds, c1_at, c1_put, c1_add, c1_pop, c1_clear, c3_size, c3_full, c3_holds, c3_at, c3_put, c3_add, c3_pop, c3_clear, c7_size, c7_full, c7_holds, c7_at, c7_put, c7_add, c7_pop, c7_clear, c7_ins, c7_cut, c7_copy3, c7_copy66, c49_size, c49_full, c49_holds, c49_at, c49_put, c49_add, c49_pop, c49_clear, c51_size, c51_full, c51_holds, c51_at, c51_put, c51_add, c51_pop, c51_clear, c54_size, c54_full, c54_holds, c54_at, c54_put, c54_add, c54_pop, c54_clear, c54_copy56, c56_size, c56_full, c56_holds, c56_at, c56_put, c56_add, c56_pop, c56_clear, c58_size, c58_full, c58_holds, c58_at, c58_put, c58_add, c58_pop, c58_clear, c60_size, c60_full, c60_holds, c60_at, c60_put, c60_add, c60_pop, c60_clear, c62_size, c62_full, c62_holds, c62_at, c62_put, c62_add, c62_pop, c62_clear, c64_size, c64_full, c64_holds, c64_at, c64_put, c64_add, c64_pop, c64_clear, c66_size, c66_full, c66_holds, c66_at, c66_put, c66_add, c66_pop, c66_clear, c66_part7, c68_size, c68_full, c68_holds, c68_at, c68_put, c68_add, c68_pop, c68_clear, c68_part7, ct_ld, ct_st, ct_ln, ck_ld, ck_ln, cp_ld5, cp_ln5, uN_s, uN_n, uA_s, uA_n, uN_uN, uA_uA, hz, hcp]) | (refine bq_t (by omega) ?_) | (refine bq_f (by omega) ?_) | fail)
  exact q3
theorem s_restoreSnapshot (hd : 8 ≤ d) (h : REL B x C S) (q1 : S.1 3 = 0 → Q (.inr 0) (mthr (cm B x C))) (q3 : S.1 3 = 1 → ∀ C', (∀ S', EX [4] [0] S S' → S'.1 4 = 0 → (∀ k, 0 ≤ k → k < 166 → S'.2 0 k = S.2 2 k) → REL B x C' S') → Q (rt (S.2 2 0)) (cm B x C')) : CC X d 122 [.ref x] (cm B x C) Q := by
  obtain ⟨⟨z1, z2, z3, z4⟩, h1, ⟨s1, s2, s3⟩, h3, h4, h5, h6, h7⟩ := id h
  by_cases hs : S.1 3 = 0
  · have q1 := q1 hs
    have h70 : C.1 70 = 0 := by omega
    repeat' (first | (simp (disch := first | assumption | exact wd_n | exact wd_i | exact wd_r | exact ct_r | exact ct_i | exact stB_0 | exact stB_1 | exact stB_2 | exact stB_3 | exact stB_4 | exact stB_5 | exact ct_2 | exact b2i_c _ | exact wd_0 | exact wd_f | omega | ((simp (disch := omega) only [uN_s, uN_n, uA_s, uA_n, up_s, up_n]) <;> omega)) only [x122_0, x122_0n, x122_1, x122_4, x122_4b, x122_7, x122_18, x122_18n, x122_19, x122_22, x122_22n, x122_23, x122_26, x122_29, x122_29n, x122_30, x122_33, x122_36, x122_36n, x122_37, x122_40, x122_43, e122, XE122_26, XE122_33, XE122_40, XC_v, XC_s, true_and, and_true, and_self, bq_T, bq_F, yt_s, Bool.false_eq_true, Bool.true_eq_false, rg_0, rg_1, rp_1, mset_1, mset_21, mset_eq, mset_ne, yn_I, ya_I, yw_I, mset_cl, cc_0, cf_0_0, cf_0_1, cf_0_2, cf_0_3, cf_0_4, cf_0_5, cf_0_6, cf_0_7, cf_0_8, cf_0_9, cf_0_10, cf_0_11, cf_0_12, cf_0_13, cf_0_14, cf_0_15, cs_0_4, cs_0_6, cs_0_7, cs_0_8, cc_13, cf_13_0, cf_13_1, cf_13_2, cs_13_1, cs_13_2, cc_47, cf_47_0, cf_47_1, cf_47_2, cc_53, cf_53_0, cf_53_1, cf_53_2, cf_53_3, cf_53_4, cf_53_5, cs_53_3, cs_53_4, cs_53_5, cc_5, cf_5_0, cf_5_1, cf_5_2, cs_5_1, cc_9, cf_9_0, cf_9_1, cf_9_2, cs_9_1, cc_15, cf_15_0, cf_15_1, cf_15_2, cs_15_1, cc_19, cf_19_0, cf_19_1, cf_19_2, cs_19_1, cc_23, cf_23_0, cf_23_1, cf_23_2, cs_23_1, cc_27, cf_27_0, cf_27_1, cf_27_2, cs_27_1, cc_31, cf_31_0, cf_31_1, cf_31_2, cs_31_1, cc_35, cf_35_0, cf_35_1, cf_35_2, cs_35_1, cc_39, cf_39_0, cf_39_1, cf_39_2, cs_39_1, cc_43, cf_43_0, cf_43_1, cf_43_2, cs_43_1, cc_1, cc_3, cc_7, cc_11, cc_49, cc_51, cc_54, cc_56, cc_58, cc_60, cc_62, cc_64, cc_66, cc_68, cc_17, cc_21, cc_25, cc_29, cc_33, cc_37, cc_41, cc_45, c1_size, c1_full, c1_holds, c1_at, c1_put, c1_add, c1_pop, c1_clear, c3_size, c3_full, c3_holds, c3_at, c3_put, c3_add, c3_pop, c3_clear, c7_size, c7_full, c7_holds, c7_at, c7_put, c7_add, c7_pop, c7_clear, c7_ins, c7_cut, c7_copy3, c7_copy66, c49_size, c49_full, c49_holds, c49_at, c49_put, c49_add, c49_pop, c49_clear, c51_size, c51_full, c51_holds, c51_at, c51_put, c51_add, c51_pop, c51_clear, c54_size, c54_full, c54_holds, c54_at, c54_put, c54_add, c54_pop, c54_clear, c54_copy56, c56_size, c56_full, c56_holds, c56_at, c56_put, c56_add, c56_pop, c56_clear, c58_size, c58_full, c58_holds, c58_at, c58_put, c58_add, c58_pop, c58_clear, c60_size, c60_full, c60_holds, c60_at, c60_put, c60_add, c60_pop, c60_clear, c62_size, c62_full, c62_holds, c62_at, c62_put, c62_add, c62_pop, c62_clear, c64_size, c64_full, c64_holds, c64_at, c64_put, c64_add, c64_pop, c64_clear, c66_size, c66_full, c66_holds, c66_at, c66_put, c66_add, c66_pop, c66_clear, c66_part7, c68_size, c68_full, c68_holds, c68_at, c68_put, c68_add, c68_pop, c68_clear, c68_part7, ct_ld, ct_st, ct_ln, ck_ld, ck_ln, cp_ld5, cp_ln5, uN_s, uN_n, uA_s, uA_n, uN_uN, uA_uA, h70]) | (refine bq_t (by omega) ?_) | (refine bq_f (by omega) ?_) | fail)
    exact q1
  · have hs1 : S.1 3 = 1 := by omega
    have h70 : C.1 70 = 1 := by omega
    have h9 := s3 hs1
    have e9 : C.1 9 = S.2 2 0 := h9.2.1
    have g0 := h9.1.1
    have g1 := h9.1.2.1
    have t11 := z4 9 (Or.inr (Or.inl rfl))
    have hcp := fun (d : Nat) (Q : JR → JM → Prop) (hd : 5 ≤ d) => n_copy (X := X) (d := d) (M0 := B) (x := x) (C := C) (Q := Q) (a := 5) (b := 9) (Or.inl rfl) (Or.inr (Or.inl rfl)) (by omega) (by omega) (by
        intro j j0 j1
        obtain ⟨p, e, hP⟩ := h9.2.2.2.2 j j0 (by omega)
        rw [e]
        exact PV_pp hP) t11 (CG_tx h1).1 hd
    have hz := fun (d : Nat) (C : CS) (Q : JR → JM → Prop) => n_size (X := X) (d := d) (M0 := B) (x := x) (o := 5) (C := C) (Q := Q) (Or.inl rfl)
    have hcl := fun (d : Nat) (C : CS) (Q : JR → JM → Prop) => h_clear (X := X) (d := d) (M0 := B) (x := x) (C := C) (Q := Q)
    have hkx : KX (fun k => k = 14 ∨ k = 5 ∨ k = 7) C (uN (cpC C 5 9).1 14 0, (cpC C 5 9).2) := (KX_cp (Or.inr (Or.inl rfl)) (Or.inr (Or.inr rfl))).trans (KX_n (Or.inl rfl))
    have hC5 : CG B x (uN (cpC C 5 9).1 14 0, (cpC C 5 9).2) 5 (S.2 2) := CG_kx (CG_cp (Or.inl rfl) (Or.inr (Or.inl rfl)) (by omega) h9) (KX_n (K := fun k => k = 14) rfl) (by omega) (by omega)
    have hr7 := CG_tx hC5
    have e5' : (cpC C 5 9).1 5 = C.1 9 := by
      show uN (uN C.1 5 (C.1 9)) 7 (C.1 11) 5 = _
      rw [uN_n (by omega), uN_s]
    have q3 := q3 hs1 (uN (cpC C 5 9).1 14 0, (cpC C 5 9).2) (fun S' he f4 fg => by
      refine ⟨⟨SOK_k z1 hkx (fun k hk => by unfold scr at hk; omega), z2, ?_, fun o ho => ?_⟩, CG_ext hC5 fg, RS1_f ⟨s1, s2, s3⟩ hkx he (by omega) (by omega) (by omega) (by decide) (by decide), ⟨by omega, fu_s.trans f4.symm, fun i i0 i1 => by omega⟩, RPb_f h4 hkx he (by omega) (by decide) (by decide), RTb_f h5 hkx he (by omega) (by decide) (by decide), RFl_f h6 hkx he (by omega) (by omega) (by omega) (by decide) (by decide) (by decide), RLn_f h7 hkx he (by omega) (by decide) (by decide)⟩
      · rw [hkx.1 13 (by omega)]
        exact z3
      · by_cases h5 : o = 5
        · rw [h5]
          exact hr7.1
        · have : o + 2 ≠ 14 ∧ o + 2 ≠ 5 ∧ o + 2 ≠ 7 := by
            unfold isC at ho
            omega
          rw [hkx.1 _ (by omega)]
          exact z4 o ho)
    rw [← e9, ← e5'] at q3
    unfold rt at hz q3
    repeat' (first | (simp (disch := first | assumption | exact wd_n | exact wd_i | exact wd_r | exact ct_r | exact ct_i | exact stB_0 | exact stB_1 | exact stB_2 | exact stB_3 | exact stB_4 | exact stB_5 | exact ct_2 | exact b2i_c _ | exact wd_0 | exact wd_f | omega | ((simp (disch := omega) only [uN_s, uN_n, uA_s, uA_n, up_s, up_n]) <;> omega)) only [x122_0, x122_0n, x122_1, x122_4, x122_4b, x122_7, x122_18, x122_18n, x122_19, x122_22, x122_22n, x122_23, x122_26, x122_29, x122_29n, x122_30, x122_33, x122_36, x122_36n, x122_37, x122_40, x122_43, e122, XE122_26, XE122_33, XE122_40, XC_v, XC_s, true_and, and_true, and_self, bq_T, bq_F, yt_s, Bool.false_eq_true, Bool.true_eq_false, rg_0, rg_1, rp_1, mset_1, mset_21, mset_eq, mset_ne, yn_I, ya_I, yw_I, mset_cl, cc_0, cf_0_0, cf_0_1, cf_0_2, cf_0_3, cf_0_4, cf_0_5, cf_0_6, cf_0_7, cf_0_8, cf_0_9, cf_0_10, cf_0_11, cf_0_12, cf_0_13, cf_0_14, cf_0_15, cs_0_4, cs_0_6, cs_0_7, cs_0_8, cc_13, cf_13_0, cf_13_1, cf_13_2, cs_13_1, cs_13_2, cc_47, cf_47_0, cf_47_1, cf_47_2, cc_53, cf_53_0, cf_53_1, cf_53_2, cf_53_3, cf_53_4, cf_53_5, cs_53_3, cs_53_4, cs_53_5, cc_5, cf_5_0, cf_5_1, cf_5_2, cs_5_1, cc_9, cf_9_0, cf_9_1, cf_9_2, cs_9_1, cc_15, cf_15_0, cf_15_1, cf_15_2, cs_15_1, cc_19, cf_19_0, cf_19_1, cf_19_2, cs_19_1, cc_23, cf_23_0, cf_23_1, cf_23_2, cs_23_1, cc_27, cf_27_0, cf_27_1, cf_27_2, cs_27_1, cc_31, cf_31_0, cf_31_1, cf_31_2, cs_31_1, cc_35, cf_35_0, cf_35_1, cf_35_2, cs_35_1, cc_39, cf_39_0, cf_39_1, cf_39_2, cs_39_1, cc_43, cf_43_0, cf_43_1, cf_43_2, cs_43_1, cc_1, cc_3, cc_7, cc_11, cc_49, cc_51, cc_54, cc_56, cc_58, cc_60, cc_62, cc_64, cc_66, cc_68, cc_17, cc_21, cc_25, cc_29, cc_33, cc_37, cc_41, cc_45, c1_size, c1_full, c1_holds, c1_at, c1_put, c1_add, c1_pop, c1_clear, c3_size, c3_full, c3_holds, c3_at, c3_put, c3_add, c3_pop, c3_clear, c7_size, c7_full, c7_holds, c7_at, c7_put, c7_add, c7_pop, c7_clear, c7_ins, c7_cut, c7_copy3, c7_copy66, c49_size, c49_full, c49_holds, c49_at, c49_put, c49_add, c49_pop, c49_clear, c51_size, c51_full, c51_holds, c51_at, c51_put, c51_add, c51_pop, c51_clear, c54_size, c54_full, c54_holds, c54_at, c54_put, c54_add, c54_pop, c54_clear, c54_copy56, c56_size, c56_full, c56_holds, c56_at, c56_put, c56_add, c56_pop, c56_clear, c58_size, c58_full, c58_holds, c58_at, c58_put, c58_add, c58_pop, c58_clear, c60_size, c60_full, c60_holds, c60_at, c60_put, c60_add, c60_pop, c60_clear, c62_size, c62_full, c62_holds, c62_at, c62_put, c62_add, c62_pop, c62_clear, c64_size, c64_full, c64_holds, c64_at, c64_put, c64_add, c64_pop, c64_clear, c66_size, c66_full, c66_holds, c66_at, c66_put, c66_add, c66_pop, c66_clear, c66_part7, c68_size, c68_full, c68_holds, c68_at, c68_put, c68_add, c68_pop, c68_clear, c68_part7, ct_ld, ct_st, ct_ln, ck_ld, ck_ln, cp_ld5, cp_ln5, uN_s, uN_n, uA_s, uA_n, uN_uN, uA_uA, hz, hcp, hcl, h70]) | (refine bq_t (by omega) ?_) | (refine bq_f (by omega) ?_) | fail)
    exact q3
end CH1
