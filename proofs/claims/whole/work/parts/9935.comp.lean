/-! the class compiles -/
section CMP
variable {X : JX} {d : Nat} {B : JM} {x s r : Nat} {C C' : CS} {S S' : MS} {G : Int → Int} {Q : JR → JM → Prop} {e n : Int} {c : Int → Int} {P : RS}
theorem pm_cm (h : x + 70 ≤ r) : pm (cm B x C) s r P = cm (pm B s r P) x C := by
  unfold pm cm
  simp only
  congr 2
  funext b
  by_cases h1 : x ≤ b ∧ b < x + 70
  · rw [if_neg (by omega), if_neg (by omega), if_pos h1, if_pos h1]
  · rw [if_neg h1, if_neg h1]
theorem BX_pm (hr : r = B.1) : BX x B (pm B s r P) := ⟨by rw [pm_1]; omega, fun b h1 h2 => pm_ne (by omega)⟩
theorem sm_b {f : Int → Int} (h : ∀ k, -1 ≤ f k ∧ f k ≤ 1) : ∀ n : Nat, -(n : Int) ≤ sm n f ∧ sm n f ≤ n := by
  intro n
  induction n with
  | zero => exact ⟨by show -((0 : Nat) : Int) ≤ 0; omega, by show (0 : Int) ≤ ((0 : Nat) : Int); omega⟩
  | succ n ih =>
    rw [sm_s]
    have := h n
    omega
theorem srt_rg (z : Int) : 1 ≤ srt z ∧ srt z ≤ 5 := by
  unfold srt
  repeat' split
  all_goals omega
theorem so_t (hd : 1 ≤ d) (h : 0 ≤ C.1 1 ∧ C.1 1 ≤ 30) (he : 0 ≤ e ∧ e ≤ C.1 1) (hc : ∀ k, 0 ≤ k → k < C.1 1 → 0 ≤ C.2.1 1 k ∧ C.2.1 1 k ≤ 65535) : CC X d 128 [.ref (x + 1), .int (ii e)] (cm B x C) Q = Q (rt (srt (hr (C.2.1 1) (C.1 1) e))) (cm B x C) := by
  have hR := cr_1 (M0 := B) (x := x) (C := C) h
  have hsz := fun (d : Nat) (Q : JR → JM → Prop) => R_size (X := X) (d := d) (Q := Q) hR
  unfold rt at hsz ⊢
  refine CC_eq ?_ Q
  by_cases hl : e < C.1 1
  · have hat := fun (d : Nat) (Q : JR → JM → Prop) => R_at (X := X) (d := d) (Q := Q) hR (i := e) (by unfold I32; omega)
    rw [if_pos ⟨he.1, hl⟩] at hat
    have hrg := hc e he.1 hl
    have ehr : hr (C.2.1 1) (C.1 1) e = C.2.1 1 e := if_pos hl
    rw [ehr]
    unfold rt at hat
    generalize C.2.1 1 e = z at *
    unfold srt
    rw [if_neg (by omega)]
    by_cases h1 : z = 42 ∨ z = 43 ∨ z = 63
    · rw [if_pos h1]
      have es : swI [(40, 53), (41, 51), (42, 49), (43, 49), (63, 49)] [68, 66, 64, 64, 64] (some 70) z = some 64 := by rcases h1 with rfl | rfl | rfl <;> rfl
      repeat' (first | (simp (disch := first | assumption | exact wd_n | exact wd_i | exact wd_r | exact ct_r | exact ct_i | exact stB_0 | exact stB_1 | exact stB_2 | exact stB_3 | exact stB_4 | exact stB_5 | exact ct_2 | exact b2i_c _ | exact wd_0 | exact wd_f | omega | ((simp (disch := omega) only [uN_s, uN_n, uA_s, uA_n, up_s, up_n]) <;> omega)) only [x128_0, x128_1, x128_1n, x128_2, x128_5, x128_8, x128_9, x128_10, x128_10n, x128_11, x128_12, x128_15, x128_64, x128_65, x128_66, x128_67, x128_68, x128_69, x128_70, x128_71, e128, XE128_2, XE128_12, XC_v, XC_s, true_and, and_true, and_self, bq_T, bq_F, yt_s, Bool.false_eq_true, Bool.true_eq_false, rg_0, rg_1, rp_1, mset_1, mset_21, mset_eq, mset_ne, yn_I, ya_I, yw_I, mset_cl, cc_0, cf_0_0, cf_0_1, cf_0_2, cf_0_3, cf_0_4, cf_0_5, cf_0_6, cf_0_7, cf_0_8, cf_0_9, cf_0_10, cf_0_11, cf_0_12, cf_0_13, cf_0_14, cf_0_15, cs_0_4, cs_0_6, cs_0_7, cs_0_8, cc_13, cf_13_0, cf_13_1, cf_13_2, cs_13_1, cs_13_2, cc_47, cf_47_0, cf_47_1, cf_47_2, cc_53, cf_53_0, cf_53_1, cf_53_2, cf_53_3, cf_53_4, cf_53_5, cs_53_3, cs_53_4, cs_53_5, cc_5, cf_5_0, cf_5_1, cf_5_2, cs_5_1, cc_9, cf_9_0, cf_9_1, cf_9_2, cs_9_1, cc_15, cf_15_0, cf_15_1, cf_15_2, cs_15_1, cc_19, cf_19_0, cf_19_1, cf_19_2, cs_19_1, cc_23, cf_23_0, cf_23_1, cf_23_2, cs_23_1, cc_27, cf_27_0, cf_27_1, cf_27_2, cs_27_1, cc_31, cf_31_0, cf_31_1, cf_31_2, cs_31_1, cc_35, cf_35_0, cf_35_1, cf_35_2, cs_35_1, cc_39, cf_39_0, cf_39_1, cf_39_2, cs_39_1, cc_43, cf_43_0, cf_43_1, cf_43_2, cs_43_1, cc_1, cc_3, cc_7, cc_11, cc_49, cc_51, cc_54, cc_56, cc_58, cc_60, cc_62, cc_64, cc_66, cc_68, cc_17, cc_21, cc_25, cc_29, cc_33, cc_37, cc_41, cc_45, c1_size, c1_full, c1_holds, c1_at, c1_put, c1_add, c1_pop, c1_clear, c3_size, c3_full, c3_holds, c3_at, c3_put, c3_add, c3_pop, c3_clear, c7_size, c7_full, c7_holds, c7_at, c7_put, c7_add, c7_pop, c7_clear, c7_ins, c7_cut, c7_copy3, c7_copy66, c49_size, c49_full, c49_holds, c49_at, c49_put, c49_add, c49_pop, c49_clear, c51_size, c51_full, c51_holds, c51_at, c51_put, c51_add, c51_pop, c51_clear, c54_size, c54_full, c54_holds, c54_at, c54_put, c54_add, c54_pop, c54_clear, c54_copy56, c56_size, c56_full, c56_holds, c56_at, c56_put, c56_add, c56_pop, c56_clear, c58_size, c58_full, c58_holds, c58_at, c58_put, c58_add, c58_pop, c58_clear, c60_size, c60_full, c60_holds, c60_at, c60_put, c60_add, c60_pop, c60_clear, c62_size, c62_full, c62_holds, c62_at, c62_put, c62_add, c62_pop, c62_clear, c64_size, c64_full, c64_holds, c64_at, c64_put, c64_add, c64_pop, c64_clear, c66_size, c66_full, c66_holds, c66_at, c66_put, c66_add, c66_pop, c66_clear, c66_part7, c68_size, c68_full, c68_holds, c68_at, c68_put, c68_add, c68_pop, c68_clear, c68_part7, ct_ld, ct_st, ct_ln, ck_ld, ck_ln, cp_ld5, cp_ln5, uN_s, uN_n, uA_s, uA_n, uN_uN, uA_uA, hsz, hat, es]) | (refine bq_t (by omega) ?_) | (refine bq_f (by omega) ?_) | fail)
    rw [if_neg h1]
    by_cases h2 : z = 41
    · rw [if_pos h2]
      have es : swI [(40, 53), (41, 51), (42, 49), (43, 49), (63, 49)] [68, 66, 64, 64, 64] (some 70) z = some 66 := by rw [h2]; rfl
      repeat' (first | (simp (disch := first | assumption | exact wd_n | exact wd_i | exact wd_r | exact ct_r | exact ct_i | exact stB_0 | exact stB_1 | exact stB_2 | exact stB_3 | exact stB_4 | exact stB_5 | exact ct_2 | exact b2i_c _ | exact wd_0 | exact wd_f | omega | ((simp (disch := omega) only [uN_s, uN_n, uA_s, uA_n, up_s, up_n]) <;> omega)) only [x128_0, x128_1, x128_1n, x128_2, x128_5, x128_8, x128_9, x128_10, x128_10n, x128_11, x128_12, x128_15, x128_64, x128_65, x128_66, x128_67, x128_68, x128_69, x128_70, x128_71, e128, XE128_2, XE128_12, XC_v, XC_s, true_and, and_true, and_self, bq_T, bq_F, yt_s, Bool.false_eq_true, Bool.true_eq_false, rg_0, rg_1, rp_1, mset_1, mset_21, mset_eq, mset_ne, yn_I, ya_I, yw_I, mset_cl, cc_0, cf_0_0, cf_0_1, cf_0_2, cf_0_3, cf_0_4, cf_0_5, cf_0_6, cf_0_7, cf_0_8, cf_0_9, cf_0_10, cf_0_11, cf_0_12, cf_0_13, cf_0_14, cf_0_15, cs_0_4, cs_0_6, cs_0_7, cs_0_8, cc_13, cf_13_0, cf_13_1, cf_13_2, cs_13_1, cs_13_2, cc_47, cf_47_0, cf_47_1, cf_47_2, cc_53, cf_53_0, cf_53_1, cf_53_2, cf_53_3, cf_53_4, cf_53_5, cs_53_3, cs_53_4, cs_53_5, cc_5, cf_5_0, cf_5_1, cf_5_2, cs_5_1, cc_9, cf_9_0, cf_9_1, cf_9_2, cs_9_1, cc_15, cf_15_0, cf_15_1, cf_15_2, cs_15_1, cc_19, cf_19_0, cf_19_1, cf_19_2, cs_19_1, cc_23, cf_23_0, cf_23_1, cf_23_2, cs_23_1, cc_27, cf_27_0, cf_27_1, cf_27_2, cs_27_1, cc_31, cf_31_0, cf_31_1, cf_31_2, cs_31_1, cc_35, cf_35_0, cf_35_1, cf_35_2, cs_35_1, cc_39, cf_39_0, cf_39_1, cf_39_2, cs_39_1, cc_43, cf_43_0, cf_43_1, cf_43_2, cs_43_1, cc_1, cc_3, cc_7, cc_11, cc_49, cc_51, cc_54, cc_56, cc_58, cc_60, cc_62, cc_64, cc_66, cc_68, cc_17, cc_21, cc_25, cc_29, cc_33, cc_37, cc_41, cc_45, c1_size, c1_full, c1_holds, c1_at, c1_put, c1_add, c1_pop, c1_clear, c3_size, c3_full, c3_holds, c3_at, c3_put, c3_add, c3_pop, c3_clear, c7_size, c7_full, c7_holds, c7_at, c7_put, c7_add, c7_pop, c7_clear, c7_ins, c7_cut, c7_copy3, c7_copy66, c49_size, c49_full, c49_holds, c49_at, c49_put, c49_add, c49_pop, c49_clear, c51_size, c51_full, c51_holds, c51_at, c51_put, c51_add, c51_pop, c51_clear, c54_size, c54_full, c54_holds, c54_at, c54_put, c54_add, c54_pop, c54_clear, c54_copy56, c56_size, c56_full, c56_holds, c56_at, c56_put, c56_add, c56_pop, c56_clear, c58_size, c58_full, c58_holds, c58_at, c58_put, c58_add, c58_pop, c58_clear, c60_size, c60_full, c60_holds, c60_at, c60_put, c60_add, c60_pop, c60_clear, c62_size, c62_full, c62_holds, c62_at, c62_put, c62_add, c62_pop, c62_clear, c64_size, c64_full, c64_holds, c64_at, c64_put, c64_add, c64_pop, c64_clear, c66_size, c66_full, c66_holds, c66_at, c66_put, c66_add, c66_pop, c66_clear, c66_part7, c68_size, c68_full, c68_holds, c68_at, c68_put, c68_add, c68_pop, c68_clear, c68_part7, ct_ld, ct_st, ct_ln, ck_ld, ck_ln, cp_ld5, cp_ln5, uN_s, uN_n, uA_s, uA_n, uN_uN, uA_uA, hsz, hat, es]) | (refine bq_t (by omega) ?_) | (refine bq_f (by omega) ?_) | fail)
    rw [if_neg h2]
    by_cases h3 : z = 40
    · rw [if_pos h3]
      have es : swI [(40, 53), (41, 51), (42, 49), (43, 49), (63, 49)] [68, 66, 64, 64, 64] (some 70) z = some 68 := by rw [h3]; rfl
      repeat' (first | (simp (disch := first | assumption | exact wd_n | exact wd_i | exact wd_r | exact ct_r | exact ct_i | exact stB_0 | exact stB_1 | exact stB_2 | exact stB_3 | exact stB_4 | exact stB_5 | exact ct_2 | exact b2i_c _ | exact wd_0 | exact wd_f | omega | ((simp (disch := omega) only [uN_s, uN_n, uA_s, uA_n, up_s, up_n]) <;> omega)) only [x128_0, x128_1, x128_1n, x128_2, x128_5, x128_8, x128_9, x128_10, x128_10n, x128_11, x128_12, x128_15, x128_64, x128_65, x128_66, x128_67, x128_68, x128_69, x128_70, x128_71, e128, XE128_2, XE128_12, XC_v, XC_s, true_and, and_true, and_self, bq_T, bq_F, yt_s, Bool.false_eq_true, Bool.true_eq_false, rg_0, rg_1, rp_1, mset_1, mset_21, mset_eq, mset_ne, yn_I, ya_I, yw_I, mset_cl, cc_0, cf_0_0, cf_0_1, cf_0_2, cf_0_3, cf_0_4, cf_0_5, cf_0_6, cf_0_7, cf_0_8, cf_0_9, cf_0_10, cf_0_11, cf_0_12, cf_0_13, cf_0_14, cf_0_15, cs_0_4, cs_0_6, cs_0_7, cs_0_8, cc_13, cf_13_0, cf_13_1, cf_13_2, cs_13_1, cs_13_2, cc_47, cf_47_0, cf_47_1, cf_47_2, cc_53, cf_53_0, cf_53_1, cf_53_2, cf_53_3, cf_53_4, cf_53_5, cs_53_3, cs_53_4, cs_53_5, cc_5, cf_5_0, cf_5_1, cf_5_2, cs_5_1, cc_9, cf_9_0, cf_9_1, cf_9_2, cs_9_1, cc_15, cf_15_0, cf_15_1, cf_15_2, cs_15_1, cc_19, cf_19_0, cf_19_1, cf_19_2, cs_19_1, cc_23, cf_23_0, cf_23_1, cf_23_2, cs_23_1, cc_27, cf_27_0, cf_27_1, cf_27_2, cs_27_1, cc_31, cf_31_0, cf_31_1, cf_31_2, cs_31_1, cc_35, cf_35_0, cf_35_1, cf_35_2, cs_35_1, cc_39, cf_39_0, cf_39_1, cf_39_2, cs_39_1, cc_43, cf_43_0, cf_43_1, cf_43_2, cs_43_1, cc_1, cc_3, cc_7, cc_11, cc_49, cc_51, cc_54, cc_56, cc_58, cc_60, cc_62, cc_64, cc_66, cc_68, cc_17, cc_21, cc_25, cc_29, cc_33, cc_37, cc_41, cc_45, c1_size, c1_full, c1_holds, c1_at, c1_put, c1_add, c1_pop, c1_clear, c3_size, c3_full, c3_holds, c3_at, c3_put, c3_add, c3_pop, c3_clear, c7_size, c7_full, c7_holds, c7_at, c7_put, c7_add, c7_pop, c7_clear, c7_ins, c7_cut, c7_copy3, c7_copy66, c49_size, c49_full, c49_holds, c49_at, c49_put, c49_add, c49_pop, c49_clear, c51_size, c51_full, c51_holds, c51_at, c51_put, c51_add, c51_pop, c51_clear, c54_size, c54_full, c54_holds, c54_at, c54_put, c54_add, c54_pop, c54_clear, c54_copy56, c56_size, c56_full, c56_holds, c56_at, c56_put, c56_add, c56_pop, c56_clear, c58_size, c58_full, c58_holds, c58_at, c58_put, c58_add, c58_pop, c58_clear, c60_size, c60_full, c60_holds, c60_at, c60_put, c60_add, c60_pop, c60_clear, c62_size, c62_full, c62_holds, c62_at, c62_put, c62_add, c62_pop, c62_clear, c64_size, c64_full, c64_holds, c64_at, c64_put, c64_add, c64_pop, c64_clear, c66_size, c66_full, c66_holds, c66_at, c66_put, c66_add, c66_pop, c66_clear, c66_part7, c68_size, c68_full, c68_holds, c68_at, c68_put, c68_add, c68_pop, c68_clear, c68_part7, ct_ld, ct_st, ct_ln, ck_ld, ck_ln, cp_ld5, cp_ln5, uN_s, uN_n, uA_s, uA_n, uN_uN, uA_uA, hsz, hat, es]) | (refine bq_t (by omega) ?_) | (refine bq_f (by omega) ?_) | fail)
    rw [if_neg h3]
    have es : swI [(40, 53), (41, 51), (42, 49), (43, 49), (63, 49)] [68, 66, 64, 64, 64] (some 70) z = some 70 := by
      simp only [swI]
      rw [if_neg (by omega), if_neg (by omega), if_neg (by omega), if_neg (by omega), if_neg (by omega)]
    repeat' (first | (simp (disch := first | assumption | exact wd_n | exact wd_i | exact wd_r | exact ct_r | exact ct_i | exact stB_0 | exact stB_1 | exact stB_2 | exact stB_3 | exact stB_4 | exact stB_5 | exact ct_2 | exact b2i_c _ | exact wd_0 | exact wd_f | omega | ((simp (disch := omega) only [uN_s, uN_n, uA_s, uA_n, up_s, up_n]) <;> omega)) only [x128_0, x128_1, x128_1n, x128_2, x128_5, x128_8, x128_9, x128_10, x128_10n, x128_11, x128_12, x128_15, x128_64, x128_65, x128_66, x128_67, x128_68, x128_69, x128_70, x128_71, e128, XE128_2, XE128_12, XC_v, XC_s, true_and, and_true, and_self, bq_T, bq_F, yt_s, Bool.false_eq_true, Bool.true_eq_false, rg_0, rg_1, rp_1, mset_1, mset_21, mset_eq, mset_ne, yn_I, ya_I, yw_I, mset_cl, cc_0, cf_0_0, cf_0_1, cf_0_2, cf_0_3, cf_0_4, cf_0_5, cf_0_6, cf_0_7, cf_0_8, cf_0_9, cf_0_10, cf_0_11, cf_0_12, cf_0_13, cf_0_14, cf_0_15, cs_0_4, cs_0_6, cs_0_7, cs_0_8, cc_13, cf_13_0, cf_13_1, cf_13_2, cs_13_1, cs_13_2, cc_47, cf_47_0, cf_47_1, cf_47_2, cc_53, cf_53_0, cf_53_1, cf_53_2, cf_53_3, cf_53_4, cf_53_5, cs_53_3, cs_53_4, cs_53_5, cc_5, cf_5_0, cf_5_1, cf_5_2, cs_5_1, cc_9, cf_9_0, cf_9_1, cf_9_2, cs_9_1, cc_15, cf_15_0, cf_15_1, cf_15_2, cs_15_1, cc_19, cf_19_0, cf_19_1, cf_19_2, cs_19_1, cc_23, cf_23_0, cf_23_1, cf_23_2, cs_23_1, cc_27, cf_27_0, cf_27_1, cf_27_2, cs_27_1, cc_31, cf_31_0, cf_31_1, cf_31_2, cs_31_1, cc_35, cf_35_0, cf_35_1, cf_35_2, cs_35_1, cc_39, cf_39_0, cf_39_1, cf_39_2, cs_39_1, cc_43, cf_43_0, cf_43_1, cf_43_2, cs_43_1, cc_1, cc_3, cc_7, cc_11, cc_49, cc_51, cc_54, cc_56, cc_58, cc_60, cc_62, cc_64, cc_66, cc_68, cc_17, cc_21, cc_25, cc_29, cc_33, cc_37, cc_41, cc_45, c1_size, c1_full, c1_holds, c1_at, c1_put, c1_add, c1_pop, c1_clear, c3_size, c3_full, c3_holds, c3_at, c3_put, c3_add, c3_pop, c3_clear, c7_size, c7_full, c7_holds, c7_at, c7_put, c7_add, c7_pop, c7_clear, c7_ins, c7_cut, c7_copy3, c7_copy66, c49_size, c49_full, c49_holds, c49_at, c49_put, c49_add, c49_pop, c49_clear, c51_size, c51_full, c51_holds, c51_at, c51_put, c51_add, c51_pop, c51_clear, c54_size, c54_full, c54_holds, c54_at, c54_put, c54_add, c54_pop, c54_clear, c54_copy56, c56_size, c56_full, c56_holds, c56_at, c56_put, c56_add, c56_pop, c56_clear, c58_size, c58_full, c58_holds, c58_at, c58_put, c58_add, c58_pop, c58_clear, c60_size, c60_full, c60_holds, c60_at, c60_put, c60_add, c60_pop, c60_clear, c62_size, c62_full, c62_holds, c62_at, c62_put, c62_add, c62_pop, c62_clear, c64_size, c64_full, c64_holds, c64_at, c64_put, c64_add, c64_pop, c64_clear, c66_size, c66_full, c66_holds, c66_at, c66_put, c66_add, c66_pop, c66_clear, c66_part7, c68_size, c68_full, c68_holds, c68_at, c68_put, c68_add, c68_pop, c68_clear, c68_part7, ct_ld, ct_st, ct_ln, ck_ld, ck_ln, cp_ld5, cp_ln5, uN_s, uN_n, uA_s, uA_n, uN_uN, uA_uA, hsz, hat, es]) | (refine bq_t (by omega) ?_) | (refine bq_f (by omega) ?_) | fail)
  · have ehr : hr (C.2.1 1) (C.1 1) e = -1 := if_neg hl
    have e5 : srt (-1) = 5 := rfl
    rw [ehr, e5]
    repeat' (first | (simp (disch := first | assumption | exact wd_n | exact wd_i | exact wd_r | exact ct_r | exact ct_i | exact stB_0 | exact stB_1 | exact stB_2 | exact stB_3 | exact stB_4 | exact stB_5 | exact ct_2 | exact b2i_c _ | exact wd_0 | exact wd_f | omega | ((simp (disch := omega) only [uN_s, uN_n, uA_s, uA_n, up_s, up_n]) <;> omega)) only [x128_0, x128_1, x128_1n, x128_2, x128_5, x128_8, x128_9, x128_10, x128_10n, x128_11, x128_12, x128_15, x128_64, x128_65, x128_66, x128_67, x128_68, x128_69, x128_70, x128_71, e128, XE128_2, XE128_12, XC_v, XC_s, true_and, and_true, and_self, bq_T, bq_F, yt_s, Bool.false_eq_true, Bool.true_eq_false, rg_0, rg_1, rp_1, mset_1, mset_21, mset_eq, mset_ne, yn_I, ya_I, yw_I, mset_cl, cc_0, cf_0_0, cf_0_1, cf_0_2, cf_0_3, cf_0_4, cf_0_5, cf_0_6, cf_0_7, cf_0_8, cf_0_9, cf_0_10, cf_0_11, cf_0_12, cf_0_13, cf_0_14, cf_0_15, cs_0_4, cs_0_6, cs_0_7, cs_0_8, cc_13, cf_13_0, cf_13_1, cf_13_2, cs_13_1, cs_13_2, cc_47, cf_47_0, cf_47_1, cf_47_2, cc_53, cf_53_0, cf_53_1, cf_53_2, cf_53_3, cf_53_4, cf_53_5, cs_53_3, cs_53_4, cs_53_5, cc_5, cf_5_0, cf_5_1, cf_5_2, cs_5_1, cc_9, cf_9_0, cf_9_1, cf_9_2, cs_9_1, cc_15, cf_15_0, cf_15_1, cf_15_2, cs_15_1, cc_19, cf_19_0, cf_19_1, cf_19_2, cs_19_1, cc_23, cf_23_0, cf_23_1, cf_23_2, cs_23_1, cc_27, cf_27_0, cf_27_1, cf_27_2, cs_27_1, cc_31, cf_31_0, cf_31_1, cf_31_2, cs_31_1, cc_35, cf_35_0, cf_35_1, cf_35_2, cs_35_1, cc_39, cf_39_0, cf_39_1, cf_39_2, cs_39_1, cc_43, cf_43_0, cf_43_1, cf_43_2, cs_43_1, cc_1, cc_3, cc_7, cc_11, cc_49, cc_51, cc_54, cc_56, cc_58, cc_60, cc_62, cc_64, cc_66, cc_68, cc_17, cc_21, cc_25, cc_29, cc_33, cc_37, cc_41, cc_45, c1_size, c1_full, c1_holds, c1_at, c1_put, c1_add, c1_pop, c1_clear, c3_size, c3_full, c3_holds, c3_at, c3_put, c3_add, c3_pop, c3_clear, c7_size, c7_full, c7_holds, c7_at, c7_put, c7_add, c7_pop, c7_clear, c7_ins, c7_cut, c7_copy3, c7_copy66, c49_size, c49_full, c49_holds, c49_at, c49_put, c49_add, c49_pop, c49_clear, c51_size, c51_full, c51_holds, c51_at, c51_put, c51_add, c51_pop, c51_clear, c54_size, c54_full, c54_holds, c54_at, c54_put, c54_add, c54_pop, c54_clear, c54_copy56, c56_size, c56_full, c56_holds, c56_at, c56_put, c56_add, c56_pop, c56_clear, c58_size, c58_full, c58_holds, c58_at, c58_put, c58_add, c58_pop, c58_clear, c60_size, c60_full, c60_holds, c60_at, c60_put, c60_add, c60_pop, c60_clear, c62_size, c62_full, c62_holds, c62_at, c62_put, c62_add, c62_pop, c62_clear, c64_size, c64_full, c64_holds, c64_at, c64_put, c64_add, c64_pop, c64_clear, c66_size, c66_full, c66_holds, c66_at, c66_put, c66_add, c66_pop, c66_clear, c66_part7, c68_size, c68_full, c68_holds, c68_at, c68_put, c68_add, c68_pop, c68_clear, c68_part7, ct_ld, ct_st, ct_ln, ck_ld, ck_ln, cp_ld5, cp_ln5, uN_s, uN_n, uA_s, uA_n, uN_uN, uA_uA, hsz]) | (refine bq_t (by omega) ?_) | (refine bq_f (by omega) ?_) | fail)
theorem REL_c1 (h : REL B x C S) (he : EX [7] [] S S') (h9 : S'.1 7 = 0) : REL B x (uN C.1 1 0, uA C.2.1 1 (C.2.1 1), C.2.2) S' :=
  REL_n h (KX_r (Or.inl rfl)) (he.w (by simp) (by simp)) ⟨fu_s.trans h9.symm, by omega, fun k k0 k1 => by omega⟩ (RTb_f h.2.2.2.2.2.1 (K := fun k => k = 1) (KX_r rfl) he (by omega) (by decide) (by decide))
theorem REL_flt {z w : Int} (h : REL B x C S) (he : EX [7, 10, 11, 12] [] S S') (h7 : S'.1 7 = 0) (h10 : S'.1 10 = e) (hr : 0 ≤ e ∧ e ≤ 30) (h11 : S'.1 11 = z) (h12 : S'.1 12 = w) (hz : I32 z) (hw : I32 w) : REL B x (uN (uN (uN (uN C.1 71 e) 72 z) 73 w) 1 0, uA C.2.1 1 (C.2.1 1), C.2.2) S' := by
  have hk : KX (fun k => k = 71 ∨ k = 72 ∨ k = 73 ∨ k = 1) C (uN (uN (uN (uN C.1 71 e) 72 z) 73 w) 1 0, uA C.2.1 1 (C.2.1 1), C.2.2) := (((KX_n (C := C) (k := 71) (Or.inl rfl)).trans (KX_n (k := 72) (Or.inr (Or.inl rfl)))).trans (KX_n (k := 73) (Or.inr (Or.inr (Or.inl rfl))))).trans (KX_r (k := 1) (Or.inr (Or.inr (Or.inr rfl))))
  obtain ⟨⟨z1, z2, z3, z4⟩, h1, h2, h3, h4, h5, h6, h7'⟩ := h
  refine ⟨⟨SOK_k z1 hk (fun k hk => by unfold scr at hk; omega), z2, ?_, fun o ho => ?_⟩, ?_, RS1_f h2 hk he (by omega) (by omega) (by omega) (by decide) (by decide), RH_s (RH_kx z3.1 h3 hk (fun k hk => by unfold HK at hk; omega)) (he.1 4 (by decide) (by decide)) (he.2 1 (by omega) (by decide)), ⟨fu_s.trans h7.symm, by omega, fun k k0 k1 => by omega⟩, RTb_f h5 hk he (by omega) (by decide) (by decide), ⟨?_, by omega, fun _ => ⟨?_, ?_, by rw [h11]; exact hz, by rw [h12]; exact hw⟩⟩, RLn_f h7' hk he (by omega) (by decide) (by decide)⟩
  · rw [hk.1 13 (by omega)]
    exact z3
  · have : o + 2 ≠ 71 ∧ o + 2 ≠ 72 ∧ o + 2 ≠ 73 ∧ o + 2 ≠ 1 := by
      unfold isC at ho
      omega
    rw [hk.1 _ (by omega)]
    exact z4 o ho
  · rw [he.2 0 (by omega) (by decide)]
    exact CG_kx h1 hk (by omega) (by omega)
  · show uN (uN (uN (uN C.1 71 e) 72 z) 73 w) 1 0 71 = _
    simp (disch := omega) only [uN_s, uN_n, uA_s, uA_n, up_s, up_n, uN_uN, uA_uA]
    exact h10.symm
  · show uN (uN (uN (uN C.1 71 e) 72 z) 73 w) 1 0 72 = _
    simp (disch := omega) only [uN_s, uN_n, uA_s, uA_n, up_s, up_n, uN_uN, uA_uA]
    exact h11.symm
  · show uN (uN (uN (uN C.1 71 e) 72 z) 73 w) 1 0 73 = _
    simp (disch := omega) only [uN_s, uN_n, uA_s, uA_n, up_s, up_n, uN_uN, uA_uA]
    exact h12.symm
/-- a content with one more pattern -/
theorem CG_add {a : Nat} {G' : Int → Int} {q : Int × RT} {n : Int} (h : CG B x C 5 G) (h4 : G 0 < 4) (hn : 0 ≤ n ∧ n ≤ 30) (hps : PS (pc G' (G 0)) n = .inr q) (g0 : G' 0 = G 0 + 1) (g1 : G' (1 + G 0) = n) (g2 : ∀ k, 0 ≤ k → k < 30 → 0 ≤ G' (5 + 30 * G 0 + k) ∧ G' (5 + 30 * G 0 + k) ≤ 65535) (g3 : ∀ j, j ≠ 0 → j ≠ 1 + G 0 → ¬ (5 + 30 * G 0 ≤ j ∧ j < 35 + 30 * G 0) → G' j = G j) (hP : PT G' (G 0) = q → PP B x a G' (G 0)) (h1 : C'.1 5 = C.1 5 + 1) (h2 : C'.1 7 = C.1 7) (h3 : C'.2.1 7 = C.2.1 7) (hr : C'.2.2.1 5 = upv (C.2.2.1 5) (C.1 5) (.ref a)) : CG B x C' 5 G' := by
  obtain ⟨a1, a2, a3, a4, a5⟩ := h
  obtain ⟨k1, k2, k3, k4⟩ := a1
  have hPT : PT G' (G 0) = q := by
    unfold PT
    rw [g1, hps]
  have hold : ∀ p, 0 ≤ p → p < G 0 → G' (1 + p) = G (1 + p) ∧ ∀ k, 0 ≤ k → k < 30 → G' (5 + 30 * p + k) = G (5 + 30 * p + k) := fun p p0 p1 => ⟨g3 _ (by omega) (by omega) (by omega), fun k k0 k1 => g3 _ (by omega) (by omega) (by omega)⟩
  refine ⟨⟨by omega, by omega, fun p p0 p1 => ?_, ?_⟩, by omega, ?_, fun k k0 k1 => ?_, fun p p0 p1 => ?_⟩
  · by_cases hp : p = G 0
    · subst hp
      refine ⟨by omega, by omega, g2, ?_⟩
      rw [g1, hps, hPT]
    · obtain ⟨o1, o2⟩ := hold p p0 (by omega)
      obtain ⟨b1, b2, b3, b4⟩ := k3 p p0 (by omega)
      obtain ⟨c1, c2⟩ := PT_ext (G' := G') (G := G) (q := p) (p := p) o1 (fun i i0 i1 => o2 i i0 (by omega))
      refine ⟨by omega, by omega, fun k k0 k1 => ?_, ?_⟩
      · rw [o2 k k0 k1]
        exact b3 k k0 k1
      · rw [c1, c2]
        exact b4
  · obtain ⟨t0, t1, t2⟩ := k4
    have e125 := g3 125 (by omega) (by omega) (by omega)
    refine ⟨by omega, by omega, fun k k0 k1 => ?_⟩
    rw [g3 _ (by omega) (by omega) (by omega)]
    exact t2 k k0 k1
  · rw [g3 125 (by omega) (by omega) (by omega)]
    exact h2.trans a3
  · rw [g3 125 (by omega) (by omega) (by omega)] at k1
    have t1 := k4.2.1
    show C'.2.1 7 k = G' (126 + k)
    rw [h3, g3 _ (by omega) (by omega) (by omega)]
    exact a4 k k0 k1
  · by_cases hp : p = G 0
    · subst hp
      refine ⟨a, ?_, hP hPT⟩
      rw [hr]
      unfold upv
      rw [if_pos a2.symm]
    · obtain ⟨o1, o2⟩ := hold p p0 (by omega)
      obtain ⟨b1, b2, b3, b4⟩ := k3 p p0 (by omega)
      obtain ⟨z, e, hz⟩ := a5 p p0 (by omega)
      refine ⟨z, ?_, PP_ext hz o1 (fun i i0 i1 => o2 i i0 (by omega))⟩
      rw [hr]
      unfold upv
      rw [if_neg (by omega)]
      exact e
theorem s_compile (hd : 12 ≤ d) (h : REL B x C S) (q1 : S.2 0 0 = 4 → ∀ C', (∀ S', EX [7] [] S S' → S'.1 7 = 0 → REL B x C' S') → Q (.inr 0) (mthr (cm B x C'))) (q2 : S.2 0 0 ≠ 4 → ∀ e, PS (S.2 3) (S.1 7) = .inl e → ∀ (P : RS) C', P.2.2.2.2.1 ≤ 6 → (∀ S', EX [7, 10, 11, 12] [] S S' → S'.1 7 = 0 → S'.1 10 = e → S'.1 11 = srt (hr (S.2 3) (S.1 7) e) → S'.1 12 = opn (S.2 3) e → REL (pm B (x + 1) B.1 P) x C' S') → Q (.inr 1) (mthr (cm (pm B (x + 1) B.1 P) x C'))) (q3 : S.2 0 0 ≠ 4 → ∀ q, PS (S.2 3) (S.1 7) = .inr q → ∀ (P : RS) C', P.2.2.2.2.1 ≤ 6 → (∀ S', EX [4, 7] [0, 1] S S' → S'.1 7 = 0 → KB S S' → S'.2 0 0 = S.2 0 0 + 1 → S'.2 0 (1 + S.2 0 0) = S.1 7 → (∀ k, 0 ≤ k → k < 30 → S'.2 0 (5 + 30 * S.2 0 0 + k) = if k < S.1 7 then S.2 3 k else 0) → (∀ j, j ≠ 0 → j ≠ 1 + S.2 0 0 → ¬ (5 + 30 * S.2 0 0 ≤ j ∧ j < 35 + 30 * S.2 0 0) → S'.2 0 j = S.2 0 j) → REL (pm B (x + 1) B.1 P) x C' S') → Q (rt (S.2 0 0)) (cm (pm B (x + 1) B.1 P) x C')) : CC X d 80 [.ref x] (cm B x C) Q := by
  have h5 : C.1 5 = S.2 0 0 := h.2.1.2.1
  have g0 := h.2.1.1.1
  have g4 := h.2.1.1.2.1
  have hx := h.1.2.1
  obtain ⟨p1, p2, p3⟩ := id h.2.2.2.2.1
  have hfl := fun (d : Nat) (Q : JR → JM → Prop) => n_full (X := X) (d := d) (M0 := B) (x := x) (o := 5) (C := C) (Q := Q) (Or.inl rfl) (by omega)
  by_cases hf : S.2 0 0 = 4
  · have q1 := q1 hf (uN C.1 1 0, uA C.2.1 1 (C.2.1 1), C.2.2) (fun S' he h9 => REL_c1 h he h9)
    have hdec := decide_eq_true (show (4 : Int) ≤ C.1 5 by omega)
    rw [hdec] at hfl
    unfold rt at hfl
    repeat' (first | (simp (disch := first | assumption | exact wd_n | exact wd_i | exact wd_r | exact ct_r | exact ct_i | exact stB_0 | exact stB_1 | exact stB_2 | exact stB_3 | exact stB_4 | exact stB_5 | exact ct_2 | exact b2i_c _ | exact wd_0 | exact wd_f | omega | ((simp (disch := omega) only [uN_s, uN_n, uA_s, uA_n, up_s, up_n]) <;> omega)) only [x80_0, x80_0n, x80_1, x80_4, x80_7, x80_7b, x80_10, x80_10n, x80_11, x80_14, x80_17, x80_27, x80_30, x80_31, x80_31n, x80_32, x80_35, x80_38, x80_38n, x80_39, x80_39n, x80_40, x80_43, x80_44, x80_45, x80_46, x80_49, x80_49n, x80_50, x80_51, x80_54, x80_54n, x80_55, x80_55n, x80_56, x80_59, x80_60, x80_63, x80_66, x80_66n, x80_67, x80_67n, x80_68, x80_71, x80_74, x80_74n, x80_75, x80_78, x80_81, x80_91, x80_91n, x80_92, x80_95, x80_95n, x80_96, x80_99, x80_102, x80_102n, x80_103, x80_106, x80_106n, x80_107, x80_110, x80_113, x80_113n, x80_114, x80_117, x80_120, x80_120n, x80_121, x80_124, x80_127, x80_128, x80_129, e80, XE80_4, XE80_14, XE80_40, XE80_60, XE80_68, XE80_78, XE80_99, XE80_107, XE80_110, XE80_117, XE80_124, XC_v, XC_s, true_and, and_true, and_self, bq_T, bq_F, yt_s, Bool.false_eq_true, Bool.true_eq_false, rg_0, rg_1, rp_1, mset_1, mset_21, mset_eq, mset_ne, yn_I, ya_I, yw_I, mset_cl, cc_0, cf_0_0, cf_0_1, cf_0_2, cf_0_3, cf_0_4, cf_0_5, cf_0_6, cf_0_7, cf_0_8, cf_0_9, cf_0_10, cf_0_11, cf_0_12, cf_0_13, cf_0_14, cf_0_15, cs_0_4, cs_0_6, cs_0_7, cs_0_8, cc_13, cf_13_0, cf_13_1, cf_13_2, cs_13_1, cs_13_2, cc_47, cf_47_0, cf_47_1, cf_47_2, cc_53, cf_53_0, cf_53_1, cf_53_2, cf_53_3, cf_53_4, cf_53_5, cs_53_3, cs_53_4, cs_53_5, cc_5, cf_5_0, cf_5_1, cf_5_2, cs_5_1, cc_9, cf_9_0, cf_9_1, cf_9_2, cs_9_1, cc_15, cf_15_0, cf_15_1, cf_15_2, cs_15_1, cc_19, cf_19_0, cf_19_1, cf_19_2, cs_19_1, cc_23, cf_23_0, cf_23_1, cf_23_2, cs_23_1, cc_27, cf_27_0, cf_27_1, cf_27_2, cs_27_1, cc_31, cf_31_0, cf_31_1, cf_31_2, cs_31_1, cc_35, cf_35_0, cf_35_1, cf_35_2, cs_35_1, cc_39, cf_39_0, cf_39_1, cf_39_2, cs_39_1, cc_43, cf_43_0, cf_43_1, cf_43_2, cs_43_1, cc_1, cc_3, cc_7, cc_11, cc_49, cc_51, cc_54, cc_56, cc_58, cc_60, cc_62, cc_64, cc_66, cc_68, cc_17, cc_21, cc_25, cc_29, cc_33, cc_37, cc_41, cc_45, c1_size, c1_full, c1_holds, c1_at, c1_put, c1_add, c1_pop, c1_clear, c3_size, c3_full, c3_holds, c3_at, c3_put, c3_add, c3_pop, c3_clear, c7_size, c7_full, c7_holds, c7_at, c7_put, c7_add, c7_pop, c7_clear, c7_ins, c7_cut, c7_copy3, c7_copy66, c49_size, c49_full, c49_holds, c49_at, c49_put, c49_add, c49_pop, c49_clear, c51_size, c51_full, c51_holds, c51_at, c51_put, c51_add, c51_pop, c51_clear, c54_size, c54_full, c54_holds, c54_at, c54_put, c54_add, c54_pop, c54_clear, c54_copy56, c56_size, c56_full, c56_holds, c56_at, c56_put, c56_add, c56_pop, c56_clear, c58_size, c58_full, c58_holds, c58_at, c58_put, c58_add, c58_pop, c58_clear, c60_size, c60_full, c60_holds, c60_at, c60_put, c60_add, c60_pop, c60_clear, c62_size, c62_full, c62_holds, c62_at, c62_put, c62_add, c62_pop, c62_clear, c64_size, c64_full, c64_holds, c64_at, c64_put, c64_add, c64_pop, c64_clear, c66_size, c66_full, c66_holds, c66_at, c66_put, c66_add, c66_pop, c66_clear, c66_part7, c68_size, c68_full, c68_holds, c68_at, c68_put, c68_add, c68_pop, c68_clear, c68_part7, ct_ld, ct_st, ct_ln, ck_ld, ck_ln, cp_ld5, cp_ln5, uN_s, uN_n, uA_s, uA_n, uN_uN, uA_uA, hfl]) | (refine bq_t (by omega) ?_) | (refine bq_f (by omega) ?_) | fail)
    exact q1
  · have hdec := decide_eq_false (show ¬ (4 : Int) ≤ C.1 5 by omega)
    rw [hdec] at hfl
    have hri := fun (d : Nat) (Q : JR → JM → Prop) (hd : 3 ≤ d) => p_rinit (X := X) (d := d) (M := cm B x C) (s := x + 1) (Q := Q) hd
    have hmn := @mnew_cm
    rw [mnew_cm (by omega)] at hri
    unfold rt at hfl
    rw [show (cm B x C).1 = B.1 from rfl, pm_cm (by omega)] at hri
    repeat' (first | (simp (disch := first | assumption | exact wd_n | exact wd_i | exact wd_r | exact ct_r | exact ct_i | exact stB_0 | exact stB_1 | exact stB_2 | exact stB_3 | exact stB_4 | exact stB_5 | exact ct_2 | exact b2i_c _ | exact wd_0 | exact wd_f | omega | ((simp (disch := omega) only [uN_s, uN_n, uA_s, uA_n, up_s, up_n]) <;> omega)) only [x80_0, x80_0n, x80_1, x80_4, x80_7, x80_7b, x80_10, x80_10n, x80_11, x80_14, x80_17, x80_27, x80_30, x80_31, x80_31n, x80_32, x80_35, x80_38, x80_38n, x80_39, x80_39n, x80_43, x80_44, x80_45, x80_46, x80_49, x80_49n, x80_50, x80_51, x80_54, x80_54n, x80_55, x80_55n, x80_56, x80_59, x80_60, x80_63, x80_66, x80_66n, x80_67, x80_67n, x80_68, x80_71, x80_74, x80_74n, x80_75, x80_78, x80_81, x80_91, x80_91n, x80_92, x80_95, x80_95n, x80_96, x80_99, x80_102, x80_102n, x80_103, x80_106, x80_106n, x80_107, x80_110, x80_113, x80_113n, x80_114, x80_117, x80_120, x80_120n, x80_121, x80_124, x80_127, x80_128, x80_129, e80, XE80_4, XE80_14, XE80_40, XE80_60, XE80_68, XE80_78, XE80_99, XE80_107, XE80_110, XE80_117, XE80_124, XC_v, XC_s, true_and, and_true, and_self, bq_T, bq_F, yt_s, Bool.false_eq_true, Bool.true_eq_false, rg_0, rg_1, rp_1, mset_1, mset_21, mset_eq, mset_ne, yn_I, ya_I, yw_I, mset_cl, cc_0, cf_0_0, cf_0_1, cf_0_2, cf_0_3, cf_0_4, cf_0_5, cf_0_6, cf_0_7, cf_0_8, cf_0_9, cf_0_10, cf_0_11, cf_0_12, cf_0_13, cf_0_14, cf_0_15, cs_0_4, cs_0_6, cs_0_7, cs_0_8, cc_13, cf_13_0, cf_13_1, cf_13_2, cs_13_1, cs_13_2, cc_47, cf_47_0, cf_47_1, cf_47_2, cc_53, cf_53_0, cf_53_1, cf_53_2, cf_53_3, cf_53_4, cf_53_5, cs_53_3, cs_53_4, cs_53_5, cc_5, cf_5_0, cf_5_1, cf_5_2, cs_5_1, cc_9, cf_9_0, cf_9_1, cf_9_2, cs_9_1, cc_15, cf_15_0, cf_15_1, cf_15_2, cs_15_1, cc_19, cf_19_0, cf_19_1, cf_19_2, cs_19_1, cc_23, cf_23_0, cf_23_1, cf_23_2, cs_23_1, cc_27, cf_27_0, cf_27_1, cf_27_2, cs_27_1, cc_31, cf_31_0, cf_31_1, cf_31_2, cs_31_1, cc_35, cf_35_0, cf_35_1, cf_35_2, cs_35_1, cc_39, cf_39_0, cf_39_1, cf_39_2, cs_39_1, cc_43, cf_43_0, cf_43_1, cf_43_2, cs_43_1, cc_1, cc_3, cc_7, cc_11, cc_49, cc_51, cc_54, cc_56, cc_58, cc_60, cc_62, cc_64, cc_66, cc_68, cc_17, cc_21, cc_25, cc_29, cc_33, cc_37, cc_41, cc_45, c1_size, c1_full, c1_holds, c1_at, c1_put, c1_add, c1_pop, c1_clear, c3_size, c3_full, c3_holds, c3_at, c3_put, c3_add, c3_pop, c3_clear, c7_size, c7_full, c7_holds, c7_at, c7_put, c7_add, c7_pop, c7_clear, c7_ins, c7_cut, c7_copy3, c7_copy66, c49_size, c49_full, c49_holds, c49_at, c49_put, c49_add, c49_pop, c49_clear, c51_size, c51_full, c51_holds, c51_at, c51_put, c51_add, c51_pop, c51_clear, c54_size, c54_full, c54_holds, c54_at, c54_put, c54_add, c54_pop, c54_clear, c54_copy56, c56_size, c56_full, c56_holds, c56_at, c56_put, c56_add, c56_pop, c56_clear, c58_size, c58_full, c58_holds, c58_at, c58_put, c58_add, c58_pop, c58_clear, c60_size, c60_full, c60_holds, c60_at, c60_put, c60_add, c60_pop, c60_clear, c62_size, c62_full, c62_holds, c62_at, c62_put, c62_add, c62_pop, c62_clear, c64_size, c64_full, c64_holds, c64_at, c64_put, c64_add, c64_pop, c64_clear, c66_size, c66_full, c66_holds, c66_at, c66_put, c66_add, c66_pop, c66_clear, c66_part7, c68_size, c68_full, c68_holds, c68_at, c68_put, c68_add, c68_pop, c68_clear, c68_part7, ct_ld, ct_st, ct_ln, ck_ld, ck_ln, cp_ld5, cp_ln5, uN_s, uN_n, uA_s, uA_n, uN_uN, uA_uA, hfl, hmn, hri, cm_1]) | (refine bq_t (by omega) ?_) | (refine bq_f (by omega) ?_) | fail)
    have hR := cr_1 (M0 := B) (x := x) (C := C) (by omega)
    have hcr : ∀ k, 0 ≤ k → k < C.1 1 → 0 ≤ C.2.1 1 k ∧ C.2.1 1 k ≤ 65535 := fun k k0 k1 => by
      rw [(p3 k k0 (by omega)).1]
      exact (p3 k k0 (by omega)).2
    have ePS : PS (C.2.1 1) (C.1 1) = PS (S.2 3) (S.1 7) := by
      rw [p1]
      exact PS_ext (fun k k0 k1 => (p3 k k0 k1).1)
    rw [← pm_cm (by omega), x80_40 (by omega) stB_0]
    refine ⟨pc_0, p_read hR (by omega) hcr (by omega) (fun e P he her h10 hcn => ?_) (fun g t P c' hps hpt hag hcn => ?_)⟩
    · rw [ePS] at he
      have hb := BX_pm (x := x) (B := B) (s := x + 1) (r := B.1) (P := P) rfl
      have hso := fun (d : Nat) (B : JM) (C2 : CS) (Q : JR → JM → Prop) (hd : 1 ≤ d) (h1 : C2.1 1 = C.1 1) (h2 : C2.2.1 1 = C.2.1 1) => so_t (X := X) (d := d) (B := B) (x := x) (C := C2) (Q := Q) (e := e) hd (by omega) (by omega) (by rw [h1, h2]; exact hcr)
      have ehr : srt (hr (C.2.1 1) (C.1 1) e) = srt (hr (S.2 3) (S.1 7) e) := by
        unfold hr
        rw [p1]
        by_cases hl : e < S.1 7
        · rw [if_pos hl, if_pos hl, (p3 e her.1 hl).1]
        · rw [if_neg hl, if_neg hl]
      have eop : opn (C.2.1 1) e = opn (S.2 3) e := by
        unfold opn
        exact sm_ext (fun k k0 k1 => by rw [(p3 k k0 (by omega)).1])
      have hdp : ∀ (d : Nat) (C2 : CS) (Q : JR → JM → Prop), 1 ≤ d → CC X d 45 [.ref B.1] (pm (cm B x C2) (x + 1) B.1 P) Q = Q (rt (P.1 10)) (pm (cm B x C2) (x + 1) B.1 P) := by
        intro d C2 Q hd
        obtain ⟨k, rfl⟩ : ∃ k, d = k + 1 := ⟨d - 1, by omega⟩
        exact p_depth
      have hmc : ∀ C2, mcl (cm (pm B (x + 1) B.1 P) x C2) B.1 = some 5 := fun C2 => by
        rw [← pm_cm (by omega)]
        exact pc_0
      rw [pm_cm (by omega)]
      have hop : -30 ≤ opn (S.2 3) e ∧ opn (S.2 3) e ≤ 30 := by
        have := opn_rg (c := S.2 3) e.toNat
        unfold opn
        omega
      have hsr := srt_rg (hr (S.2 3) (S.1 7) e)
      have q2 := q2 hf e he P (uN (uN (uN (uN C.1 71 e) 72 (srt (hr (S.2 3) (S.1 7) e))) 73 (opn (S.2 3) e)) 1 0, uA C.2.1 1 (C.2.1 1), C.2.2) hcn (fun S' hx h7 h10' h11 h12 => REL_flt (REL_b h hb) hx h7 h10' (by omega) h11 h12 (by unfold I32; omega) (by unfold I32; omega))
      unfold rt at hso hdp ⊢
      have hso1 := fun (d : Nat) (Q : JR → JM → Prop) (hd : 1 ≤ d) => hso d (pm B (x + 1) B.1 P) (uN C.1 71 e, C.2) Q hd (fu_n (by omega)) rfl
      have e1 : ((uN C.1 71 e, C.2) : CS).1 1 = C.1 1 := fu_n (by omega)
      have e2 : ((uN C.1 71 e, C.2) : CS).2.1 1 = C.2.1 1 := rfl
      rw [e1, e2, ehr] at hso1
      have hdp1 := fun (d : Nat) (Q : JR → JM → Prop) (hd : 1 ≤ d) => hdp d (uN (uN C.1 71 e) 72 (srt (hr (S.2 3) (S.1 7) e)), C.2) Q hd
      rw [pm_cm (by omega), h10, eop] at hdp1
      repeat' (first | (simp (disch := first | assumption | exact wd_n | exact wd_i | exact wd_r | exact ct_r | exact ct_i | exact stB_0 | exact stB_1 | exact stB_2 | exact stB_3 | exact stB_4 | exact stB_5 | exact ct_2 | exact b2i_c _ | exact wd_0 | exact wd_f | omega | ((simp (disch := omega) only [uN_s, uN_n, uA_s, uA_n, up_s, up_n]) <;> omega)) only [x80_0, x80_0n, x80_1, x80_4, x80_7, x80_7b, x80_10, x80_10n, x80_11, x80_14, x80_17, x80_27, x80_30, x80_31, x80_31n, x80_32, x80_35, x80_38, x80_38n, x80_39, x80_39n, x80_40, x80_43, x80_44, x80_45, x80_46, x80_49, x80_49n, x80_50, x80_51, x80_54, x80_54n, x80_55, x80_55n, x80_56, x80_59, x80_60, x80_63, x80_66, x80_66n, x80_67, x80_67n, x80_68, x80_71, x80_74, x80_74n, x80_75, x80_78, x80_81, x80_91, x80_91n, x80_92, x80_95, x80_95n, x80_96, x80_99, x80_102, x80_102n, x80_103, x80_106, x80_106n, x80_107, x80_110, x80_113, x80_113n, x80_114, x80_117, x80_120, x80_120n, x80_121, x80_124, x80_127, x80_128, x80_129, e80, XE80_4, XE80_14, XE80_40, XE80_60, XE80_68, XE80_78, XE80_99, XE80_107, XE80_110, XE80_117, XE80_124, XC_v, XC_s, true_and, and_true, and_self, bq_T, bq_F, yt_s, Bool.false_eq_true, Bool.true_eq_false, rg_0, rg_1, rp_1, mset_1, mset_21, mset_eq, mset_ne, yn_I, ya_I, yw_I, mset_cl, cc_0, cf_0_0, cf_0_1, cf_0_2, cf_0_3, cf_0_4, cf_0_5, cf_0_6, cf_0_7, cf_0_8, cf_0_9, cf_0_10, cf_0_11, cf_0_12, cf_0_13, cf_0_14, cf_0_15, cs_0_4, cs_0_6, cs_0_7, cs_0_8, cc_13, cf_13_0, cf_13_1, cf_13_2, cs_13_1, cs_13_2, cc_47, cf_47_0, cf_47_1, cf_47_2, cc_53, cf_53_0, cf_53_1, cf_53_2, cf_53_3, cf_53_4, cf_53_5, cs_53_3, cs_53_4, cs_53_5, cc_5, cf_5_0, cf_5_1, cf_5_2, cs_5_1, cc_9, cf_9_0, cf_9_1, cf_9_2, cs_9_1, cc_15, cf_15_0, cf_15_1, cf_15_2, cs_15_1, cc_19, cf_19_0, cf_19_1, cf_19_2, cs_19_1, cc_23, cf_23_0, cf_23_1, cf_23_2, cs_23_1, cc_27, cf_27_0, cf_27_1, cf_27_2, cs_27_1, cc_31, cf_31_0, cf_31_1, cf_31_2, cs_31_1, cc_35, cf_35_0, cf_35_1, cf_35_2, cs_35_1, cc_39, cf_39_0, cf_39_1, cf_39_2, cs_39_1, cc_43, cf_43_0, cf_43_1, cf_43_2, cs_43_1, cc_1, cc_3, cc_7, cc_11, cc_49, cc_51, cc_54, cc_56, cc_58, cc_60, cc_62, cc_64, cc_66, cc_68, cc_17, cc_21, cc_25, cc_29, cc_33, cc_37, cc_41, cc_45, c1_size, c1_full, c1_holds, c1_at, c1_put, c1_add, c1_pop, c1_clear, c3_size, c3_full, c3_holds, c3_at, c3_put, c3_add, c3_pop, c3_clear, c7_size, c7_full, c7_holds, c7_at, c7_put, c7_add, c7_pop, c7_clear, c7_ins, c7_cut, c7_copy3, c7_copy66, c49_size, c49_full, c49_holds, c49_at, c49_put, c49_add, c49_pop, c49_clear, c51_size, c51_full, c51_holds, c51_at, c51_put, c51_add, c51_pop, c51_clear, c54_size, c54_full, c54_holds, c54_at, c54_put, c54_add, c54_pop, c54_clear, c54_copy56, c56_size, c56_full, c56_holds, c56_at, c56_put, c56_add, c56_pop, c56_clear, c58_size, c58_full, c58_holds, c58_at, c58_put, c58_add, c58_pop, c58_clear, c60_size, c60_full, c60_holds, c60_at, c60_put, c60_add, c60_pop, c60_clear, c62_size, c62_full, c62_holds, c62_at, c62_put, c62_add, c62_pop, c62_clear, c64_size, c64_full, c64_holds, c64_at, c64_put, c64_add, c64_pop, c64_clear, c66_size, c66_full, c66_holds, c66_at, c66_put, c66_add, c66_pop, c66_clear, c66_part7, c68_size, c68_full, c68_holds, c68_at, c68_put, c68_add, c68_pop, c68_clear, c68_part7, ct_ld, ct_st, ct_ln, ck_ld, ck_ln, cp_ld5, cp_ln5, uN_s, uN_n, uA_s, uA_n, uN_uN, uA_uA, hso1, hdp1, hmc]) | (refine bq_t (by omega) ?_) | (refine bq_f (by omega) ?_) | fail)
      exact q2
    · have hb := BX_pm (x := x) (B := B) (s := x + 1) (r := B.1) (P := P) rfl
      have hh := REL_b h hb
      rw [pm_cm (by omega)] at hpt ⊢
      have hpt' : PTO (pm B (x + 1) B.1 P) (B.1 + 1) (C.1 1) c' g t := PTO_b hpt (fun j hj => (cm_ne (by omega)).symm)
      have hps2 := hps
      rw [ePS] at hps2
      obtain ⟨r1, r2, r6, r7⟩ := rm_k hh
      have hrt := fun (d : Nat) (Q : JR → JM → Prop) (hd : 6 ≤ d) => rm_t (X := X) (Q := Q) hd hh
      have hH := fun C' S' => REL_h (C' := C') (S' := S') hh
      have hTb := h.2.2.2.2.2.1
      have e5 : (hrm C).1 5 = S.2 0 0 := r6.2.1
      have e7 := (CG_tx r6).1
      have e1 : (hrm C).1 1 = C.1 1 := r1.1 1 (by unfold HK; omega)
      have e3 : (hrm C).1 3 = C.1 3 := r1.1 3 (by unfold HK; omega)
      have a3 : (hrm C).2.1 3 = C.2.1 3 := r1.2.1 3 (by unfold HK; omega)
      have hmc : ∀ C2, mcl (cm (pm B (x + 1) B.1 P) x C2) B.1 = some 5 := fun C2 => by
        rw [← pm_cm (by omega)]
        exact pc_0
      have hmd : ∀ (d : Nat) (C2 : CS) (Q : JR → JM → Prop), 1 ≤ d → CC X d 44 [.ref B.1] (cm (pm B (x + 1) B.1 P) x C2) Q = Q (.inl (some (.ref (B.1 + 1)))) (cm (pm B (x + 1) B.1 P) x C2) := by
        intro d C2 Q hd
        rw [← pm_cm (by omega)]
        obtain ⟨k, rfl⟩ : ∃ k, d = k + 1 := ⟨d - 1, by omega⟩
        exact p_made
      have hpv : PV (pm B (x + 1) B.1 P) x (.ref (B.1 + 1)) := ⟨B.1 + 1, rfl, by omega, pc_1⟩
      have hz := fun (d : Nat) (B : JM) (C : CS) (Q : JR → JM → Prop) => n_size (X := X) (d := d) (M0 := B) (x := x) (o := 5) (C := C) (Q := Q) (Or.inl rfl)
      generalize hrm C = C1 at *
      have had := fun (d : Nat) (Q : JR → JM → Prop) => n_add (X := X) (d := d) (M0 := pm B (x + 1) B.1 P) (x := x) (o := 5) (C := C1) (a := B.1 + 1) (Q := Q) (Or.inl rfl) (by omega) hpv
      have hkx : KX K4 C1 (uN (uN C1.1 5 (C1.1 5 + 1)) 1 0, uA C1.2.1 1 (C1.2.1 1), uG C1.2.2.1 5 (upv (C1.2.2.1 5) (C1.1 5) (.ref (B.1 + 1))), C1.2.2.2) := ⟨fun j q => by
        unfold K4 at q
        exact (fu_n (by omega)).trans (uN_n (by omega)), fun j q => by
        unfold K4 at q
        show uA C1.2.1 1 (C1.2.1 1) j = _
        exact uA_n (by omega), fun j q => by
        unfold K4 at q
        exact uG_n (by omega)⟩
      have q3 := q3 hf (g, t) hps2 P (uN (uN C1.1 5 (C1.1 5 + 1)) 1 0, uA C1.2.1 1 (C1.2.1 1), uG C1.2.2.1 5 (upv (C1.2.2.1 5) (C1.1 5) (.ref (B.1 + 1))), C1.2.2.2) hcn (fun S' he h7' hkb f0 f1 fc fo => by
        have hpc : ∀ k, 0 ≤ k → k < S.1 7 → pc (S'.2 0) (S.2 0 0) k = S.2 3 k := fun k k0 k1 => by
          show S'.2 0 (5 + 30 * S.2 0 0 + k) = _
          rw [fc k k0 (by omega), if_pos k1]
        refine hH _ S' hkx ?_ (he.w (by simp) (by simp)) hkb (CG_add (a := B.1 + 1) (q := (g, t)) (n := S.1 7) r6 (by omega) p2 ?_ f0 f1 (fun k k0 k1 => ?_) fo (fun hPT => ?_) ?_ ?_ ?_ ?_) ⟨fu_s.trans h7'.symm, by omega, fun k k0 k1 => by omega⟩ (RTb_e hTb ?_ ?_ (he.1 9 (by decide) (by decide)) (he.2 4 (by omega) (by decide)))
        · show 0 ≤ uN (uN C1.1 5 (C1.1 5 + 1)) 1 0 7 ∧ uN (uN C1.1 5 (C1.1 5 + 1)) 1 0 7 ≤ 40
          simp (disch := omega) only [uN_s, uN_n, uA_s, uA_n, up_s, up_n, uN_uN, uA_uA]
          exact e7
        · rw [PS_ext hpc]
          exact hps2
        · rw [fc k k0 k1]
          split
          · exact (p3 k k0 (by omega)).2
          · omega
        · refine ⟨by omega, by rw [pm_1]; omega, c', ?_, fun i i0 i1 => ?_⟩
          · rw [hPT, f1, ← p1]
            exact hpt'
          · rw [f1] at i1
            rw [hpc i i0 i1, hag i i0 (by omega)]
            exact (p3 i i0 i1).1
        · show uN (uN C1.1 5 (C1.1 5 + 1)) 1 0 5 = _
          simp (disch := omega) only [uN_s, uN_n, uA_s, uA_n, up_s, up_n, uN_uN, uA_uA]
        · show uN (uN C1.1 5 (C1.1 5 + 1)) 1 0 7 = _
          simp (disch := omega) only [uN_s, uN_n, uA_s, uA_n, up_s, up_n, uN_uN, uA_uA]
        · show uA C1.2.1 1 (C1.2.1 1) 7 = _
          rw [uA_n (by omega)]
        · show uG C1.2.2.1 5 (upv (C1.2.2.1 5) (C1.1 5) (.ref (B.1 + 1))) 5 = _
          exact uG_s
        · show uN (uN C1.1 5 (C1.1 5 + 1)) 1 0 3 = _
          simp (disch := omega) only [uN_s, uN_n, uA_s, uA_n, up_s, up_n, uN_uN, uA_uA]
          exact e3
        · show uA C1.2.1 1 (C1.2.1 1) 3 = _
          rw [uA_n (by omega)]
          exact a3)
      have eS : S.2 0 0 = C1.1 5 + 1 - 1 := by omega
      rw [eS] at q3
      unfold rt at hz q3 ⊢
      repeat' (first | (simp (disch := first | assumption | exact wd_n | exact wd_i | exact wd_r | exact ct_r | exact ct_i | exact stB_0 | exact stB_1 | exact stB_2 | exact stB_3 | exact stB_4 | exact stB_5 | exact ct_2 | exact b2i_c _ | exact wd_0 | exact wd_f | omega | ((simp (disch := omega) only [uN_s, uN_n, uA_s, uA_n, up_s, up_n]) <;> omega)) only [x80_0, x80_0n, x80_1, x80_4, x80_7, x80_7b, x80_10, x80_10n, x80_11, x80_14, x80_17, x80_27, x80_30, x80_31, x80_31n, x80_32, x80_35, x80_38, x80_38n, x80_39, x80_39n, x80_40, x80_43, x80_44, x80_45, x80_46, x80_49, x80_49n, x80_50, x80_51, x80_54, x80_54n, x80_55, x80_55n, x80_56, x80_59, x80_60, x80_63, x80_66, x80_66n, x80_67, x80_67n, x80_68, x80_71, x80_74, x80_74n, x80_75, x80_78, x80_81, x80_91, x80_91n, x80_92, x80_95, x80_95n, x80_96, x80_99, x80_102, x80_102n, x80_103, x80_106, x80_106n, x80_107, x80_110, x80_113, x80_113n, x80_114, x80_117, x80_120, x80_120n, x80_121, x80_124, x80_127, x80_128, x80_129, e80, XE80_4, XE80_14, XE80_40, XE80_60, XE80_68, XE80_78, XE80_99, XE80_107, XE80_110, XE80_117, XE80_124, XC_v, XC_s, true_and, and_true, and_self, bq_T, bq_F, yt_s, Bool.false_eq_true, Bool.true_eq_false, rg_0, rg_1, rp_1, mset_1, mset_21, mset_eq, mset_ne, yn_I, ya_I, yw_I, mset_cl, cc_0, cf_0_0, cf_0_1, cf_0_2, cf_0_3, cf_0_4, cf_0_5, cf_0_6, cf_0_7, cf_0_8, cf_0_9, cf_0_10, cf_0_11, cf_0_12, cf_0_13, cf_0_14, cf_0_15, cs_0_4, cs_0_6, cs_0_7, cs_0_8, cc_13, cf_13_0, cf_13_1, cf_13_2, cs_13_1, cs_13_2, cc_47, cf_47_0, cf_47_1, cf_47_2, cc_53, cf_53_0, cf_53_1, cf_53_2, cf_53_3, cf_53_4, cf_53_5, cs_53_3, cs_53_4, cs_53_5, cc_5, cf_5_0, cf_5_1, cf_5_2, cs_5_1, cc_9, cf_9_0, cf_9_1, cf_9_2, cs_9_1, cc_15, cf_15_0, cf_15_1, cf_15_2, cs_15_1, cc_19, cf_19_0, cf_19_1, cf_19_2, cs_19_1, cc_23, cf_23_0, cf_23_1, cf_23_2, cs_23_1, cc_27, cf_27_0, cf_27_1, cf_27_2, cs_27_1, cc_31, cf_31_0, cf_31_1, cf_31_2, cs_31_1, cc_35, cf_35_0, cf_35_1, cf_35_2, cs_35_1, cc_39, cf_39_0, cf_39_1, cf_39_2, cs_39_1, cc_43, cf_43_0, cf_43_1, cf_43_2, cs_43_1, cc_1, cc_3, cc_7, cc_11, cc_49, cc_51, cc_54, cc_56, cc_58, cc_60, cc_62, cc_64, cc_66, cc_68, cc_17, cc_21, cc_25, cc_29, cc_33, cc_37, cc_41, cc_45, c1_size, c1_full, c1_holds, c1_at, c1_put, c1_add, c1_pop, c1_clear, c3_size, c3_full, c3_holds, c3_at, c3_put, c3_add, c3_pop, c3_clear, c7_size, c7_full, c7_holds, c7_at, c7_put, c7_add, c7_pop, c7_clear, c7_ins, c7_cut, c7_copy3, c7_copy66, c49_size, c49_full, c49_holds, c49_at, c49_put, c49_add, c49_pop, c49_clear, c51_size, c51_full, c51_holds, c51_at, c51_put, c51_add, c51_pop, c51_clear, c54_size, c54_full, c54_holds, c54_at, c54_put, c54_add, c54_pop, c54_clear, c54_copy56, c56_size, c56_full, c56_holds, c56_at, c56_put, c56_add, c56_pop, c56_clear, c58_size, c58_full, c58_holds, c58_at, c58_put, c58_add, c58_pop, c58_clear, c60_size, c60_full, c60_holds, c60_at, c60_put, c60_add, c60_pop, c60_clear, c62_size, c62_full, c62_holds, c62_at, c62_put, c62_add, c62_pop, c62_clear, c64_size, c64_full, c64_holds, c64_at, c64_put, c64_add, c64_pop, c64_clear, c66_size, c66_full, c66_holds, c66_at, c66_put, c66_add, c66_pop, c66_clear, c66_part7, c68_size, c68_full, c68_holds, c68_at, c68_put, c68_add, c68_pop, c68_clear, c68_part7, ct_ld, ct_st, ct_ln, ck_ld, ck_ln, cp_ld5, cp_ln5, uN_s, uN_n, uA_s, uA_n, uN_uN, uA_uA, hrt, hmd, hmc, had, hz]) | (refine bq_t (by omega) ?_) | (refine bq_f (by omega) ?_) | fail)
      exact q3
end CMP
