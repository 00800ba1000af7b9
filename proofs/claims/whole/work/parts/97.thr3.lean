/-! the class's threads from their calls -/
section TSC
variable {X : JX} {M0 : JM} {x p d : Nat} {C : CS} {Q : JR → JM → Prop} {n g : Int} {c : Int → Int} {t : RT}
theorem PTO_T (hP : PTO M0 p n c g t) (hpx : x + 70 ≤ p) (h7 : 0 ≤ C.1 7 ∧ C.1 7 ≤ 40) (htx : ∀ j, 0 ≤ j → j < C.1 7 → 0 ≤ C.2.1 7 j ∧ C.2.1 7 j ≤ 65535) : ∃ k f s : Int → Int, CX2 M0 x p C n c (tsz t + 1).toNat k f s (C.1 7) ∧ (∀ wh start, 0 ≤ start → start ≤ C.1 7 → Tm (opC k f s ((tsz t + 1).toNat : Int)) (fitC c (C.2.1 7) k f s (C.1 7)) (accW wh (C.1 7)) 0 start (fun _ => -1) (mRt c (C.2.1 7) (C.1 7) t wh start)) ∧ (∀ i, 0 ≤ i → i < ((tsz t + 1).toNat : Int) → FTe (opC k f s ((tsz t + 1).toNat : Int)) i) ∧ ∀ wh, Tot (opC k f s ((tsz t + 1).toNat : Int)) (fitC c (C.2.1 7) k f s (C.1 7)) (accW wh (C.1 7)) ((tsz t + 1).toNat : Int) (C.1 7) := by
  obtain ⟨k, f, s, hA, hK, h8, hW, hfk, hsz, hn, hc⟩ := hP
  have z := tsz_0 t
  have eN : ((tsz t + 1).toNat : Int) = tsz t + 1 := by omega
  have hop := LK_op (n := n) (hi := tsz t) t none 0 hW hK (Int.le_refl _) (by simp only; omega)
  obtain ⟨o1, o2⟩ := hop
  rw [Int.zero_add] at o2
  have hX : CX2 M0 x p C n c (tsz t + 1).toNat k f s (C.1 7) := by
    refine ⟨⟨g, tsh t, tlo t, by rw [eN]; exact hA⟩, hpx, rfl, h7, htx, hn, hc, by omega, fun i i0 i1 => ?_, by rw [eN, Int.add_sub_cancel]; exact h8, by rw [eN, Int.add_sub_cancel, o2]; exact hfk⟩
    rw [eN, Int.add_sub_cancel]
    exact o1 i i0 (by omega)
  have hF : ∀ i, 0 ≤ i → i < ((tsz t + 1).toNat : Int) → FTe (opC k f s ((tsz t + 1).toNat : Int)) i := by
    rw [eN]
    intro i i0 i1
    have hend : FTe (opC k f s (tsz t + 1)) (tsz t) := FTe_0 (Or.inr (by rw [opC_8 h8]; show (4 : Int) ≤ 4; omega))
    have h := LK_FT (n := n) (N := tsz t + 1) t none 0 hW hK (Int.le_refl _) (by simp only; omega)
    by_cases hi : i = tsz t
    · rw [hi]; exact hend
    · exact h.2 (by rw [Int.zero_add]; exact hend) i i0 (by omega)
  refine ⟨k, f, s, hX, fun wh start s0 s1 => ?_, hF, fun wh => ?_⟩
  · rw [eN]
    refine LK_Tm (N := tsz t + 1) h7.2 t none 0 hW hK (Int.le_refl _) (by simp only; omega) start _ _ s0 s1 (fun p' w' a b => ?_)
    rw [Int.zero_add]
    exact Tm_a (by rw [opC_8 h8])
  · exact tot_of (CX2_op hX) (fun s p h => fitC_L h) hF
/-- how a search of the threads ends -/
def TS (M0 : JM) (x : Nat) (C : CS) (Q : JR → JM → Prop) (r : Option (Int × Int)) : Prop := ∀ C', TF C C' → (0 ≤ C'.1 54 ∧ C'.1 54 ≤ 64) → (0 ≤ C'.1 56 ∧ C'.1 56 ≤ 64) → (0 ≤ C'.1 58 ∧ C'.1 58 ≤ 128) → match r with
  | none => Q (.inl (some (.int (ii 0)))) (cm M0 x C')
  | some q => C'.1 74 = q.1 → C'.1 75 = q.2 → Q (.inl (some (.int (ii 1)))) (cm M0 x C')
theorem TS_of {r : Option (Int × Int)} (hq : TS M0 x C Q r) : ∀ C', TF C C' → (0 ≤ C'.1 54 ∧ C'.1 54 ≤ 64) → (0 ≤ C'.1 56 ∧ C'.1 56 ≤ 64) → (0 ≤ C'.1 58 ∧ C'.1 58 ≤ 128) → fnd C' = r → Q (.inl (some (.int (ii (isS2 r))))) (cm M0 x C') := by
  intro C' h1 h2 h3 h4 h5
  have := hq C' h1 h2 h3 h4
  cases r with
  | none => exact this
  | some q =>
    unfold fnd at h5
    split at h5
    · cases h5
    · have h6 := Option.some.inj h5
      exact this (by rw [← h6]) (by rw [← h6])
theorem c_search {fr : Int} (hd : 11 ≤ d) (hP : PTO M0 p n c g t) (hpx : x + 70 ≤ p) (h7 : 0 ≤ C.1 7 ∧ C.1 7 ≤ 40) (htx : ∀ j, 0 ≤ j → j < C.1 7 → 0 ≤ C.2.1 7 j ∧ C.2.1 7 j ≤ 65535) (h54 : 0 ≤ C.1 54 ∧ C.1 54 ≤ 64) (h56 : 0 ≤ C.1 56 ∧ C.1 56 ≤ 64) (h58 : 0 ≤ C.1 58 ∧ C.1 58 ≤ 128) (hfr : 0 ≤ fr ∧ fr ≤ C.1 7) (hq : TS M0 x C Q ((skR (mRt c (C.2.1 7) (C.1 7) t false) (C.1 7) fr).map (fun r => (r.1, r.2.1)))) : CC X d 73 [.ref (x + 53), .ref p, .ref (x + 7), .int (ii fr)] (cm M0 x C) Q := by
  obtain ⟨k, f, s, hX, hT, hF, hTot⟩ := PTO_T (x := x) (C := C) hP hpx h7 htx
  have hN := hX.2.2.2.2.2.2.2.1
  have hu : uv (tsz t + 1).toNat ([] : List Int) ≤ 61 := by rw [uv_nil]; omega
  repeat' (first | (simp (disch := first | assumption | exact wd_n | exact wd_i | exact wd_r | exact ct_r | exact ct_i | exact stB_0 | exact stB_1 | exact stB_2 | exact stB_3 | exact stB_4 | exact stB_5 | exact ct_2 | exact b2i_c _ | exact wd_0 | exact wd_f | omega | ((simp (disch := omega) only [uN_s, uN_n, uA_s, uA_n, up_s, up_n]) <;> omega)) only [x73_0, x73_0n, x73_1, x73_4, x73_5, x73_9, x73_9n, x73_10, x73_13, x73_16, x73_16n, x73_17, x73_20, x73_21, x73_24, x73_24n, x73_25, x73_25n, x73_26, x73_27, x73_29, x73_32, x73_32n, x73_33, x73_33n, x73_34, x73_34n, x73_35, x73_37, x73_38, x73_41, x73_44, x73_47, x73_47n, x73_48, x73_51, x73_52, x73_55, x73_56, x73_59, x73_60, e73, x75_0, x75_0n, x75_1, x75_4, x75_7, x75_7n, x75_8, x75_9, x75_12, x75_12n, x75_13, x75_14, x75_17, x75_17n, x75_18, x75_19, x75_22, e75, XC_v, XC_s, true_and, and_true, and_self, bq_T, bq_F, yt_s, Bool.false_eq_true, Bool.true_eq_false, rg_0, rg_1, rp_1, mset_1, mset_21, mset_eq, mset_ne, yn_I, ya_I, yw_I, mset_cl, cc_0, cf_0_0, cf_0_1, cf_0_2, cf_0_3, cf_0_4, cf_0_5, cf_0_6, cf_0_7, cf_0_8, cf_0_9, cf_0_10, cf_0_11, cf_0_12, cf_0_13, cf_0_14, cf_0_15, cs_0_4, cs_0_6, cs_0_7, cs_0_8, cc_13, cf_13_0, cf_13_1, cf_13_2, cs_13_1, cs_13_2, cc_47, cf_47_0, cf_47_1, cf_47_2, cc_53, cf_53_0, cf_53_1, cf_53_2, cf_53_3, cf_53_4, cf_53_5, cs_53_3, cs_53_4, cs_53_5, cc_5, cf_5_0, cf_5_1, cf_5_2, cs_5_1, cc_9, cf_9_0, cf_9_1, cf_9_2, cs_9_1, cc_15, cf_15_0, cf_15_1, cf_15_2, cs_15_1, cc_19, cf_19_0, cf_19_1, cf_19_2, cs_19_1, cc_23, cf_23_0, cf_23_1, cf_23_2, cs_23_1, cc_27, cf_27_0, cf_27_1, cf_27_2, cs_27_1, cc_31, cf_31_0, cf_31_1, cf_31_2, cs_31_1, cc_35, cf_35_0, cf_35_1, cf_35_2, cs_35_1, cc_39, cf_39_0, cf_39_1, cf_39_2, cs_39_1, cc_43, cf_43_0, cf_43_1, cf_43_2, cs_43_1, cc_1, cc_3, cc_7, cc_11, cc_49, cc_51, cc_54, cc_56, cc_58, cc_60, cc_62, cc_64, cc_66, cc_68, cc_17, cc_21, cc_25, cc_29, cc_33, cc_37, cc_41, cc_45, c1_size, c1_full, c1_holds, c1_at, c1_put, c1_add, c1_pop, c1_clear, c3_size, c3_full, c3_holds, c3_at, c3_put, c3_add, c3_pop, c3_clear, c7_size, c7_full, c7_holds, c7_at, c7_put, c7_add, c7_pop, c7_clear, c7_ins, c7_cut, c7_copy3, c7_copy66, c49_size, c49_full, c49_holds, c49_at, c49_put, c49_add, c49_pop, c49_clear, c51_size, c51_full, c51_holds, c51_at, c51_put, c51_add, c51_pop, c51_clear, c54_size, c54_full, c54_holds, c54_at, c54_put, c54_add, c54_pop, c54_clear, c54_copy56, c56_size, c56_full, c56_holds, c56_at, c56_put, c56_add, c56_pop, c56_clear, c58_size, c58_full, c58_holds, c58_at, c58_put, c58_add, c58_pop, c58_clear, c60_size, c60_full, c60_holds, c60_at, c60_put, c60_add, c60_pop, c60_clear, c62_size, c62_full, c62_holds, c62_at, c62_put, c62_add, c62_pop, c62_clear, c64_size, c64_full, c64_holds, c64_at, c64_put, c64_add, c64_pop, c64_clear, c66_size, c66_full, c66_holds, c66_at, c66_put, c66_add, c66_pop, c66_clear, c66_part7, c68_size, c68_full, c68_holds, c68_at, c68_put, c68_add, c68_pop, c68_clear, c68_part7, ct_ld, ct_st, ct_ln, ck_ld, ck_ln, cp_ld5, cp_ln5, uN_s, uN_n, uA_s, uA_n, uN_uN, uA_uA, uA_id]) | (refine bq_t (by omega) ?_) | (refine bq_f (by omega) ?_) | fail)
  refine c_searchL (C := C) (TOT := (skR (mRt c (C.2.1 7) (C.1 7) t false) (C.1 7) fr).map (fun r => (r.1, r.2.1))) (by omega) hX rfl (hTot false) hF (TS_of hq) (C.1 7 + 1 - fr).toNat _ fr [] [] hfr.1 (by omega) ⟨⟨fun k a b c d e => ?_, fun k a b c => ?_, rfl, rfl⟩, ⟨fun s _ _ => ?_, ?_, fun i i0 i1 => by simp at i1; omega, fun v hv => by cases hv⟩, fun v hv => (by cases hv), by simp only [List.length_nil]; omega, ?_, ?_, ?_, ?_⟩ (fun q => by omega) ?_
  · simp (disch := omega) only [uN_s, uN_n, uA_s, uA_n, up_s, up_n, uN_uN, uA_uA]
  · simp (disch := omega) only [uN_s, uN_n, uA_s, uA_n, up_s, up_n, uN_uN, uA_uA]
  · show tb (Int64.ofInt 0) s = _
    rw [show (Int64.ofInt 0 : Int64) = 0 from rfl, tb_0]; simp
  · simp (disch := omega) only [uN_s, uN_n, uA_s, uA_n, up_s, up_n, uN_uN, uA_uA]
    rfl
  · simp (disch := omega) only [uN_s, uN_n, uA_s, uA_n, up_s, up_n, uN_uN, uA_uA]
    exact h58
  · simp (disch := omega) only [uN_s, uN_n, uA_s, uA_n, up_s, up_n, uN_uN, uA_uA]
    exact h54
  · simp (disch := omega) only [uN_s, uN_n, uA_s, uA_n, up_s, up_n, uN_uN, uA_uA]
    omega
  · simp (disch := omega) only [uN_s, uN_n, uA_s, uA_n, up_s, up_n, uN_uN, uA_uA]
    omega
  · have e1 : ∀ C' : CS, C'.1 75 = -1 → fnd C' = none := fun C' h => if_pos h
    rw [e1 _ (by simp (disch := omega) only [uN_s, uN_n, uA_s, uA_n, up_s, up_n, uN_uN, uA_uA])]
    show _ = o2 none (o2 none _)
    show _ = fsE _ _ _
    unfold skR
    exact (fsE_fst (C.1 7 + 1 - fr).toNat fr (fun i a b => en_eq (hT false i (by omega) (by omega)))).symm
theorem c_spans (hd : 11 ≤ d) (hP : PTO M0 p n c g t) (hpx : x + 70 ≤ p) (h7 : 0 ≤ C.1 7 ∧ C.1 7 ≤ 40) (htx : ∀ j, 0 ≤ j → j < C.1 7 → 0 ≤ C.2.1 7 j ∧ C.2.1 7 j ≤ 65535) (h54 : 0 ≤ C.1 54 ∧ C.1 54 ≤ 64) (h56 : 0 ≤ C.1 56 ∧ C.1 56 ≤ 64) (h58 : 0 ≤ C.1 58 ∧ C.1 58 ≤ 128) (hq : ∀ C', TF C C' → (0 ≤ C'.1 54 ∧ C'.1 54 ≤ 64) → (0 ≤ C'.1 56 ∧ C'.1 56 ≤ 64) → (0 ≤ C'.1 58 ∧ C'.1 58 ≤ 128) → Q (.inl (some (.int (ii (isSm (mRt c (C.2.1 7) (C.1 7) t true 0)))))) (cm M0 x C')) : CC X d 74 [.ref (x + 53), .ref p, .ref (x + 7)] (cm M0 x C) Q := by
  obtain ⟨k, f, s, hX, hT, hF, hTot⟩ := PTO_T (x := x) (C := C) hP hpx h7 htx
  have hN := hX.2.2.2.2.2.2.2.1
  have hu : uv (tsz t + 1).toNat ([] : List Int) ≤ 61 := by rw [uv_nil]; omega
  repeat' (first | (simp (disch := first | assumption | exact wd_n | exact wd_i | exact wd_r | exact ct_r | exact ct_i | exact stB_0 | exact stB_1 | exact stB_2 | exact stB_3 | exact stB_4 | exact stB_5 | exact ct_2 | exact b2i_c _ | exact wd_0 | exact wd_f | omega | ((simp (disch := omega) only [uN_s, uN_n, uA_s, uA_n, up_s, up_n]) <;> omega)) only [x74_0, x74_0n, x74_1, x74_4, x74_4n, x74_5, x74_5n, x74_6, x74_7, x74_8, x74_11, x74_12, x74_14, x74_14n, x74_15, x74_18, x74_21, x74_21n, x74_22, x74_22n, x74_23, x74_23n, x74_24, x74_25, x74_26, x74_29, x74_32, x74_35, x74_35n, x74_36, x74_39, x74_40, x74_43, x74_44, x74_47, x74_48, e74, x75_0, x75_0n, x75_1, x75_4, x75_7, x75_7n, x75_8, x75_9, x75_12, x75_12n, x75_13, x75_14, x75_17, x75_17n, x75_18, x75_19, x75_22, e75, XC_v, XC_s, true_and, and_true, and_self, bq_T, bq_F, yt_s, Bool.false_eq_true, Bool.true_eq_false, rg_0, rg_1, rp_1, mset_1, mset_21, mset_eq, mset_ne, yn_I, ya_I, yw_I, mset_cl, cc_0, cf_0_0, cf_0_1, cf_0_2, cf_0_3, cf_0_4, cf_0_5, cf_0_6, cf_0_7, cf_0_8, cf_0_9, cf_0_10, cf_0_11, cf_0_12, cf_0_13, cf_0_14, cf_0_15, cs_0_4, cs_0_6, cs_0_7, cs_0_8, cc_13, cf_13_0, cf_13_1, cf_13_2, cs_13_1, cs_13_2, cc_47, cf_47_0, cf_47_1, cf_47_2, cc_53, cf_53_0, cf_53_1, cf_53_2, cf_53_3, cf_53_4, cf_53_5, cs_53_3, cs_53_4, cs_53_5, cc_5, cf_5_0, cf_5_1, cf_5_2, cs_5_1, cc_9, cf_9_0, cf_9_1, cf_9_2, cs_9_1, cc_15, cf_15_0, cf_15_1, cf_15_2, cs_15_1, cc_19, cf_19_0, cf_19_1, cf_19_2, cs_19_1, cc_23, cf_23_0, cf_23_1, cf_23_2, cs_23_1, cc_27, cf_27_0, cf_27_1, cf_27_2, cs_27_1, cc_31, cf_31_0, cf_31_1, cf_31_2, cs_31_1, cc_35, cf_35_0, cf_35_1, cf_35_2, cs_35_1, cc_39, cf_39_0, cf_39_1, cf_39_2, cs_39_1, cc_43, cf_43_0, cf_43_1, cf_43_2, cs_43_1, cc_1, cc_3, cc_7, cc_11, cc_49, cc_51, cc_54, cc_56, cc_58, cc_60, cc_62, cc_64, cc_66, cc_68, cc_17, cc_21, cc_25, cc_29, cc_33, cc_37, cc_41, cc_45, c1_size, c1_full, c1_holds, c1_at, c1_put, c1_add, c1_pop, c1_clear, c3_size, c3_full, c3_holds, c3_at, c3_put, c3_add, c3_pop, c3_clear, c7_size, c7_full, c7_holds, c7_at, c7_put, c7_add, c7_pop, c7_clear, c7_ins, c7_cut, c7_copy3, c7_copy66, c49_size, c49_full, c49_holds, c49_at, c49_put, c49_add, c49_pop, c49_clear, c51_size, c51_full, c51_holds, c51_at, c51_put, c51_add, c51_pop, c51_clear, c54_size, c54_full, c54_holds, c54_at, c54_put, c54_add, c54_pop, c54_clear, c54_copy56, c56_size, c56_full, c56_holds, c56_at, c56_put, c56_add, c56_pop, c56_clear, c58_size, c58_full, c58_holds, c58_at, c58_put, c58_add, c58_pop, c58_clear, c60_size, c60_full, c60_holds, c60_at, c60_put, c60_add, c60_pop, c60_clear, c62_size, c62_full, c62_holds, c62_at, c62_put, c62_add, c62_pop, c62_clear, c64_size, c64_full, c64_holds, c64_at, c64_put, c64_add, c64_pop, c64_clear, c66_size, c66_full, c66_holds, c66_at, c66_put, c66_add, c66_pop, c66_clear, c66_part7, c68_size, c68_full, c68_holds, c68_at, c68_put, c68_add, c68_pop, c68_clear, c68_part7, ct_ld, ct_st, ct_ln, ck_ld, ck_ln, cp_ld5, cp_ln5, uN_s, uN_n, uA_s, uA_n, uN_uN, uA_uA, uA_id]) | (refine bq_t (by omega) ?_) | (refine bq_f (by omega) ?_) | fail)
  refine c_spread (C := (uN (uN (uN C.1 56 0) 74 (-1)) 75 (-1), C.2.1, C.2.2.1, C.2.2.2.1, Int64.ofInt 0)) (q := 0) (o := 0) (first := 0) (V := []) (D := []) (by omega) (CX2_tf ⟨fun k a b c d e => ?_, fun k a b c => rfl, rfl, rfl⟩ hX) (hTot true) hF ⟨Int.le_refl _, h7.1⟩ ⟨fun s _ _ => ?_, ?_, fun i i0 i1 => by simp at i1; omega, fun v hv => by cases hv⟩ (fun v hv => by cases hv) (by simp only [List.length_nil]; omega) ?_ ⟨by omega, by omega⟩ ⟨by omega, by omega⟩ (fun C2 V2 D2 s1 s2 s3 s4 s5 s6 => ?_)
  · simp (disch := omega) only [uN_s, uN_n, uA_s, uA_n, up_s, up_n, uN_uN, uA_uA]
  · show tb (Int64.ofInt 0) s = _
    rw [show (Int64.ofInt 0 : Int64) = 0 from rfl, tb_0]; simp
  · simp (disch := omega) only [uN_s, uN_n, uA_s, uA_n, up_s, up_n, uN_uN, uA_uA]
    rfl
  · simp (disch := omega) only [uN_s, uN_n, uA_s, uA_n, up_s, up_n, uN_uN, uA_uA]
    exact h58
  have e75 : C2.1 75 = -1 := (s1.1 75 (by omega) (by omega)).trans (by simp (disch := omega) only [uN_s, uN_n, uA_s, uA_n, up_s, up_n, uN_uN, uA_uA])
  have e54 : C2.1 54 = C.1 54 := (s1.1 54 (by omega) (by omega)).trans (by simp (disch := omega) only [uN_s, uN_n, uA_s, uA_n, up_s, up_n, uN_uN, uA_uA])
  have hTF : TF C C2 := (show TF C (uN (uN (uN C.1 56 0) 74 (-1)) 75 (-1), C.2.1, C.2.2.1, C.2.2.2.1, Int64.ofInt 0) from ⟨fun k a b c d e => by simp (disch := omega) only [uN_s, uN_n, uA_s, uA_n, up_s, up_n, uN_uN, uA_uA], fun k a b c => rfl, rfl, rfl⟩).trans s1.tf
  have hen := en_eq (hT true 0 (Int.le_refl _) h7.1)
  repeat' (first | (simp (disch := first | assumption | exact wd_n | exact wd_i | exact wd_r | exact ct_r | exact ct_i | exact stB_0 | exact stB_1 | exact stB_2 | exact stB_3 | exact stB_4 | exact stB_5 | exact ct_2 | exact b2i_c _ | exact wd_0 | exact wd_f | omega | ((simp (disch := omega) only [uN_s, uN_n, uA_s, uA_n, up_s, up_n]) <;> omega)) only [x74_0, x74_0n, x74_1, x74_4, x74_4n, x74_5, x74_5n, x74_6, x74_7, x74_8, x74_11, x74_12, x74_14, x74_14n, x74_15, x74_18, x74_21, x74_21n, x74_22, x74_22n, x74_23, x74_23n, x74_24, x74_25, x74_26, x74_29, x74_32, x74_35, x74_35n, x74_36, x74_39, x74_40, x74_43, x74_44, x74_47, x74_48, e74, XC_v, XC_s, true_and, and_true, and_self, bq_T, bq_F, yt_s, Bool.false_eq_true, Bool.true_eq_false, rg_0, rg_1, rp_1, mset_1, mset_21, mset_eq, mset_ne, yn_I, ya_I, yw_I, mset_cl, cc_0, cf_0_0, cf_0_1, cf_0_2, cf_0_3, cf_0_4, cf_0_5, cf_0_6, cf_0_7, cf_0_8, cf_0_9, cf_0_10, cf_0_11, cf_0_12, cf_0_13, cf_0_14, cf_0_15, cs_0_4, cs_0_6, cs_0_7, cs_0_8, cc_13, cf_13_0, cf_13_1, cf_13_2, cs_13_1, cs_13_2, cc_47, cf_47_0, cf_47_1, cf_47_2, cc_53, cf_53_0, cf_53_1, cf_53_2, cf_53_3, cf_53_4, cf_53_5, cs_53_3, cs_53_4, cs_53_5, cc_5, cf_5_0, cf_5_1, cf_5_2, cs_5_1, cc_9, cf_9_0, cf_9_1, cf_9_2, cs_9_1, cc_15, cf_15_0, cf_15_1, cf_15_2, cs_15_1, cc_19, cf_19_0, cf_19_1, cf_19_2, cs_19_1, cc_23, cf_23_0, cf_23_1, cf_23_2, cs_23_1, cc_27, cf_27_0, cf_27_1, cf_27_2, cs_27_1, cc_31, cf_31_0, cf_31_1, cf_31_2, cs_31_1, cc_35, cf_35_0, cf_35_1, cf_35_2, cs_35_1, cc_39, cf_39_0, cf_39_1, cf_39_2, cs_39_1, cc_43, cf_43_0, cf_43_1, cf_43_2, cs_43_1, cc_1, cc_3, cc_7, cc_11, cc_49, cc_51, cc_54, cc_56, cc_58, cc_60, cc_62, cc_64, cc_66, cc_68, cc_17, cc_21, cc_25, cc_29, cc_33, cc_37, cc_41, cc_45, c1_size, c1_full, c1_holds, c1_at, c1_put, c1_add, c1_pop, c1_clear, c3_size, c3_full, c3_holds, c3_at, c3_put, c3_add, c3_pop, c3_clear, c7_size, c7_full, c7_holds, c7_at, c7_put, c7_add, c7_pop, c7_clear, c7_ins, c7_cut, c7_copy3, c7_copy66, c49_size, c49_full, c49_holds, c49_at, c49_put, c49_add, c49_pop, c49_clear, c51_size, c51_full, c51_holds, c51_at, c51_put, c51_add, c51_pop, c51_clear, c54_size, c54_full, c54_holds, c54_at, c54_put, c54_add, c54_pop, c54_clear, c54_copy56, c56_size, c56_full, c56_holds, c56_at, c56_put, c56_add, c56_pop, c56_clear, c58_size, c58_full, c58_holds, c58_at, c58_put, c58_add, c58_pop, c58_clear, c60_size, c60_full, c60_holds, c60_at, c60_put, c60_add, c60_pop, c60_clear, c62_size, c62_full, c62_holds, c62_at, c62_put, c62_add, c62_pop, c62_clear, c64_size, c64_full, c64_holds, c64_at, c64_put, c64_add, c64_pop, c64_clear, c66_size, c66_full, c66_holds, c66_at, c66_put, c66_add, c66_pop, c66_clear, c66_part7, c68_size, c68_full, c68_holds, c68_at, c68_put, c68_add, c68_pop, c68_clear, c68_part7, ct_ld, ct_st, ct_ln, ck_ld, ck_ln, cp_ld5, cp_ln5, uN_s, uN_n, uA_s, uA_n, uN_uN, uA_uA]) | (refine bq_t (by omega) ?_) | (refine bq_f (by omega) ?_) | fail)
  refine c_spansL (C := C) (TOT := mo 0 ((mRt c (C.2.1 7) (C.1 7) t true 0).map (fun r => r.1))) (by omega) hX rfl (hTot true) hF (fun C' a1 a2 a3 a4 a5 => ?_) (C.1 7 + 1).toNat C2 0 V2 D2 (Int.le_refl _) (by omega) ⟨hTF, s2, s3, s4, s5, by rw [e54]; exact h54, by omega, by omega⟩ (fun q => by omega) ?_
  · have := hq C' a1 a2 a3 a4
    cases hr : mRt c (C.2.1 7) (C.1 7) t true 0 with
    | none => rw [hr] at this; exact this
    | some q => rw [hr] at this; exact this
  · have e1 : fnd C2 = none := if_pos e75
    rw [e1, o2_n, s6, hen]
    rfl
end TSC
