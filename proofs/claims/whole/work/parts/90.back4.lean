/-! the class's backtracker from its calls -/
/-- a pattern lies at p: its characters, its groups, its tree's steps -/
def PTO (M : JM) (p : Nat) (n : Int) (c : Int → Int) (g : Int) (t : RT) : Prop := ∃ k f s : Int → Int, PAO M p n c (tsz t + 1) k f s g (tsh t) (tlo t) ∧ LK k f s t none 0 ∧ k (tsz t) = 8 ∧ TW n t ∧ tfk t ≤ 30 ∧ tsz t ≤ 60 ∧ (0 ≤ n ∧ n ≤ 30) ∧ (∀ j, 0 ≤ j → j < n → 0 ≤ c j ∧ c j ≤ 65535)
def VC (C : CS) (op : Int → Int × Int × Int) (fit : Int → Int → Bool) (acc : Int → Bool) (N : Nat) (L : Int) : Prop := ∃ vis : List (Int × Int), (∀ s p, 0 ≤ s → s < (N : Int) → 0 ≤ p → p ≤ 40 → tb (C.2.2.2.1 p) s = decide ((s, p) ∈ vis)) ∧ ∀ v : Int × Int, v ∈ vis → (0 ≤ v.1 ∧ v.1 < (N : Int) ∧ 0 ≤ v.2 ∧ v.2 ≤ L) ∧ Fl op fit acc v
section BKC
variable {X : JX} {M0 : JM} {x p d : Nat} {C : CS} {Q : JR → JM → Prop} {n L start : Int} {N : Nat} {c k f s : Int → Int} {wh : Bool} {r : RA}
theorem b_initL (hd : 2 ≤ d) {l6 l7 l8 : Option Value} {wz : Int} : ∀ (m : Nat) (C : CS) (j : Int), C.1 51 = j → 0 ≤ j → j ≤ 12 → 12 - j = m → (∀ i, 0 ≤ i → i < j → C.2.1 51 i = -1) → (∀ c' , (∀ i, 0 ≤ i → i < 12 → c' i = -1) → XX X d 9 (31, [some (.ref (x + 47)), some (.ref p), some (.ref (x + 7)), some (.int (ii start)), some (.int (ii wz)), some (.int (ii 12)), l6, l7, l8], [], cm M0 x (uN C.1 51 12, uA C.2.1 51 c', C.2.2)) Q) → XX X d 9 (10, [some (.ref (x + 47)), some (.ref p), some (.ref (x + 7)), some (.int (ii start)), some (.int (ii wz)), some (.int (ii j)), l6, l7, l8], [], cm M0 x C) Q := by
  intro m
  induction m with
  | zero =>
    intro C j h51 h0 h1 hf hm hq
    have hj : j = 12 := by omega
    subst hj
    rw [x9_10]
    repeat' (first | (simp (disch := first | assumption | exact wd_n | exact wd_i | exact wd_r | exact ct_r | exact ct_i | exact stB_0 | exact stB_1 | exact stB_2 | exact stB_3 | exact stB_4 | exact stB_5 | exact ct_2 | exact b2i_c _ | exact wd_0 | exact wd_f | omega | ((simp (disch := omega) only [uN_s, uN_n, uA_s, uA_n, up_s, up_n]) <;> omega)) only [x9_0, x9_0n, x9_1, x9_4, x9_7, x9_8, x9_12, x9_14, x9_17, x9_17n, x9_18, x9_21, x9_22, x9_25, x9_28, x9_32, x9_35, x9_36, x9_37, x9_40, x9_40n, x9_41, x9_44, x9_47, x9_47n, x9_48, x9_51, x9_52, x9_55, x9_56, x9_58, x9_60, x9_62, x9_65, x9_65n, x9_66, x9_69, x9_72, x9_75, x9_75n, x9_76, x9_79, x9_82, x9_84, x9_86, x9_88, x9_89, x9_91, x9_92, x9_94, x9_96, x9_98, x9_99, x9_101, x9_103, x9_106, x9_109, x9_109n, x9_110, x9_113, x9_115, x9_117, x9_118, x9_119, x9_122, x9_125, x9_125n, x9_126, x9_128, x9_130, x9_133, x9_133b, x9_136, x9_136n, x9_137, x9_137n, x9_138, x9_138n, x9_139, x9_141, x9_143, x9_145, x9_148, x9_148b, x9_151, x9_151n, x9_152, x9_155, x9_156, x9_158, x9_161, x9_162, x9_163, x9_166, x9_169, x9_170, e9, XC_v, XC_s, true_and, and_true, and_self, bq_T, bq_F, yt_s, Bool.false_eq_true, Bool.true_eq_false, rg_0, rg_1, rp_1, mset_1, mset_21, mset_eq, mset_ne, yn_I, ya_I, yw_I, mset_cl, cc_0, cf_0_0, cf_0_1, cf_0_2, cf_0_3, cf_0_4, cf_0_5, cf_0_6, cf_0_7, cf_0_8, cf_0_9, cf_0_10, cf_0_11, cf_0_12, cf_0_13, cf_0_14, cf_0_15, cs_0_4, cs_0_6, cs_0_7, cs_0_8, cc_13, cf_13_0, cf_13_1, cf_13_2, cs_13_1, cs_13_2, cc_47, cf_47_0, cf_47_1, cf_47_2, cc_53, cf_53_0, cf_53_1, cf_53_2, cf_53_3, cf_53_4, cf_53_5, cs_53_3, cs_53_4, cs_53_5, cc_5, cf_5_0, cf_5_1, cf_5_2, cs_5_1, cc_9, cf_9_0, cf_9_1, cf_9_2, cs_9_1, cc_15, cf_15_0, cf_15_1, cf_15_2, cs_15_1, cc_19, cf_19_0, cf_19_1, cf_19_2, cs_19_1, cc_23, cf_23_0, cf_23_1, cf_23_2, cs_23_1, cc_27, cf_27_0, cf_27_1, cf_27_2, cs_27_1, cc_31, cf_31_0, cf_31_1, cf_31_2, cs_31_1, cc_35, cf_35_0, cf_35_1, cf_35_2, cs_35_1, cc_39, cf_39_0, cf_39_1, cf_39_2, cs_39_1, cc_43, cf_43_0, cf_43_1, cf_43_2, cs_43_1, cc_1, cc_3, cc_7, cc_11, cc_49, cc_51, cc_54, cc_56, cc_58, cc_60, cc_62, cc_64, cc_66, cc_68, cc_17, cc_21, cc_25, cc_29, cc_33, cc_37, cc_41, cc_45, c1_size, c1_full, c1_holds, c1_at, c1_put, c1_add, c1_pop, c1_clear, c3_size, c3_full, c3_holds, c3_at, c3_put, c3_add, c3_pop, c3_clear, c7_size, c7_full, c7_holds, c7_at, c7_put, c7_add, c7_pop, c7_clear, c7_ins, c7_cut, c7_copy3, c7_copy66, c49_size, c49_full, c49_holds, c49_at, c49_put, c49_add, c49_pop, c49_clear, c51_size, c51_full, c51_holds, c51_at, c51_put, c51_add, c51_pop, c51_clear, c54_size, c54_full, c54_holds, c54_at, c54_put, c54_add, c54_pop, c54_clear, c54_copy56, c56_size, c56_full, c56_holds, c56_at, c56_put, c56_add, c56_pop, c56_clear, c58_size, c58_full, c58_holds, c58_at, c58_put, c58_add, c58_pop, c58_clear, c60_size, c60_full, c60_holds, c60_at, c60_put, c60_add, c60_pop, c60_clear, c62_size, c62_full, c62_holds, c62_at, c62_put, c62_add, c62_pop, c62_clear, c64_size, c64_full, c64_holds, c64_at, c64_put, c64_add, c64_pop, c64_clear, c66_size, c66_full, c66_holds, c66_at, c66_put, c66_add, c66_pop, c66_clear, c66_part7, c68_size, c68_full, c68_holds, c68_at, c68_put, c68_add, c68_pop, c68_clear, c68_part7, ct_ld, ct_st, ct_ln, ck_ld, ck_ln, cp_ld5, cp_ln5, uN_s, uN_n, uA_s, uA_n, uN_uN, uA_uA]) | (refine bq_t (by omega) ?_) | (refine bq_f (by omega) ?_) | fail)
    have := hq (C.2.1 51) (fun i a b => hm i a b)
    rw [uA_id, show uN C.1 51 12 = C.1 by rw [← h51]; exact uN_id] at this
    exact this
  | succ m ih =>
    intro C j h51 h0 h1 hf hm hq
    rw [x9_10]
    repeat' (first | (simp (disch := first | assumption | exact wd_n | exact wd_i | exact wd_r | exact ct_r | exact ct_i | exact stB_0 | exact stB_1 | exact stB_2 | exact stB_3 | exact stB_4 | exact stB_5 | exact ct_2 | exact b2i_c _ | exact wd_0 | exact wd_f | omega | ((simp (disch := omega) only [uN_s, uN_n, uA_s, uA_n, up_s, up_n]) <;> omega)) only [x9_0, x9_0n, x9_1, x9_4, x9_7, x9_8, x9_12, x9_14, x9_17, x9_17n, x9_18, x9_21, x9_22, x9_25, x9_28, x9_32, x9_35, x9_36, x9_37, x9_40, x9_40n, x9_41, x9_44, x9_47, x9_47n, x9_48, x9_51, x9_52, x9_55, x9_56, x9_58, x9_60, x9_62, x9_65, x9_65n, x9_66, x9_69, x9_72, x9_75, x9_75n, x9_76, x9_79, x9_82, x9_84, x9_86, x9_88, x9_89, x9_91, x9_92, x9_94, x9_96, x9_98, x9_99, x9_101, x9_103, x9_106, x9_109, x9_109n, x9_110, x9_113, x9_115, x9_117, x9_118, x9_119, x9_122, x9_125, x9_125n, x9_126, x9_128, x9_130, x9_133, x9_133b, x9_136, x9_136n, x9_137, x9_137n, x9_138, x9_138n, x9_139, x9_141, x9_143, x9_145, x9_148, x9_148b, x9_151, x9_151n, x9_152, x9_155, x9_156, x9_158, x9_161, x9_162, x9_163, x9_166, x9_169, x9_170, e9, XC_v, XC_s, true_and, and_true, and_self, bq_T, bq_F, yt_s, Bool.false_eq_true, Bool.true_eq_false, rg_0, rg_1, rp_1, mset_1, mset_21, mset_eq, mset_ne, yn_I, ya_I, yw_I, mset_cl, cc_0, cf_0_0, cf_0_1, cf_0_2, cf_0_3, cf_0_4, cf_0_5, cf_0_6, cf_0_7, cf_0_8, cf_0_9, cf_0_10, cf_0_11, cf_0_12, cf_0_13, cf_0_14, cf_0_15, cs_0_4, cs_0_6, cs_0_7, cs_0_8, cc_13, cf_13_0, cf_13_1, cf_13_2, cs_13_1, cs_13_2, cc_47, cf_47_0, cf_47_1, cf_47_2, cc_53, cf_53_0, cf_53_1, cf_53_2, cf_53_3, cf_53_4, cf_53_5, cs_53_3, cs_53_4, cs_53_5, cc_5, cf_5_0, cf_5_1, cf_5_2, cs_5_1, cc_9, cf_9_0, cf_9_1, cf_9_2, cs_9_1, cc_15, cf_15_0, cf_15_1, cf_15_2, cs_15_1, cc_19, cf_19_0, cf_19_1, cf_19_2, cs_19_1, cc_23, cf_23_0, cf_23_1, cf_23_2, cs_23_1, cc_27, cf_27_0, cf_27_1, cf_27_2, cs_27_1, cc_31, cf_31_0, cf_31_1, cf_31_2, cs_31_1, cc_35, cf_35_0, cf_35_1, cf_35_2, cs_35_1, cc_39, cf_39_0, cf_39_1, cf_39_2, cs_39_1, cc_43, cf_43_0, cf_43_1, cf_43_2, cs_43_1, cc_1, cc_3, cc_7, cc_11, cc_49, cc_51, cc_54, cc_56, cc_58, cc_60, cc_62, cc_64, cc_66, cc_68, cc_17, cc_21, cc_25, cc_29, cc_33, cc_37, cc_41, cc_45, c1_size, c1_full, c1_holds, c1_at, c1_put, c1_add, c1_pop, c1_clear, c3_size, c3_full, c3_holds, c3_at, c3_put, c3_add, c3_pop, c3_clear, c7_size, c7_full, c7_holds, c7_at, c7_put, c7_add, c7_pop, c7_clear, c7_ins, c7_cut, c7_copy3, c7_copy66, c49_size, c49_full, c49_holds, c49_at, c49_put, c49_add, c49_pop, c49_clear, c51_size, c51_full, c51_holds, c51_at, c51_put, c51_add, c51_pop, c51_clear, c54_size, c54_full, c54_holds, c54_at, c54_put, c54_add, c54_pop, c54_clear, c54_copy56, c56_size, c56_full, c56_holds, c56_at, c56_put, c56_add, c56_pop, c56_clear, c58_size, c58_full, c58_holds, c58_at, c58_put, c58_add, c58_pop, c58_clear, c60_size, c60_full, c60_holds, c60_at, c60_put, c60_add, c60_pop, c60_clear, c62_size, c62_full, c62_holds, c62_at, c62_put, c62_add, c62_pop, c62_clear, c64_size, c64_full, c64_holds, c64_at, c64_put, c64_add, c64_pop, c64_clear, c66_size, c66_full, c66_holds, c66_at, c66_put, c66_add, c66_pop, c66_clear, c66_part7, c68_size, c68_full, c68_holds, c68_at, c68_put, c68_add, c68_pop, c68_clear, c68_part7, ct_ld, ct_st, ct_ln, ck_ld, ck_ln, cp_ld5, cp_ln5, uN_s, uN_n, uA_s, uA_n, uN_uN, uA_uA, h51]) | (refine bq_t (by omega) ?_) | (refine bq_f (by omega) ?_) | fail)
    refine ih _ (j + 1) ?_ (by omega) (by omega) (by omega) (fun i a b => ?_) (fun c' hc => ?_)
    · simp (disch := omega) only [uN_s, uN_n, uA_s, uA_n, up_s, up_n, uN_uN, uA_uA]
    · simp (disch := omega) only [uN_s, uN_n, uA_s, uA_n, up_s, up_n, uN_uN, uA_uA]
      by_cases hi : i = j
      · rw [hi, up_s]
      · rw [up_n hi]; exact hm i a (by omega)
    · simp (disch := omega) only [uN_s, uN_n, uA_s, uA_n, up_s, up_n, uN_uN, uA_uA]
      exact hq c' hc
def BZ (M0 : JM) (x : Nat) (C : CS) (op : Int → Int × Int × Int) (fit : Int → Int → Bool) (acc : Int → Bool) (N : Nat) (L : Int) (Q : JR → JM → Prop) (start : Int) (r : RA) : Prop := ∀ C', BF C C' → C'.1 51 = 12 → 0 ≤ C'.1 49 → C'.1 49 ≤ 1231 → match r with
  | none => VC C' op fit acc N L → Q (.inl (some (.int (ii 0)))) (cm M0 x C')
  | some q => C'.2.1 51 0 = start → C'.2.1 51 1 = q.1 → (∀ j, 0 ≤ j → j ≤ 9 → C'.2.1 51 (j + 2) = q.2 j) → Q (.inl (some (.int (ii 1)))) (cm M0 x C')
theorem b_matchesAt (hd : 7 ≤ d) (hX : CX2 M0 x p C n c N k f s L) (h49 : 0 ≤ C.1 49 ∧ C.1 49 ≤ 1231) (h51 : 0 ≤ C.1 51 ∧ C.1 51 ≤ 12) (hst : 0 ≤ start ∧ start ≤ L) (hV : VC C (opC k f s N) (fitC c (C.2.1 7) k f s L) (accW wh L) N L) (hT : Tm (opC k f s N) (fitC c (C.2.1 7) k f s L) (accW wh L) 0 start (fun _ => -1) r) (hq : BZ M0 x C (opC k f s N) (fitC c (C.2.1 7) k f s L) (accW wh L) N L Q start r) : CC X d 9 [.ref (x + 47), .ref p, .ref (x + 7), .int (ii start), .int (ii (b2i wh))] (cm M0 x C) Q := by
  obtain ⟨vis, hbits, hvis⟩ := hV
  obtain ⟨fu, hf⟩ := hT
  have hop := CX2_op hX
  have hfw := CX2_fw hX
  obtain ⟨hP, hpx, e7, hL, htx, hn, hcc, hN, hst9, hk8, hfk⟩ := id hX
  have hOk : OpOk (opC k f s N) := OpR.ok hop (fun i hi => by unfold opC; rw [if_pos hi])
  have hDO := dfs_ok (fit := fitC c (C.2.1 7) k f s L) (acc := accW wh L) hOk fu 0 start (fun _ => -1) r vis [] (by omega) hf (fun v hv => Or.inl (hvis v hv).2)
  have hTI : TI (fw (opC k f s N)) N L (1 + ph (fw (opC k f s N)) N vis) ([(0, start)], (fun _ => -1), vis) := by
    refine ⟨fun v hv => ?_, fun j => by show -1 ≤ (-1 : Int) ∧ (-1 : Int) ≤ L; omega, fun v hv => (hvis v hv).1, by show ((1 : Nat) : Int) + ph (fw (opC k f s N)) N vis ≤ 1 + ph (fw (opC k f s N)) N vis; omega⟩
    have : v = (0, start) := by simpa using hv
    rw [this]
    exact ⟨fun _ => ⟨by show (0 : Int) < N; omega, hst⟩, fun q => by have q' : (0 : Int) < 0 := q; omega⟩
  have hB : 1 + ph (fw (opC k f s N)) N vis ≤ 1231 := by
    have h1 := ph_le (N := N) (vis := vis) (wt := fw (opC k f s N)) (fun s a b => (fw_ok s a b).1)
    rw [ph_nil] at h1
    omega
  have hpsi : psi N ([(0, start)], (fun _ => -1), vis) ≤ 7504 := by
    have h1 := ph_le (N := N) (vis := vis) (wt := fun _ => 1) (fun s a b => by omega)
    rw [ph_nil, sm_c] at h1
    show ((1 : Nat) : Int) + 3 * ph (fun _ => 1) N vis ≤ 7504
    omega
  have hFin : ∃ t vf, t ≤ 7504 ∧ Fin (opC k f s N) (fitC c (C.2.1 7) k f s L) (accW wh L) t ([(0, start)], (fun _ => -1), vis) r vf ∧ (r = none → ∀ v : Int × Int, v ∈ vf → (0 ≤ v.1 ∧ v.1 < (N : Int) ∧ 0 ≤ v.2 ∧ v.2 ≤ L) ∧ Fl (opC k f s N) (fitC c (C.2.1 7) k f s L) (accW wh L) v) := by
    cases r with
    | none =>
      obtain ⟨t, vf, h1, h2⟩ := hDO
      have h3 := psi_dgo hL.2 hL.1 hop fw_ok (fun s p h => fitC_L h) t _ _ hTI h1
      have h4 := psi_0 (N := N) (T := (([], (fun _ => -1), vf) : DT))
      refine ⟨t, vf, by omega, ⟨_, h1⟩, fun _ v hv => ?_⟩
      have hTn := TI_dgo hL.2 hL.1 hop fw_ok (fun s p h => fitC_L h) t _ hTI h1
      refine ⟨hTn.2.2.1 v hv, ?_⟩
      rcases h2 v hv with h3 | h3
      · exact (hvis v h3).2
      · exact h3
    | some q =>
      obtain ⟨t, T', vf, h1, h2⟩ := hDO
      have h3 := psi_dgo hL.2 hL.1 hop fw_ok (fun s p h => fitC_L h) t _ _ hTI h1
      have h4 := psi_0 (N := N) (T := T')
      exact ⟨t, vf, by omega, ⟨T', h1, h2⟩, fun q => by cases q⟩
  obtain ⟨t, vf, ht, hF, hvf⟩ := hFin
  repeat' (first | (simp (disch := first | assumption | exact wd_n | exact wd_i | exact wd_r | exact ct_r | exact ct_i | exact stB_0 | exact stB_1 | exact stB_2 | exact stB_3 | exact stB_4 | exact stB_5 | exact ct_2 | exact b2i_c _ | exact wd_0 | exact wd_f | omega | ((simp (disch := omega) only [uN_s, uN_n, uA_s, uA_n, up_s, up_n]) <;> omega)) only [x9_0, x9_0n, x9_1, x9_4, x9_7, x9_8, x9_12, x9_14, x9_17, x9_17n, x9_18, x9_21, x9_22, x9_25, x9_28, x9_31, x9_31n, x9_32, x9_35, x9_36, x9_37, x9_40, x9_40n, x9_41, x9_44, x9_47, x9_47n, x9_48, x9_51, x9_52, x9_55, x9_56, x9_60, x9_62, x9_65, x9_65n, x9_66, x9_69, x9_72, x9_75, x9_75n, x9_76, x9_79, x9_82, x9_84, x9_86, x9_88, x9_89, x9_91, x9_92, x9_94, x9_96, x9_98, x9_99, x9_101, x9_103, x9_106, x9_109, x9_109n, x9_110, x9_113, x9_115, x9_117, x9_118, x9_119, x9_122, x9_125, x9_125n, x9_126, x9_128, x9_130, x9_133, x9_133b, x9_136, x9_136n, x9_137, x9_137n, x9_138, x9_138n, x9_139, x9_141, x9_143, x9_145, x9_148, x9_148b, x9_151, x9_151n, x9_152, x9_155, x9_156, x9_158, x9_161, x9_162, x9_163, x9_166, x9_169, x9_170, e9, XC_v, XC_s, true_and, and_true, and_self, bq_T, bq_F, yt_s, Bool.false_eq_true, Bool.true_eq_false, rg_0, rg_1, rp_1, mset_1, mset_21, mset_eq, mset_ne, yn_I, ya_I, yw_I, mset_cl, cc_0, cf_0_0, cf_0_1, cf_0_2, cf_0_3, cf_0_4, cf_0_5, cf_0_6, cf_0_7, cf_0_8, cf_0_9, cf_0_10, cf_0_11, cf_0_12, cf_0_13, cf_0_14, cf_0_15, cs_0_4, cs_0_6, cs_0_7, cs_0_8, cc_13, cf_13_0, cf_13_1, cf_13_2, cs_13_1, cs_13_2, cc_47, cf_47_0, cf_47_1, cf_47_2, cc_53, cf_53_0, cf_53_1, cf_53_2, cf_53_3, cf_53_4, cf_53_5, cs_53_3, cs_53_4, cs_53_5, cc_5, cf_5_0, cf_5_1, cf_5_2, cs_5_1, cc_9, cf_9_0, cf_9_1, cf_9_2, cs_9_1, cc_15, cf_15_0, cf_15_1, cf_15_2, cs_15_1, cc_19, cf_19_0, cf_19_1, cf_19_2, cs_19_1, cc_23, cf_23_0, cf_23_1, cf_23_2, cs_23_1, cc_27, cf_27_0, cf_27_1, cf_27_2, cs_27_1, cc_31, cf_31_0, cf_31_1, cf_31_2, cs_31_1, cc_35, cf_35_0, cf_35_1, cf_35_2, cs_35_1, cc_39, cf_39_0, cf_39_1, cf_39_2, cs_39_1, cc_43, cf_43_0, cf_43_1, cf_43_2, cs_43_1, cc_1, cc_3, cc_7, cc_11, cc_49, cc_51, cc_54, cc_56, cc_58, cc_60, cc_62, cc_64, cc_66, cc_68, cc_17, cc_21, cc_25, cc_29, cc_33, cc_37, cc_41, cc_45, c1_size, c1_full, c1_holds, c1_at, c1_put, c1_add, c1_pop, c1_clear, c3_size, c3_full, c3_holds, c3_at, c3_put, c3_add, c3_pop, c3_clear, c7_size, c7_full, c7_holds, c7_at, c7_put, c7_add, c7_pop, c7_clear, c7_ins, c7_cut, c7_copy3, c7_copy66, c49_size, c49_full, c49_holds, c49_at, c49_put, c49_add, c49_pop, c49_clear, c51_size, c51_full, c51_holds, c51_at, c51_put, c51_add, c51_pop, c51_clear, c54_size, c54_full, c54_holds, c54_at, c54_put, c54_add, c54_pop, c54_clear, c54_copy56, c56_size, c56_full, c56_holds, c56_at, c56_put, c56_add, c56_pop, c56_clear, c58_size, c58_full, c58_holds, c58_at, c58_put, c58_add, c58_pop, c58_clear, c60_size, c60_full, c60_holds, c60_at, c60_put, c60_add, c60_pop, c60_clear, c62_size, c62_full, c62_holds, c62_at, c62_put, c62_add, c62_pop, c62_clear, c64_size, c64_full, c64_holds, c64_at, c64_put, c64_add, c64_pop, c64_clear, c66_size, c66_full, c66_holds, c66_at, c66_put, c66_add, c66_pop, c66_clear, c66_part7, c68_size, c68_full, c68_holds, c68_at, c68_put, c68_add, c68_pop, c68_clear, c68_part7, ct_ld, ct_st, ct_ln, ck_ld, ck_ln, cp_ld5, cp_ln5, uN_s, uN_n, uA_s, uA_n, uN_uN, uA_uA, uA_id]) | (refine bq_t (by omega) ?_) | (refine bq_f (by omega) ?_) | fail)
  refine b_initL (by omega) 12 (uN C.1 51 0, C.2) 0 (by simp (disch := omega) only [uN_s, uN_n, uA_s, uA_n, up_s, up_n, uN_uN, uA_uA]) (by omega) (by omega) (by omega) (fun i a b => by omega) (fun c' hc => ?_)
  repeat' (first | (simp (disch := first | assumption | exact wd_n | exact wd_i | exact wd_r | exact ct_r | exact ct_i | exact stB_0 | exact stB_1 | exact stB_2 | exact stB_3 | exact stB_4 | exact stB_5 | exact ct_2 | exact b2i_c _ | exact wd_0 | exact wd_f | omega | ((simp (disch := omega) only [uN_s, uN_n, uA_s, uA_n, up_s, up_n]) <;> omega)) only [x9_0, x9_0n, x9_1, x9_4, x9_7, x9_8, x9_12, x9_14, x9_17, x9_17n, x9_18, x9_21, x9_22, x9_25, x9_28, x9_31, x9_31n, x9_32, x9_35, x9_36, x9_37, x9_40, x9_40n, x9_41, x9_44, x9_47, x9_47n, x9_48, x9_51, x9_52, x9_55, x9_56, x9_60, x9_62, x9_65, x9_65n, x9_66, x9_69, x9_72, x9_75, x9_75n, x9_76, x9_79, x9_82, x9_84, x9_86, x9_88, x9_89, x9_91, x9_92, x9_94, x9_96, x9_98, x9_99, x9_101, x9_103, x9_106, x9_109, x9_109n, x9_110, x9_113, x9_115, x9_117, x9_118, x9_119, x9_122, x9_125, x9_125n, x9_126, x9_128, x9_130, x9_133, x9_133b, x9_136, x9_136n, x9_137, x9_137n, x9_138, x9_138n, x9_139, x9_141, x9_143, x9_145, x9_148, x9_148b, x9_151, x9_151n, x9_152, x9_155, x9_156, x9_158, x9_161, x9_162, x9_163, x9_166, x9_169, x9_170, e9, XC_v, XC_s, true_and, and_true, and_self, bq_T, bq_F, yt_s, Bool.false_eq_true, Bool.true_eq_false, rg_0, rg_1, rp_1, mset_1, mset_21, mset_eq, mset_ne, yn_I, ya_I, yw_I, mset_cl, cc_0, cf_0_0, cf_0_1, cf_0_2, cf_0_3, cf_0_4, cf_0_5, cf_0_6, cf_0_7, cf_0_8, cf_0_9, cf_0_10, cf_0_11, cf_0_12, cf_0_13, cf_0_14, cf_0_15, cs_0_4, cs_0_6, cs_0_7, cs_0_8, cc_13, cf_13_0, cf_13_1, cf_13_2, cs_13_1, cs_13_2, cc_47, cf_47_0, cf_47_1, cf_47_2, cc_53, cf_53_0, cf_53_1, cf_53_2, cf_53_3, cf_53_4, cf_53_5, cs_53_3, cs_53_4, cs_53_5, cc_5, cf_5_0, cf_5_1, cf_5_2, cs_5_1, cc_9, cf_9_0, cf_9_1, cf_9_2, cs_9_1, cc_15, cf_15_0, cf_15_1, cf_15_2, cs_15_1, cc_19, cf_19_0, cf_19_1, cf_19_2, cs_19_1, cc_23, cf_23_0, cf_23_1, cf_23_2, cs_23_1, cc_27, cf_27_0, cf_27_1, cf_27_2, cs_27_1, cc_31, cf_31_0, cf_31_1, cf_31_2, cs_31_1, cc_35, cf_35_0, cf_35_1, cf_35_2, cs_35_1, cc_39, cf_39_0, cf_39_1, cf_39_2, cs_39_1, cc_43, cf_43_0, cf_43_1, cf_43_2, cs_43_1, cc_1, cc_3, cc_7, cc_11, cc_49, cc_51, cc_54, cc_56, cc_58, cc_60, cc_62, cc_64, cc_66, cc_68, cc_17, cc_21, cc_25, cc_29, cc_33, cc_37, cc_41, cc_45, c1_size, c1_full, c1_holds, c1_at, c1_put, c1_add, c1_pop, c1_clear, c3_size, c3_full, c3_holds, c3_at, c3_put, c3_add, c3_pop, c3_clear, c7_size, c7_full, c7_holds, c7_at, c7_put, c7_add, c7_pop, c7_clear, c7_ins, c7_cut, c7_copy3, c7_copy66, c49_size, c49_full, c49_holds, c49_at, c49_put, c49_add, c49_pop, c49_clear, c51_size, c51_full, c51_holds, c51_at, c51_put, c51_add, c51_pop, c51_clear, c54_size, c54_full, c54_holds, c54_at, c54_put, c54_add, c54_pop, c54_clear, c54_copy56, c56_size, c56_full, c56_holds, c56_at, c56_put, c56_add, c56_pop, c56_clear, c58_size, c58_full, c58_holds, c58_at, c58_put, c58_add, c58_pop, c58_clear, c60_size, c60_full, c60_holds, c60_at, c60_put, c60_add, c60_pop, c60_clear, c62_size, c62_full, c62_holds, c62_at, c62_put, c62_add, c62_pop, c62_clear, c64_size, c64_full, c64_holds, c64_at, c64_put, c64_add, c64_pop, c64_clear, c66_size, c66_full, c66_holds, c66_at, c66_put, c66_add, c66_pop, c66_clear, c66_part7, c68_size, c68_full, c68_holds, c68_at, c68_put, c68_add, c68_pop, c68_clear, c68_part7, ct_ld, ct_st, ct_ln, ck_ld, ck_ln, cp_ld5, cp_ln5, uN_s, uN_n, uA_s, uA_n, uN_uN, uA_uA, uA_id]) | (refine bq_t (by omega) ?_) | (refine bq_f (by omega) ?_) | fail)
  have fr : ∀ z : Int → Int, ∀ q : Int → Int, ∀ C', C' = ((uN (uN (uN C.1 51 12) 49 0) 49 1, uA (uA C.2.1 51 z) 49 q, C.2.2) : CS) → BF C C' := by
    intro z q C' hC
    subst hC
    refine ⟨fun k a b => ?_, fun k a b => ?_, rfl, rfl⟩
    · simp (disch := omega) only [uN_s, uN_n, uA_s, uA_n, up_s, up_n, uN_uN, uA_uA]
    · simp (disch := omega) only [uN_s, uN_n, uA_s, uA_n, up_s, up_n, uN_uN, uA_uA]
  refine b_loop (C0 := C) (B := 1 + ph (fw (opC k f s N)) N vis) (by omega) hX hB ⟨by omega, by omega⟩ (r := r) (vf := vf) ?_ t _ 0 ([(0, start)], (fun _ => -1), vis) _ _ _ rfl rfl ?_ ⟨?_, ?_, ?_, ?_, ?_, ?_⟩ hTI hF (by omega) (by omega)
  · intro C' h1 h2 h3 h4
    have := hq C' h1 h2 h3 h4
    cases r with
    | none => exact fun hb => this ⟨vf, hb, hvf rfl⟩
    | some q => exact this
  · refine ⟨fun k a b => ?_, fun k a b => ?_, rfl, rfl⟩
    · simp (disch := omega) only [uN_s, uN_n, uA_s, uA_n, up_s, up_n, uN_uN, uA_uA]
    · simp (disch := omega) only [uN_s, uN_n, uA_s, uA_n, up_s, up_n, uN_uN, uA_uA]
  · simp (disch := omega) only [uN_s, uN_n, uA_s, uA_n, up_s, up_n, uN_uN, uA_uA]
    rfl
  · simp (disch := omega) only [uN_s, uN_n, uA_s, uA_n, up_s, up_n, uN_uN, uA_uA]
    refine ⟨?_, trivial⟩
    show up (C.2.1 49) 0 start 0 = enc (0, start)
    rw [up_s]
    unfold enc
    rw [if_pos (show (0 : Int) ≤ 0 by omega)]
    show start = 0 * 64 + start
    omega
  · simp (disch := omega) only [uN_s, uN_n, uA_s, uA_n, up_s, up_n, uN_uN, uA_uA]
  · simp (disch := omega) only [uN_s, uN_n, uA_s, uA_n, up_s, up_n, uN_uN, uA_uA]
  · intro j a b
    simp (disch := omega) only [uN_s, uN_n, uA_s, uA_n, up_s, up_n, uN_uN, uA_uA]
    exact hc (j + 2) (by omega) (by omega)
  · exact hbits
end BKC
