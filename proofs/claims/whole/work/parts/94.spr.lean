/-! the class's threads: spreading -/
def uv (N : Nat) (V : List Int) : Int := sm N (fun s => if s ∈ V then 0 else 1)
theorem uv_0 {N : Nat} {V : List Int} : 0 ≤ uv N V := sm_0 (fun k _ _ => by split <;> omega)
theorem uv_cons {N : Nat} {V : List Int} {s : Int} (hs : 0 ≤ s ∧ s < N) (hn : s ∉ V) : uv N (s :: V) = uv N V - 1 := by
  unfold uv
  rw [sm_upd (f := fun s' => if s' ∈ V then 0 else 1) (k := s) hs.1 hs.2 (fun j a b c => ?_)]
  · rw [if_neg hn, if_pos (List.mem_cons_self ..)]; omega
  · by_cases hj : j ∈ V
    · rw [if_pos hj, if_pos (List.mem_cons_of_mem _ hj)]
    · rw [if_neg hj, if_neg (fun q => by rcases List.mem_cons.mp q with q | q; exact c q; exact hj q)]
theorem uv_nil {N : Nat} : uv N [] = N := by
  unfold uv
  rw [sm_ext (g := fun _ => 1) (fun k _ _ => if_neg (by simp)), sm_c]
  omega
def SW (A : Int → Int) : List Int → Prop
  | [] => True
  | s :: k => A (k.length : Int) = s ∧ SW A k
theorem SW_fr {A A' : Int → Int} : ∀ {k : List Int}, (∀ i : Int, i < k.length → A' i = A i) → SW A k → SW A' k := by
  intro k
  induction k with
  | nil => intro _ _; trivial
  | cons v k ih =>
    intro h hs
    have hl : ((v :: k).length : Int) = (k.length : Int) + 1 := by rw [List.length_cons]; rfl
    exact ⟨(h (k.length : Int) (by omega)).trans hs.1, ih (fun i hi => h i (by omega)) hs.2⟩
theorem SW_push {A : Int → Int} {k : List Int} {z : Int} (h : SW A k) : SW (up A (k.length : Int) z) (z :: k) := ⟨up_s, SW_fr (fun i hi => up_n (by omega)) h⟩
def TCe (c : Int → Int) (D : ML) : Prop := ∀ i, 0 ≤ i → i < (D.length : Int) → c i = (gl D i).1 * 64 + (gl D i).2
theorem TCe_snoc {c : Int → Int} {D : ML} {v : Int × Int} {z : Int} (h : TCe c D) (hz : z = v.1 * 64 + v.2) : TCe (up c (D.length : Int) z) (D ++ [v]) := by
  intro i i0 i1
  have hl : ((D ++ [v]).length : Int) = (D.length : Int) + 1 := by simp
  rw [gl_snoc i0]
  by_cases hi : i = (D.length : Int)
  · rw [if_pos hi, hi, up_s, hz]
  · rw [if_neg hi, if_pos (by omega), up_n hi]
    exact h i i0 (by omega)
/-- the threads that come and what they reached -/
def TKr (N : Nat) (k : Int → Int) (C : CS) (V : List Int) (D : ML) : Prop := (∀ s, 0 ≤ s → s < (N : Int) → tb C.2.2.2.2 s = decide (s ∈ V)) ∧ C.1 56 = (D.length : Int) ∧ TCe (C.2.1 56) D ∧ ∀ v, v ∈ D → 0 ≤ v.1 ∧ v.1 < (N : Int) ∧ 0 ≤ v.2 ∧ v.2 ≤ 40 ∧ (k v.1 < 5 ∨ k v.1 = 8)
def SF (C C' : CS) : Prop := (∀ k, k ≠ 56 → k ≠ 58 → C'.1 k = C.1 k) ∧ (∀ k, k ≠ 56 → k ≠ 58 → C'.2.1 k = C.2.1 k) ∧ C'.2.2.1 = C.2.2.1 ∧ C'.2.2.2.1 = C.2.2.2.1
theorem SF.refl (C : CS) : SF C C := ⟨fun _ _ _ => rfl, fun _ _ _ => rfl, rfl, rfl⟩
theorem SF.trans {A B C : CS} (h : SF A B) (h' : SF B C) : SF A C := ⟨fun k a b => (h'.1 k a b).trans (h.1 k a b), fun k a b => (h'.2.1 k a b).trans (h.2.1 k a b), h'.2.2.1.trans h.2.2.1, h'.2.2.2.trans h.2.2.2⟩
theorem sgo_nil {op : Int → Int × Int × Int} {o : Int} {V : List Int} {D : ML} : ∀ n : Nat, sgo op o n ([], V, D) = ([], V, D) := by
  intro n
  induction n with
  | zero => rfl
  | succ n ih => exact ih
section SPR
variable {X : JX} {M0 : JM} {x p d : Nat} {C0 : CS} {Q : JR → JM → Prop} {n L o first : Int} {N : Nat} {c k f s : Int → Int} {V' : List Int} {D' : ML}
theorem c_spreadL (hd : 5 ≤ d) (hX : CX2 M0 x p C0 n c N k f s L) (ho : 0 ≤ o ∧ o ≤ 40) (hq : ∀ C', SF C0 C' → TKr N k C' V' D' → (D'.length : Int) + uv N V' ≤ 61 → (0 ≤ C'.1 58 ∧ C'.1 58 ≤ 128) → Q (.inl none) (cm M0 x C')) : ∀ (m : Nat) (C : CS) (turn : Int) (K V : List Int) (D : ML) (l5 l6 l7 : Option Value), SF C0 C → TKr N k C V D → C.1 58 = (K.length : Int) → SW (C.2.1 58) K → (∀ v, v ∈ K → 0 ≤ v ∧ v < (N : Int)) → (K.length : Int) + 2 * uv N V ≤ 123 → 0 ≤ turn → turn + ((K.length : Int) + 2 * uv N V) ≤ 1000 → (D.length : Int) + uv N V ≤ 61 → sgo (opC k f s N) o m (K, V, D) = ([], V', D') → XX X d 77 (18, [some (.ref (x + 53)), some (.ref p), some (.int (ii first)), some (.int (ii o)), some (.int (ii turn)), l5, l6, l7], [], cm M0 x C) Q := by
  have hop := CX2_op hX
  obtain ⟨⟨g, lo, hi, hP⟩, hpx, e7, hL, htx, hn, hcc, hN, hst9, hk8, hfk⟩ := id hX
  intro m
  induction m with
  | zero =>
    intro C turn K V D l5 l6 l7 hSF hT h58 hSW hK hps ht0 ht1 hD hgo
    have hu := uv_0 (N := N) (V := V)
    cases hgo
    have h58' : C.1 58 = 0 := h58
    rw [x77_18]
    repeat' (first | (simp (disch := first | assumption | exact wd_n | exact wd_i | exact wd_r | exact ct_r | exact ct_i | exact stB_0 | exact stB_1 | exact stB_2 | exact stB_3 | exact stB_4 | exact stB_5 | exact ct_2 | exact b2i_c _ | exact wd_0 | exact wd_f | omega | ((simp (disch := omega) only [uN_s, uN_n, uA_s, uA_n, up_s, up_n]) <;> omega)) only [x77_0, x77_0n, x77_1, x77_4, x77_7, x77_7n, x77_8, x77_11, x77_12, x77_15, x77_16, x77_20, x77_22, x77_25, x77_25n, x77_26, x77_29, x77_32, x77_35, x77_35n, x77_36, x77_39, x77_42, x77_44, x77_45, x77_47, x77_48, x77_50, x77_50n, x77_51, x77_54, x77_56, x77_57, x77_58, x77_59, x77_59b, x77_62, x77_65, x77_65n, x77_66, x77_66n, x77_67, x77_70, x77_72, x77_73, x77_76, x77_76n, x77_77, x77_79, x77_82, x77_108, x77_108n, x77_109, x77_112, x77_112n, x77_113, x77_115, x77_118, x77_121, x77_121n, x77_122, x77_125, x77_125n, x77_126, x77_128, x77_131, x77_134, x77_137, x77_137n, x77_138, x77_141, x77_141n, x77_142, x77_144, x77_147, x77_150, x77_153, x77_153n, x77_154, x77_157, x77_159, x77_160, x77_161, x77_164, x77_167, x77_167n, x77_168, x77_171, x77_173, x77_175, x77_176, x77_177, x77_178, x77_181, x77_184, x77_187, e77, XC_v, XC_s, true_and, and_true, and_self, bq_T, bq_F, yt_s, Bool.false_eq_true, Bool.true_eq_false, rg_0, rg_1, rp_1, mset_1, mset_21, mset_eq, mset_ne, yn_I, ya_I, yw_I, mset_cl, cc_0, cf_0_0, cf_0_1, cf_0_2, cf_0_3, cf_0_4, cf_0_5, cf_0_6, cf_0_7, cf_0_8, cf_0_9, cf_0_10, cf_0_11, cf_0_12, cf_0_13, cf_0_14, cf_0_15, cs_0_4, cs_0_6, cs_0_7, cs_0_8, cc_13, cf_13_0, cf_13_1, cf_13_2, cs_13_1, cs_13_2, cc_47, cf_47_0, cf_47_1, cf_47_2, cc_53, cf_53_0, cf_53_1, cf_53_2, cf_53_3, cf_53_4, cf_53_5, cs_53_3, cs_53_4, cs_53_5, cc_5, cf_5_0, cf_5_1, cf_5_2, cs_5_1, cc_9, cf_9_0, cf_9_1, cf_9_2, cs_9_1, cc_15, cf_15_0, cf_15_1, cf_15_2, cs_15_1, cc_19, cf_19_0, cf_19_1, cf_19_2, cs_19_1, cc_23, cf_23_0, cf_23_1, cf_23_2, cs_23_1, cc_27, cf_27_0, cf_27_1, cf_27_2, cs_27_1, cc_31, cf_31_0, cf_31_1, cf_31_2, cs_31_1, cc_35, cf_35_0, cf_35_1, cf_35_2, cs_35_1, cc_39, cf_39_0, cf_39_1, cf_39_2, cs_39_1, cc_43, cf_43_0, cf_43_1, cf_43_2, cs_43_1, cc_1, cc_3, cc_7, cc_11, cc_49, cc_51, cc_54, cc_56, cc_58, cc_60, cc_62, cc_64, cc_66, cc_68, cc_17, cc_21, cc_25, cc_29, cc_33, cc_37, cc_41, cc_45, c1_size, c1_full, c1_holds, c1_at, c1_put, c1_add, c1_pop, c1_clear, c3_size, c3_full, c3_holds, c3_at, c3_put, c3_add, c3_pop, c3_clear, c7_size, c7_full, c7_holds, c7_at, c7_put, c7_add, c7_pop, c7_clear, c7_ins, c7_cut, c7_copy3, c7_copy66, c49_size, c49_full, c49_holds, c49_at, c49_put, c49_add, c49_pop, c49_clear, c51_size, c51_full, c51_holds, c51_at, c51_put, c51_add, c51_pop, c51_clear, c54_size, c54_full, c54_holds, c54_at, c54_put, c54_add, c54_pop, c54_clear, c54_copy56, c56_size, c56_full, c56_holds, c56_at, c56_put, c56_add, c56_pop, c56_clear, c58_size, c58_full, c58_holds, c58_at, c58_put, c58_add, c58_pop, c58_clear, c60_size, c60_full, c60_holds, c60_at, c60_put, c60_add, c60_pop, c60_clear, c62_size, c62_full, c62_holds, c62_at, c62_put, c62_add, c62_pop, c62_clear, c64_size, c64_full, c64_holds, c64_at, c64_put, c64_add, c64_pop, c64_clear, c66_size, c66_full, c66_holds, c66_at, c66_put, c66_add, c66_pop, c66_clear, c66_part7, c68_size, c68_full, c68_holds, c68_at, c68_put, c68_add, c68_pop, c68_clear, c68_part7, ct_ld, ct_st, ct_ln, ck_ld, ck_ln, cp_ld5, cp_ln5, uN_s, uN_n, uA_s, uA_n, uN_uN, uA_uA, h58']) | (refine bq_t (by omega) ?_) | (refine bq_f (by omega) ?_) | fail)
    exact hq C hSF hT hD (by omega)
  | succ m ih =>
    intro C turn K V D l5 l6 l7 hSF hT h58 hSW hK hps ht0 ht1 hD hgo
    have hu := uv_0 (N := N) (V := V)
    cases K with
    | nil =>
      rw [sgo_nil] at hgo
      cases hgo
      have h58' : C.1 58 = 0 := h58
      rw [x77_18]
      repeat' (first | (simp (disch := first | assumption | exact wd_n | exact wd_i | exact wd_r | exact ct_r | exact ct_i | exact stB_0 | exact stB_1 | exact stB_2 | exact stB_3 | exact stB_4 | exact stB_5 | exact ct_2 | exact b2i_c _ | exact wd_0 | exact wd_f | omega | ((simp (disch := omega) only [uN_s, uN_n, uA_s, uA_n, up_s, up_n]) <;> omega)) only [x77_0, x77_0n, x77_1, x77_4, x77_7, x77_7n, x77_8, x77_11, x77_12, x77_15, x77_16, x77_20, x77_22, x77_25, x77_25n, x77_26, x77_29, x77_32, x77_35, x77_35n, x77_36, x77_39, x77_42, x77_44, x77_45, x77_47, x77_48, x77_50, x77_50n, x77_51, x77_54, x77_56, x77_57, x77_58, x77_59, x77_59b, x77_62, x77_65, x77_65n, x77_66, x77_66n, x77_67, x77_70, x77_72, x77_73, x77_76, x77_76n, x77_77, x77_79, x77_82, x77_108, x77_108n, x77_109, x77_112, x77_112n, x77_113, x77_115, x77_118, x77_121, x77_121n, x77_122, x77_125, x77_125n, x77_126, x77_128, x77_131, x77_134, x77_137, x77_137n, x77_138, x77_141, x77_141n, x77_142, x77_144, x77_147, x77_150, x77_153, x77_153n, x77_154, x77_157, x77_159, x77_160, x77_161, x77_164, x77_167, x77_167n, x77_168, x77_171, x77_173, x77_175, x77_176, x77_177, x77_178, x77_181, x77_184, x77_187, e77, XC_v, XC_s, true_and, and_true, and_self, bq_T, bq_F, yt_s, Bool.false_eq_true, Bool.true_eq_false, rg_0, rg_1, rp_1, mset_1, mset_21, mset_eq, mset_ne, yn_I, ya_I, yw_I, mset_cl, cc_0, cf_0_0, cf_0_1, cf_0_2, cf_0_3, cf_0_4, cf_0_5, cf_0_6, cf_0_7, cf_0_8, cf_0_9, cf_0_10, cf_0_11, cf_0_12, cf_0_13, cf_0_14, cf_0_15, cs_0_4, cs_0_6, cs_0_7, cs_0_8, cc_13, cf_13_0, cf_13_1, cf_13_2, cs_13_1, cs_13_2, cc_47, cf_47_0, cf_47_1, cf_47_2, cc_53, cf_53_0, cf_53_1, cf_53_2, cf_53_3, cf_53_4, cf_53_5, cs_53_3, cs_53_4, cs_53_5, cc_5, cf_5_0, cf_5_1, cf_5_2, cs_5_1, cc_9, cf_9_0, cf_9_1, cf_9_2, cs_9_1, cc_15, cf_15_0, cf_15_1, cf_15_2, cs_15_1, cc_19, cf_19_0, cf_19_1, cf_19_2, cs_19_1, cc_23, cf_23_0, cf_23_1, cf_23_2, cs_23_1, cc_27, cf_27_0, cf_27_1, cf_27_2, cs_27_1, cc_31, cf_31_0, cf_31_1, cf_31_2, cs_31_1, cc_35, cf_35_0, cf_35_1, cf_35_2, cs_35_1, cc_39, cf_39_0, cf_39_1, cf_39_2, cs_39_1, cc_43, cf_43_0, cf_43_1, cf_43_2, cs_43_1, cc_1, cc_3, cc_7, cc_11, cc_49, cc_51, cc_54, cc_56, cc_58, cc_60, cc_62, cc_64, cc_66, cc_68, cc_17, cc_21, cc_25, cc_29, cc_33, cc_37, cc_41, cc_45, c1_size, c1_full, c1_holds, c1_at, c1_put, c1_add, c1_pop, c1_clear, c3_size, c3_full, c3_holds, c3_at, c3_put, c3_add, c3_pop, c3_clear, c7_size, c7_full, c7_holds, c7_at, c7_put, c7_add, c7_pop, c7_clear, c7_ins, c7_cut, c7_copy3, c7_copy66, c49_size, c49_full, c49_holds, c49_at, c49_put, c49_add, c49_pop, c49_clear, c51_size, c51_full, c51_holds, c51_at, c51_put, c51_add, c51_pop, c51_clear, c54_size, c54_full, c54_holds, c54_at, c54_put, c54_add, c54_pop, c54_clear, c54_copy56, c56_size, c56_full, c56_holds, c56_at, c56_put, c56_add, c56_pop, c56_clear, c58_size, c58_full, c58_holds, c58_at, c58_put, c58_add, c58_pop, c58_clear, c60_size, c60_full, c60_holds, c60_at, c60_put, c60_add, c60_pop, c60_clear, c62_size, c62_full, c62_holds, c62_at, c62_put, c62_add, c62_pop, c62_clear, c64_size, c64_full, c64_holds, c64_at, c64_put, c64_add, c64_pop, c64_clear, c66_size, c66_full, c66_holds, c66_at, c66_put, c66_add, c66_pop, c66_clear, c66_part7, c68_size, c68_full, c68_holds, c68_at, c68_put, c68_add, c68_pop, c68_clear, c68_part7, ct_ld, ct_st, ct_ln, ck_ld, ck_ln, cp_ld5, cp_ln5, uN_s, uN_n, uA_s, uA_n, uN_uN, uA_uA, h58']) | (refine bq_t (by omega) ?_) | (refine bq_f (by omega) ?_) | fail)
      exact hq C hSF hT hD (by omega)
    | cons a K =>
      have hlen : ((a :: K).length : Int) = (K.length : Int) + 1 := by rw [List.length_cons]; rfl
      rw [hlen] at h58 hps ht1
      obtain ⟨w1, w2⟩ := hSW
      obtain ⟨t1, t2, t3, t4⟩ := hT
      have ha := hK a (List.mem_cons_self ..)
      have hK' : ∀ v, v ∈ K → 0 ≤ v ∧ v < (N : Int) := fun v hv => hK v (List.mem_cons_of_mem _ hv)
      have em : (Int64.ofInt 1 <<< ((ii a).toInt64 &&& 63)) = msk a := rfl
      obtain ⟨z, hz, hz1, hz2, hz3⟩ := cmp_0 (C.2.2.2.2 &&& msk a)
      have htb := t1 a ha.1 ha.2
      have hgo' : sgo (opC k f s N) o m (sst (opC k f s N) o (a :: K, V, D)) = ([], V', D') := hgo
      by_cases hin : a ∈ V
      · rw [decide_eq_true hin] at htb
        unfold tb at htb
        have hzz : z ≠ 0 := fun q => (of_decide_eq_true htb) (hz3.mp q)
        have hs : sst (opC k f s N) o (a :: K, V, D) = (K, V, D) := by show (if a ∈ V then _ else _) = _; rw [if_pos hin]
        rw [hs] at hgo'
        rw [x77_18]
        repeat' (first | (simp (disch := first | assumption | exact wd_n | exact wd_i | exact wd_r | exact ct_r | exact ct_i | exact stB_0 | exact stB_1 | exact stB_2 | exact stB_3 | exact stB_4 | exact stB_5 | exact ct_2 | exact b2i_c _ | exact wd_0 | exact wd_f | omega | ((simp (disch := omega) only [uN_s, uN_n, uA_s, uA_n, up_s, up_n]) <;> omega)) only [x77_0, x77_0n, x77_1, x77_4, x77_7, x77_7n, x77_8, x77_11, x77_12, x77_15, x77_16, x77_20, x77_22, x77_25, x77_25n, x77_26, x77_29, x77_32, x77_35, x77_35n, x77_36, x77_39, x77_42, x77_44, x77_45, x77_47, x77_48, x77_50, x77_50n, x77_51, x77_54, x77_56, x77_57, x77_58, x77_59, x77_59b, x77_62, x77_65, x77_65n, x77_66, x77_66n, x77_67, x77_70, x77_72, x77_73, x77_76, x77_76n, x77_77, x77_79, x77_82, x77_108, x77_108n, x77_109, x77_112, x77_112n, x77_113, x77_115, x77_118, x77_121, x77_121n, x77_122, x77_125, x77_125n, x77_126, x77_128, x77_131, x77_134, x77_137, x77_137n, x77_138, x77_141, x77_141n, x77_142, x77_144, x77_147, x77_150, x77_153, x77_153n, x77_154, x77_157, x77_159, x77_160, x77_161, x77_164, x77_167, x77_167n, x77_168, x77_171, x77_173, x77_175, x77_176, x77_177, x77_178, x77_181, x77_184, x77_187, e77, XC_v, XC_s, true_and, and_true, and_self, bq_T, bq_F, yt_s, Bool.false_eq_true, Bool.true_eq_false, rg_0, rg_1, rp_1, mset_1, mset_21, mset_eq, mset_ne, yn_I, ya_I, yw_I, mset_cl, cc_0, cf_0_0, cf_0_1, cf_0_2, cf_0_3, cf_0_4, cf_0_5, cf_0_6, cf_0_7, cf_0_8, cf_0_9, cf_0_10, cf_0_11, cf_0_12, cf_0_13, cf_0_14, cf_0_15, cs_0_4, cs_0_6, cs_0_7, cs_0_8, cc_13, cf_13_0, cf_13_1, cf_13_2, cs_13_1, cs_13_2, cc_47, cf_47_0, cf_47_1, cf_47_2, cc_53, cf_53_0, cf_53_1, cf_53_2, cf_53_3, cf_53_4, cf_53_5, cs_53_3, cs_53_4, cs_53_5, cc_5, cf_5_0, cf_5_1, cf_5_2, cs_5_1, cc_9, cf_9_0, cf_9_1, cf_9_2, cs_9_1, cc_15, cf_15_0, cf_15_1, cf_15_2, cs_15_1, cc_19, cf_19_0, cf_19_1, cf_19_2, cs_19_1, cc_23, cf_23_0, cf_23_1, cf_23_2, cs_23_1, cc_27, cf_27_0, cf_27_1, cf_27_2, cs_27_1, cc_31, cf_31_0, cf_31_1, cf_31_2, cs_31_1, cc_35, cf_35_0, cf_35_1, cf_35_2, cs_35_1, cc_39, cf_39_0, cf_39_1, cf_39_2, cs_39_1, cc_43, cf_43_0, cf_43_1, cf_43_2, cs_43_1, cc_1, cc_3, cc_7, cc_11, cc_49, cc_51, cc_54, cc_56, cc_58, cc_60, cc_62, cc_64, cc_66, cc_68, cc_17, cc_21, cc_25, cc_29, cc_33, cc_37, cc_41, cc_45, c1_size, c1_full, c1_holds, c1_at, c1_put, c1_add, c1_pop, c1_clear, c3_size, c3_full, c3_holds, c3_at, c3_put, c3_add, c3_pop, c3_clear, c7_size, c7_full, c7_holds, c7_at, c7_put, c7_add, c7_pop, c7_clear, c7_ins, c7_cut, c7_copy3, c7_copy66, c49_size, c49_full, c49_holds, c49_at, c49_put, c49_add, c49_pop, c49_clear, c51_size, c51_full, c51_holds, c51_at, c51_put, c51_add, c51_pop, c51_clear, c54_size, c54_full, c54_holds, c54_at, c54_put, c54_add, c54_pop, c54_clear, c54_copy56, c56_size, c56_full, c56_holds, c56_at, c56_put, c56_add, c56_pop, c56_clear, c58_size, c58_full, c58_holds, c58_at, c58_put, c58_add, c58_pop, c58_clear, c60_size, c60_full, c60_holds, c60_at, c60_put, c60_add, c60_pop, c60_clear, c62_size, c62_full, c62_holds, c62_at, c62_put, c62_add, c62_pop, c62_clear, c64_size, c64_full, c64_holds, c64_at, c64_put, c64_add, c64_pop, c64_clear, c66_size, c66_full, c66_holds, c66_at, c66_put, c66_add, c66_pop, c66_clear, c66_part7, c68_size, c68_full, c68_holds, c68_at, c68_put, c68_add, c68_pop, c68_clear, c68_part7, ct_ld, ct_st, ct_ln, ck_ld, ck_ln, cp_ld5, cp_ln5, uN_s, uN_n, uA_s, uA_n, uN_uN, uA_uA, h58, Int.add_sub_cancel, w1, em, hz, uA_id]) | (refine bq_t (by omega) ?_) | (refine bq_f (by omega) ?_) | fail)
        refine ih _ (turn + 1) K V D _ _ _ ?_ ⟨t1, ?_, t3, t4⟩ ?_ w2 hK' (by omega) (by omega) (by omega) hD hgo'
        · refine hSF.trans ⟨fun k a b => ?_, fun k a b => rfl, rfl, rfl⟩
          simp (disch := omega) only [uN_s, uN_n, uA_s, uA_n, up_s, up_n, uN_uN, uA_uA]
        · simp (disch := omega) only [uN_s, uN_n, uA_s, uA_n, up_s, up_n, uN_uN, uA_uA]
          exact t2
        · simp (disch := omega) only [uN_s, uN_n, uA_s, uA_n, up_s, up_n, uN_uN, uA_uA]
      rw [decide_eq_false hin] at htb
      unfold tb at htb
      have hne : C.2.2.2.2 &&& msk a = 0 := by
        by_cases hx : C.2.2.2.2 &&& msk a = 0
        · exact hx
        · rw [decide_eq_true hx] at htb; cases htb
      have hzz : z = 0 := hz3.mpr hne
      have huc := uv_cons (N := N) (V := V) (s := a) ha hin
      have hbits : ∀ s, 0 ≤ s → s < (N : Int) → tb (C.2.2.2.2 ||| msk a) s = decide (s ∈ a :: V) := by
        intro s s0 s1
        rw [tb_or (by omega) (by omega), t1 s s0 s1]
        have hmem : s ∈ a :: V ↔ s = a ∨ s ∈ V := List.mem_cons
        by_cases hs : a = s
        · rw [decide_eq_true hs, Bool.or_true, decide_eq_true (hmem.mpr (Or.inl hs.symm))]
        · rw [decide_eq_false hs, Bool.or_false]
          by_cases hv : s ∈ V
          · rw [decide_eq_true hv, decide_eq_true (hmem.mpr (Or.inr hv))]
          · rw [decide_eq_false hv, decide_eq_false (fun q => by rcases hmem.mp q with q | q; exact hs q.symm; exact hv q)]
      have hk := fun (d : Nat) (Q : JR → JM → Prop) (C : CS) (hd : 1 ≤ d) => P_kind (X := X) (Q := Q) hd (PAO_cm (x := x) (C := C) hP (Or.inr hpx)) (i := a) ha
      have hf := fun (d : Nat) (Q : JR → JM → Prop) (C : CS) (hd : 1 ≤ d) => P_first (X := X) (Q := Q) hd (PAO_cm (x := x) (C := C) hP (Or.inr hpx)) (i := a) ha
      have hs := fun (d : Nat) (Q : JR → JM → Prop) (C : CS) (hd : 1 ≤ d) => P_second (X := X) (Q := Q) hd (PAO_cm (x := x) (C := C) hP (Or.inr hpx)) (i := a) ha
      unfold rt at hk hf hs
      have hcl : ∀ C, mcl (cm M0 x C) p = some 4 := fun C => (PAO_cm (x := x) (C := C) hP (Or.inr hpx)).cl
      have hopa := hop a ha.1 ha.2
      have hss : ∀ T', (if (opC k f s N a).1 = 1 then (((opC k f s N a).2.1 :: (opC k f s N a).2.2 :: K, a :: V, D) : ST) else if (opC k f s N a).1 = 2 then ((opC k f s N a).2.1 :: K, a :: V, D) else if (opC k f s N a).1 = 3 then ((a + 1) :: K, a :: V, D) else (K, a :: V, D ++ [(a, o)])) = T' → sgo (opC k f s N) o m T' = ([], V', D') := fun T' hT' => by
        have e : sst (opC k f s N) o (a :: K, V, D) = T' := by
          rw [← hT']
          show (if a ∈ V then _ else _) = _
          rw [if_neg hin]
        rw [← e]; exact hgo'
      by_cases e5 : k a = 5
      · have sw : (if k a < 5 ∨ 7 < k a then some 167 else ([108, 137, 153] : List Nat)[(k a - 5).toNat]?) = some 108 := by rw [e5]; rfl
        have eo := opC_5 (f := f) (s := s) (N := (N : Int)) ha.2 e5
        rw [eo] at hss hopa
        have h3 := hopa.2.2.2.1 rfl
        simp only at h3
        rw [x77_18]
        repeat' (first | (simp (disch := first | assumption | exact wd_n | exact wd_i | exact wd_r | exact ct_r | exact ct_i | exact stB_0 | exact stB_1 | exact stB_2 | exact stB_3 | exact stB_4 | exact stB_5 | exact ct_2 | exact b2i_c _ | exact wd_0 | exact wd_f | omega | ((simp (disch := omega) only [uN_s, uN_n, uA_s, uA_n, up_s, up_n]) <;> omega)) only [x77_0, x77_0n, x77_1, x77_4, x77_7, x77_7n, x77_8, x77_11, x77_12, x77_15, x77_16, x77_20, x77_22, x77_25, x77_25n, x77_26, x77_29, x77_32, x77_35, x77_35n, x77_36, x77_39, x77_42, x77_44, x77_45, x77_47, x77_48, x77_50, x77_50n, x77_51, x77_54, x77_56, x77_57, x77_58, x77_59, x77_59b, x77_62, x77_65, x77_65n, x77_66, x77_66n, x77_67, x77_70, x77_72, x77_73, x77_76, x77_76n, x77_77, x77_79, x77_82, x77_108, x77_108n, x77_109, x77_112, x77_112n, x77_113, x77_115, x77_118, x77_121, x77_121n, x77_122, x77_125, x77_125n, x77_126, x77_128, x77_131, x77_134, x77_137, x77_137n, x77_138, x77_141, x77_141n, x77_142, x77_144, x77_147, x77_150, x77_153, x77_153n, x77_154, x77_157, x77_159, x77_160, x77_161, x77_164, x77_167, x77_167n, x77_168, x77_171, x77_173, x77_175, x77_176, x77_177, x77_178, x77_181, x77_184, x77_187, e77, XC_v, XC_s, true_and, and_true, and_self, bq_T, bq_F, yt_s, Bool.false_eq_true, Bool.true_eq_false, rg_0, rg_1, rp_1, mset_1, mset_21, mset_eq, mset_ne, yn_I, ya_I, yw_I, mset_cl, cc_0, cf_0_0, cf_0_1, cf_0_2, cf_0_3, cf_0_4, cf_0_5, cf_0_6, cf_0_7, cf_0_8, cf_0_9, cf_0_10, cf_0_11, cf_0_12, cf_0_13, cf_0_14, cf_0_15, cs_0_4, cs_0_6, cs_0_7, cs_0_8, cc_13, cf_13_0, cf_13_1, cf_13_2, cs_13_1, cs_13_2, cc_47, cf_47_0, cf_47_1, cf_47_2, cc_53, cf_53_0, cf_53_1, cf_53_2, cf_53_3, cf_53_4, cf_53_5, cs_53_3, cs_53_4, cs_53_5, cc_5, cf_5_0, cf_5_1, cf_5_2, cs_5_1, cc_9, cf_9_0, cf_9_1, cf_9_2, cs_9_1, cc_15, cf_15_0, cf_15_1, cf_15_2, cs_15_1, cc_19, cf_19_0, cf_19_1, cf_19_2, cs_19_1, cc_23, cf_23_0, cf_23_1, cf_23_2, cs_23_1, cc_27, cf_27_0, cf_27_1, cf_27_2, cs_27_1, cc_31, cf_31_0, cf_31_1, cf_31_2, cs_31_1, cc_35, cf_35_0, cf_35_1, cf_35_2, cs_35_1, cc_39, cf_39_0, cf_39_1, cf_39_2, cs_39_1, cc_43, cf_43_0, cf_43_1, cf_43_2, cs_43_1, cc_1, cc_3, cc_7, cc_11, cc_49, cc_51, cc_54, cc_56, cc_58, cc_60, cc_62, cc_64, cc_66, cc_68, cc_17, cc_21, cc_25, cc_29, cc_33, cc_37, cc_41, cc_45, c1_size, c1_full, c1_holds, c1_at, c1_put, c1_add, c1_pop, c1_clear, c3_size, c3_full, c3_holds, c3_at, c3_put, c3_add, c3_pop, c3_clear, c7_size, c7_full, c7_holds, c7_at, c7_put, c7_add, c7_pop, c7_clear, c7_ins, c7_cut, c7_copy3, c7_copy66, c49_size, c49_full, c49_holds, c49_at, c49_put, c49_add, c49_pop, c49_clear, c51_size, c51_full, c51_holds, c51_at, c51_put, c51_add, c51_pop, c51_clear, c54_size, c54_full, c54_holds, c54_at, c54_put, c54_add, c54_pop, c54_clear, c54_copy56, c56_size, c56_full, c56_holds, c56_at, c56_put, c56_add, c56_pop, c56_clear, c58_size, c58_full, c58_holds, c58_at, c58_put, c58_add, c58_pop, c58_clear, c60_size, c60_full, c60_holds, c60_at, c60_put, c60_add, c60_pop, c60_clear, c62_size, c62_full, c62_holds, c62_at, c62_put, c62_add, c62_pop, c62_clear, c64_size, c64_full, c64_holds, c64_at, c64_put, c64_add, c64_pop, c64_clear, c66_size, c66_full, c66_holds, c66_at, c66_put, c66_add, c66_pop, c66_clear, c66_part7, c68_size, c68_full, c68_holds, c68_at, c68_put, c68_add, c68_pop, c68_clear, c68_part7, ct_ld, ct_st, ct_ln, ck_ld, ck_ln, cp_ld5, cp_ln5, uN_s, uN_n, uA_s, uA_n, uN_uN, uA_uA, h58, Int.add_sub_cancel, w1, em, hz, uA_id, hk, hf, hs, hcl, sw]) | (refine bq_t (by omega) ?_) | (refine bq_f (by omega) ?_) | fail)
        refine ih _ (turn + 1) ((a + f a) :: (a + s a) :: K) (a :: V) D _ _ _ ?_ ⟨hbits, ?_, ?_, t4⟩ ?_ ?_ ?_ (by simp only [List.length_cons]; omega) (by omega) (by simp only [List.length_cons]; omega) (by omega) (hss _ rfl)
        · refine hSF.trans ⟨fun k a b => ?_, fun k a b => ?_, rfl, rfl⟩
          · simp (disch := omega) only [uN_s, uN_n, uA_s, uA_n, up_s, up_n, uN_uN, uA_uA]
          · simp (disch := omega) only [uN_s, uN_n, uA_s, uA_n, up_s, up_n, uN_uN, uA_uA]
        · simp (disch := omega) only [uN_s, uN_n, uA_s, uA_n, up_s, up_n, uN_uN, uA_uA]
          exact t2
        · simp (disch := omega) only [uN_s, uN_n, uA_s, uA_n, up_s, up_n, uN_uN, uA_uA]
          exact t3
        · simp (disch := omega) only [uN_s, uN_n, uA_s, uA_n, up_s, up_n, uN_uN, uA_uA]
          simp only [List.length_cons]
          omega
        · simp (disch := omega) only [uN_s, uN_n, uA_s, uA_n, up_s, up_n, uN_uN, uA_uA]
          exact SW_push (k := (a + s a) :: K) (SW_push w2)
        · intro v hv
          rcases List.mem_cons.mp hv with rfl | hv
          · omega
          rcases List.mem_cons.mp hv with rfl | hv
          · omega
          · exact hK' v hv
      by_cases e6 : k a = 6
      · have sw : (if k a < 5 ∨ 7 < k a then some 167 else ([108, 137, 153] : List Nat)[(k a - 5).toNat]?) = some 137 := by rw [e6]; rfl
        have eo := opC_6 (f := f) (s := s) (N := (N : Int)) ha.2 e6
        rw [eo] at hss hopa
        have h3 := hopa.2.2.2.2.1 rfl
        simp only at h3
        rw [x77_18]
        repeat' (first | (simp (disch := first | assumption | exact wd_n | exact wd_i | exact wd_r | exact ct_r | exact ct_i | exact stB_0 | exact stB_1 | exact stB_2 | exact stB_3 | exact stB_4 | exact stB_5 | exact ct_2 | exact b2i_c _ | exact wd_0 | exact wd_f | omega | ((simp (disch := omega) only [uN_s, uN_n, uA_s, uA_n, up_s, up_n]) <;> omega)) only [x77_0, x77_0n, x77_1, x77_4, x77_7, x77_7n, x77_8, x77_11, x77_12, x77_15, x77_16, x77_20, x77_22, x77_25, x77_25n, x77_26, x77_29, x77_32, x77_35, x77_35n, x77_36, x77_39, x77_42, x77_44, x77_45, x77_47, x77_48, x77_50, x77_50n, x77_51, x77_54, x77_56, x77_57, x77_58, x77_59, x77_59b, x77_62, x77_65, x77_65n, x77_66, x77_66n, x77_67, x77_70, x77_72, x77_73, x77_76, x77_76n, x77_77, x77_79, x77_82, x77_108, x77_108n, x77_109, x77_112, x77_112n, x77_113, x77_115, x77_118, x77_121, x77_121n, x77_122, x77_125, x77_125n, x77_126, x77_128, x77_131, x77_134, x77_137, x77_137n, x77_138, x77_141, x77_141n, x77_142, x77_144, x77_147, x77_150, x77_153, x77_153n, x77_154, x77_157, x77_159, x77_160, x77_161, x77_164, x77_167, x77_167n, x77_168, x77_171, x77_173, x77_175, x77_176, x77_177, x77_178, x77_181, x77_184, x77_187, e77, XC_v, XC_s, true_and, and_true, and_self, bq_T, bq_F, yt_s, Bool.false_eq_true, Bool.true_eq_false, rg_0, rg_1, rp_1, mset_1, mset_21, mset_eq, mset_ne, yn_I, ya_I, yw_I, mset_cl, cc_0, cf_0_0, cf_0_1, cf_0_2, cf_0_3, cf_0_4, cf_0_5, cf_0_6, cf_0_7, cf_0_8, cf_0_9, cf_0_10, cf_0_11, cf_0_12, cf_0_13, cf_0_14, cf_0_15, cs_0_4, cs_0_6, cs_0_7, cs_0_8, cc_13, cf_13_0, cf_13_1, cf_13_2, cs_13_1, cs_13_2, cc_47, cf_47_0, cf_47_1, cf_47_2, cc_53, cf_53_0, cf_53_1, cf_53_2, cf_53_3, cf_53_4, cf_53_5, cs_53_3, cs_53_4, cs_53_5, cc_5, cf_5_0, cf_5_1, cf_5_2, cs_5_1, cc_9, cf_9_0, cf_9_1, cf_9_2, cs_9_1, cc_15, cf_15_0, cf_15_1, cf_15_2, cs_15_1, cc_19, cf_19_0, cf_19_1, cf_19_2, cs_19_1, cc_23, cf_23_0, cf_23_1, cf_23_2, cs_23_1, cc_27, cf_27_0, cf_27_1, cf_27_2, cs_27_1, cc_31, cf_31_0, cf_31_1, cf_31_2, cs_31_1, cc_35, cf_35_0, cf_35_1, cf_35_2, cs_35_1, cc_39, cf_39_0, cf_39_1, cf_39_2, cs_39_1, cc_43, cf_43_0, cf_43_1, cf_43_2, cs_43_1, cc_1, cc_3, cc_7, cc_11, cc_49, cc_51, cc_54, cc_56, cc_58, cc_60, cc_62, cc_64, cc_66, cc_68, cc_17, cc_21, cc_25, cc_29, cc_33, cc_37, cc_41, cc_45, c1_size, c1_full, c1_holds, c1_at, c1_put, c1_add, c1_pop, c1_clear, c3_size, c3_full, c3_holds, c3_at, c3_put, c3_add, c3_pop, c3_clear, c7_size, c7_full, c7_holds, c7_at, c7_put, c7_add, c7_pop, c7_clear, c7_ins, c7_cut, c7_copy3, c7_copy66, c49_size, c49_full, c49_holds, c49_at, c49_put, c49_add, c49_pop, c49_clear, c51_size, c51_full, c51_holds, c51_at, c51_put, c51_add, c51_pop, c51_clear, c54_size, c54_full, c54_holds, c54_at, c54_put, c54_add, c54_pop, c54_clear, c54_copy56, c56_size, c56_full, c56_holds, c56_at, c56_put, c56_add, c56_pop, c56_clear, c58_size, c58_full, c58_holds, c58_at, c58_put, c58_add, c58_pop, c58_clear, c60_size, c60_full, c60_holds, c60_at, c60_put, c60_add, c60_pop, c60_clear, c62_size, c62_full, c62_holds, c62_at, c62_put, c62_add, c62_pop, c62_clear, c64_size, c64_full, c64_holds, c64_at, c64_put, c64_add, c64_pop, c64_clear, c66_size, c66_full, c66_holds, c66_at, c66_put, c66_add, c66_pop, c66_clear, c66_part7, c68_size, c68_full, c68_holds, c68_at, c68_put, c68_add, c68_pop, c68_clear, c68_part7, ct_ld, ct_st, ct_ln, ck_ld, ck_ln, cp_ld5, cp_ln5, uN_s, uN_n, uA_s, uA_n, uN_uN, uA_uA, h58, Int.add_sub_cancel, w1, em, hz, uA_id, hk, hf, hs, hcl, sw]) | (refine bq_t (by omega) ?_) | (refine bq_f (by omega) ?_) | fail)
        refine ih _ (turn + 1) ((a + f a) :: K) (a :: V) D _ _ _ ?_ ⟨hbits, ?_, ?_, t4⟩ ?_ ?_ ?_ (by simp only [List.length_cons]; omega) (by omega) (by simp only [List.length_cons]; omega) (by omega) (hss _ rfl)
        · refine hSF.trans ⟨fun k a b => ?_, fun k a b => ?_, rfl, rfl⟩
          · simp (disch := omega) only [uN_s, uN_n, uA_s, uA_n, up_s, up_n, uN_uN, uA_uA]
          · simp (disch := omega) only [uN_s, uN_n, uA_s, uA_n, up_s, up_n, uN_uN, uA_uA]
        · simp (disch := omega) only [uN_s, uN_n, uA_s, uA_n, up_s, up_n, uN_uN, uA_uA]
          exact t2
        · simp (disch := omega) only [uN_s, uN_n, uA_s, uA_n, up_s, up_n, uN_uN, uA_uA]
          exact t3
        · simp (disch := omega) only [uN_s, uN_n, uA_s, uA_n, up_s, up_n, uN_uN, uA_uA]
          simp only [List.length_cons]
          omega
        · simp (disch := omega) only [uN_s, uN_n, uA_s, uA_n, up_s, up_n, uN_uN, uA_uA]
          exact SW_push w2
        · intro v hv
          rcases List.mem_cons.mp hv with rfl | hv
          · omega
          · exact hK' v hv
      by_cases e7' : k a = 7
      · have sw : (if k a < 5 ∨ 7 < k a then some 167 else ([108, 137, 153] : List Nat)[(k a - 5).toNat]?) = some 153 := by rw [e7']; rfl
        have eo := opC_7 (f := f) (s := s) (N := (N : Int)) ha.2 e7'
        rw [eo] at hss hopa
        have h3 := hopa.2.2.2.2.2 rfl
        rw [x77_18]
        repeat' (first | (simp (disch := first | assumption | exact wd_n | exact wd_i | exact wd_r | exact ct_r | exact ct_i | exact stB_0 | exact stB_1 | exact stB_2 | exact stB_3 | exact stB_4 | exact stB_5 | exact ct_2 | exact b2i_c _ | exact wd_0 | exact wd_f | omega | ((simp (disch := omega) only [uN_s, uN_n, uA_s, uA_n, up_s, up_n]) <;> omega)) only [x77_0, x77_0n, x77_1, x77_4, x77_7, x77_7n, x77_8, x77_11, x77_12, x77_15, x77_16, x77_20, x77_22, x77_25, x77_25n, x77_26, x77_29, x77_32, x77_35, x77_35n, x77_36, x77_39, x77_42, x77_44, x77_45, x77_47, x77_48, x77_50, x77_50n, x77_51, x77_54, x77_56, x77_57, x77_58, x77_59, x77_59b, x77_62, x77_65, x77_65n, x77_66, x77_66n, x77_67, x77_70, x77_72, x77_73, x77_76, x77_76n, x77_77, x77_79, x77_82, x77_108, x77_108n, x77_109, x77_112, x77_112n, x77_113, x77_115, x77_118, x77_121, x77_121n, x77_122, x77_125, x77_125n, x77_126, x77_128, x77_131, x77_134, x77_137, x77_137n, x77_138, x77_141, x77_141n, x77_142, x77_144, x77_147, x77_150, x77_153, x77_153n, x77_154, x77_157, x77_159, x77_160, x77_161, x77_164, x77_167, x77_167n, x77_168, x77_171, x77_173, x77_175, x77_176, x77_177, x77_178, x77_181, x77_184, x77_187, e77, XC_v, XC_s, true_and, and_true, and_self, bq_T, bq_F, yt_s, Bool.false_eq_true, Bool.true_eq_false, rg_0, rg_1, rp_1, mset_1, mset_21, mset_eq, mset_ne, yn_I, ya_I, yw_I, mset_cl, cc_0, cf_0_0, cf_0_1, cf_0_2, cf_0_3, cf_0_4, cf_0_5, cf_0_6, cf_0_7, cf_0_8, cf_0_9, cf_0_10, cf_0_11, cf_0_12, cf_0_13, cf_0_14, cf_0_15, cs_0_4, cs_0_6, cs_0_7, cs_0_8, cc_13, cf_13_0, cf_13_1, cf_13_2, cs_13_1, cs_13_2, cc_47, cf_47_0, cf_47_1, cf_47_2, cc_53, cf_53_0, cf_53_1, cf_53_2, cf_53_3, cf_53_4, cf_53_5, cs_53_3, cs_53_4, cs_53_5, cc_5, cf_5_0, cf_5_1, cf_5_2, cs_5_1, cc_9, cf_9_0, cf_9_1, cf_9_2, cs_9_1, cc_15, cf_15_0, cf_15_1, cf_15_2, cs_15_1, cc_19, cf_19_0, cf_19_1, cf_19_2, cs_19_1, cc_23, cf_23_0, cf_23_1, cf_23_2, cs_23_1, cc_27, cf_27_0, cf_27_1, cf_27_2, cs_27_1, cc_31, cf_31_0, cf_31_1, cf_31_2, cs_31_1, cc_35, cf_35_0, cf_35_1, cf_35_2, cs_35_1, cc_39, cf_39_0, cf_39_1, cf_39_2, cs_39_1, cc_43, cf_43_0, cf_43_1, cf_43_2, cs_43_1, cc_1, cc_3, cc_7, cc_11, cc_49, cc_51, cc_54, cc_56, cc_58, cc_60, cc_62, cc_64, cc_66, cc_68, cc_17, cc_21, cc_25, cc_29, cc_33, cc_37, cc_41, cc_45, c1_size, c1_full, c1_holds, c1_at, c1_put, c1_add, c1_pop, c1_clear, c3_size, c3_full, c3_holds, c3_at, c3_put, c3_add, c3_pop, c3_clear, c7_size, c7_full, c7_holds, c7_at, c7_put, c7_add, c7_pop, c7_clear, c7_ins, c7_cut, c7_copy3, c7_copy66, c49_size, c49_full, c49_holds, c49_at, c49_put, c49_add, c49_pop, c49_clear, c51_size, c51_full, c51_holds, c51_at, c51_put, c51_add, c51_pop, c51_clear, c54_size, c54_full, c54_holds, c54_at, c54_put, c54_add, c54_pop, c54_clear, c54_copy56, c56_size, c56_full, c56_holds, c56_at, c56_put, c56_add, c56_pop, c56_clear, c58_size, c58_full, c58_holds, c58_at, c58_put, c58_add, c58_pop, c58_clear, c60_size, c60_full, c60_holds, c60_at, c60_put, c60_add, c60_pop, c60_clear, c62_size, c62_full, c62_holds, c62_at, c62_put, c62_add, c62_pop, c62_clear, c64_size, c64_full, c64_holds, c64_at, c64_put, c64_add, c64_pop, c64_clear, c66_size, c66_full, c66_holds, c66_at, c66_put, c66_add, c66_pop, c66_clear, c66_part7, c68_size, c68_full, c68_holds, c68_at, c68_put, c68_add, c68_pop, c68_clear, c68_part7, ct_ld, ct_st, ct_ln, ck_ld, ck_ln, cp_ld5, cp_ln5, uN_s, uN_n, uA_s, uA_n, uN_uN, uA_uA, h58, Int.add_sub_cancel, w1, em, hz, uA_id, hk, hf, hs, hcl, sw]) | (refine bq_t (by omega) ?_) | (refine bq_f (by omega) ?_) | fail)
        refine ih _ (turn + 1) ((a + 1) :: K) (a :: V) D _ _ _ ?_ ⟨hbits, ?_, ?_, t4⟩ ?_ ?_ ?_ (by simp only [List.length_cons]; omega) (by omega) (by simp only [List.length_cons]; omega) (by omega) (hss _ rfl)
        · refine hSF.trans ⟨fun k a b => ?_, fun k a b => ?_, rfl, rfl⟩
          · simp (disch := omega) only [uN_s, uN_n, uA_s, uA_n, up_s, up_n, uN_uN, uA_uA]
          · simp (disch := omega) only [uN_s, uN_n, uA_s, uA_n, up_s, up_n, uN_uN, uA_uA]
        · simp (disch := omega) only [uN_s, uN_n, uA_s, uA_n, up_s, up_n, uN_uN, uA_uA]
          exact t2
        · simp (disch := omega) only [uN_s, uN_n, uA_s, uA_n, up_s, up_n, uN_uN, uA_uA]
          exact t3
        · simp (disch := omega) only [uN_s, uN_n, uA_s, uA_n, up_s, up_n, uN_uN, uA_uA]
          simp only [List.length_cons]
          omega
        · simp (disch := omega) only [uN_s, uN_n, uA_s, uA_n, up_s, up_n, uN_uN, uA_uA]
          exact SW_push w2
        · intro v hv
          rcases List.mem_cons.mp hv with rfl | hv
          · omega
          · exact hK' v hv
      · have hne3 : (opC k f s N a).1 ≠ 1 ∧ (opC k f s N a).1 ≠ 2 ∧ (opC k f s N a).1 ≠ 3 := by
          unfold opC
          rw [if_neg (by omega), if_neg e5, if_neg e6, if_neg e7']
          split <;> (refine ⟨?_, ?_, ?_⟩ <;> (show ¬ _) <;> (intro q; revert q; decide))
        have hkr : k a < 5 ∨ k a = 8 := by
          by_cases hx : a < (N : Int) - 1
          · have := hst9 a ha.1 hx
            unfold StC at this
            omega
          · right
            rw [show a = (N : Int) - 1 by omega]
            exact hk8
        have hkr2 : -2147483648 ≤ k a ∧ k a ≤ 2147483647 := by
          have := hP.2.2.1
          by_cases hx : a < (N : Int) - 1
          · have := hst9 a ha.1 hx
            unfold StC at this
            omega
          · rw [show a = (N : Int) - 1 by omega, hk8]; omega
        have sw : (if k a < 5 ∨ 7 < k a then some 167 else ([108, 137, 153] : List Nat)[(k a - 5).toNat]?) = some 167 := if_pos (by omega)
        have hss' := hss (K, a :: V, D ++ [(a, o)]) (by rw [if_neg hne3.1, if_neg hne3.2.1, if_neg hne3.2.2])
        rw [x77_18]
        repeat' (first | (simp (disch := first | assumption | exact wd_n | exact wd_i | exact wd_r | exact ct_r | exact ct_i | exact stB_0 | exact stB_1 | exact stB_2 | exact stB_3 | exact stB_4 | exact stB_5 | exact ct_2 | exact b2i_c _ | exact wd_0 | exact wd_f | omega | ((simp (disch := omega) only [uN_s, uN_n, uA_s, uA_n, up_s, up_n]) <;> omega)) only [x77_0, x77_0n, x77_1, x77_4, x77_7, x77_7n, x77_8, x77_11, x77_12, x77_15, x77_16, x77_20, x77_22, x77_25, x77_25n, x77_26, x77_29, x77_32, x77_35, x77_35n, x77_36, x77_39, x77_42, x77_44, x77_45, x77_47, x77_48, x77_50, x77_50n, x77_51, x77_54, x77_56, x77_57, x77_58, x77_59, x77_59b, x77_62, x77_65, x77_65n, x77_66, x77_66n, x77_67, x77_70, x77_72, x77_73, x77_76, x77_76n, x77_77, x77_79, x77_82, x77_108, x77_108n, x77_109, x77_112, x77_112n, x77_113, x77_115, x77_118, x77_121, x77_121n, x77_122, x77_125, x77_125n, x77_126, x77_128, x77_131, x77_134, x77_137, x77_137n, x77_138, x77_141, x77_141n, x77_142, x77_144, x77_147, x77_150, x77_153, x77_153n, x77_154, x77_157, x77_159, x77_160, x77_161, x77_164, x77_167, x77_167n, x77_168, x77_171, x77_173, x77_175, x77_176, x77_177, x77_178, x77_181, x77_184, x77_187, e77, XC_v, XC_s, true_and, and_true, and_self, bq_T, bq_F, yt_s, Bool.false_eq_true, Bool.true_eq_false, rg_0, rg_1, rp_1, mset_1, mset_21, mset_eq, mset_ne, yn_I, ya_I, yw_I, mset_cl, cc_0, cf_0_0, cf_0_1, cf_0_2, cf_0_3, cf_0_4, cf_0_5, cf_0_6, cf_0_7, cf_0_8, cf_0_9, cf_0_10, cf_0_11, cf_0_12, cf_0_13, cf_0_14, cf_0_15, cs_0_4, cs_0_6, cs_0_7, cs_0_8, cc_13, cf_13_0, cf_13_1, cf_13_2, cs_13_1, cs_13_2, cc_47, cf_47_0, cf_47_1, cf_47_2, cc_53, cf_53_0, cf_53_1, cf_53_2, cf_53_3, cf_53_4, cf_53_5, cs_53_3, cs_53_4, cs_53_5, cc_5, cf_5_0, cf_5_1, cf_5_2, cs_5_1, cc_9, cf_9_0, cf_9_1, cf_9_2, cs_9_1, cc_15, cf_15_0, cf_15_1, cf_15_2, cs_15_1, cc_19, cf_19_0, cf_19_1, cf_19_2, cs_19_1, cc_23, cf_23_0, cf_23_1, cf_23_2, cs_23_1, cc_27, cf_27_0, cf_27_1, cf_27_2, cs_27_1, cc_31, cf_31_0, cf_31_1, cf_31_2, cs_31_1, cc_35, cf_35_0, cf_35_1, cf_35_2, cs_35_1, cc_39, cf_39_0, cf_39_1, cf_39_2, cs_39_1, cc_43, cf_43_0, cf_43_1, cf_43_2, cs_43_1, cc_1, cc_3, cc_7, cc_11, cc_49, cc_51, cc_54, cc_56, cc_58, cc_60, cc_62, cc_64, cc_66, cc_68, cc_17, cc_21, cc_25, cc_29, cc_33, cc_37, cc_41, cc_45, c1_size, c1_full, c1_holds, c1_at, c1_put, c1_add, c1_pop, c1_clear, c3_size, c3_full, c3_holds, c3_at, c3_put, c3_add, c3_pop, c3_clear, c7_size, c7_full, c7_holds, c7_at, c7_put, c7_add, c7_pop, c7_clear, c7_ins, c7_cut, c7_copy3, c7_copy66, c49_size, c49_full, c49_holds, c49_at, c49_put, c49_add, c49_pop, c49_clear, c51_size, c51_full, c51_holds, c51_at, c51_put, c51_add, c51_pop, c51_clear, c54_size, c54_full, c54_holds, c54_at, c54_put, c54_add, c54_pop, c54_clear, c54_copy56, c56_size, c56_full, c56_holds, c56_at, c56_put, c56_add, c56_pop, c56_clear, c58_size, c58_full, c58_holds, c58_at, c58_put, c58_add, c58_pop, c58_clear, c60_size, c60_full, c60_holds, c60_at, c60_put, c60_add, c60_pop, c60_clear, c62_size, c62_full, c62_holds, c62_at, c62_put, c62_add, c62_pop, c62_clear, c64_size, c64_full, c64_holds, c64_at, c64_put, c64_add, c64_pop, c64_clear, c66_size, c66_full, c66_holds, c66_at, c66_put, c66_add, c66_pop, c66_clear, c66_part7, c68_size, c68_full, c68_holds, c68_at, c68_put, c68_add, c68_pop, c68_clear, c68_part7, ct_ld, ct_st, ct_ln, ck_ld, ck_ln, cp_ld5, cp_ln5, uN_s, uN_n, uA_s, uA_n, uN_uN, uA_uA, h58, Int.add_sub_cancel, w1, em, hz, uA_id, hk, hcl, sw, shl6, t2]) | (refine bq_t (by omega) ?_) | (refine bq_f (by omega) ?_) | fail)
        refine ih _ (turn + 1) K (a :: V) (D ++ [(a, o)]) _ _ _ ?_ ⟨hbits, ?_, ?_, ?_⟩ ?_ ?_ hK' (by omega) (by omega) (by omega) (by simp only [List.length_append, List.length_cons, List.length_nil]; omega) hss'
        · refine hSF.trans ⟨fun k a b => ?_, fun k a b => ?_, rfl, rfl⟩
          · simp (disch := omega) only [uN_s, uN_n, uA_s, uA_n, up_s, up_n, uN_uN, uA_uA]
          · simp (disch := omega) only [uN_s, uN_n, uA_s, uA_n, up_s, up_n, uN_uN, uA_uA]
        · simp (disch := omega) only [uN_s, uN_n, uA_s, uA_n, up_s, up_n, uN_uN, uA_uA]
          simp only [List.length_append, List.length_cons, List.length_nil]
          omega
        · simp (disch := omega) only [uN_s, uN_n, uA_s, uA_n, up_s, up_n, uN_uN, uA_uA]
          exact TCe_snoc t3 rfl
        · intro v hv
          rcases List.mem_append.mp hv with hv | hv
          · exact t4 v hv
          · have : v = (a, o) := by simpa using hv
            rw [this]
            exact ⟨ha.1, ha.2, ho.1, ho.2, hkr⟩
        · simp (disch := omega) only [uN_s, uN_n, uA_s, uA_n, up_s, up_n, uN_uN, uA_uA]
        · simp (disch := omega) only [uN_s, uN_n, uA_s, uA_n, up_s, up_n, uN_uN, uA_uA]
          exact w2
end SPR
