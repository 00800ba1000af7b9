/-! the reference's walk from its call; seeking -/
section WLQ
variable {X : JX} {M0 : JM} {m d : Nat} {S : MS} {Q : JR → JM → Prop} {n L start : Int} {N : Nat} {wh : Bool} {r : RA} {vis : List (Int × Int)}
theorem ph_le {wt : Int → Int} (h : ∀ s : Int, 0 ≤ s → s < N → 0 ≤ wt s) : ph wt N vis ≤ ph wt N [] := by
  unfold ph
  refine sm_le (fun s a b => sm_le (fun p _ _ => ?_))
  rw [if_neg (by simp : ¬ (s, p) ∈ ([] : List (Int × Int)))]
  split
  · exact h s a b
  · exact Int.le_refl _
theorem fw_sum {op : Int → Int × Int × Int} : sm N (fw op) ≤ N := by
  have h1 : sm N (fw op) ≤ sm N (fun _ => 1) := sm_le (fun k _ _ => by unfold fw; split <;> omega)
  rw [sm_c] at h1
  omega
/-- the first step of the loop over the marks -/
theorem m_walkInit : ∀ (f : Nat) (S : MS) (k : Int) (wz : Int), 0 ≤ k → k ≤ 10 → 10 - k ≤ f → (∀ j, 0 ≤ j → j < k → S.2 16 j = -1) → (∀ c', (∀ j, 0 ≤ j → j ≤ 9 → c' j = -1) → XX X d 170 (21, [some (.ref m), some (.int (ii start)), some (.int (ii wz)), some (.int (ii 10)), none, none], [], mm M0 m (S.1, uA S.2 16 c')) Q) → XX X d 170 (2, [some (.ref m), some (.int (ii start)), some (.int (ii wz)), some (.int (ii k)), none, none], [], mm M0 m S) Q := by
  intro f
  induction f with
  | zero =>
    intro S k wz h0 h1 h2 h3 hq
    have hk : k = 10 := by omega
    subst hk
    rw [x170_2]
    repeat' (first | (simp (disch := first | assumption | exact wd_n | exact wd_i | exact wd_r | exact ct_r | exact ct_i | exact stB_0 | exact stB_1 | exact stB_2 | exact stB_3 | exact stB_4 | exact stB_5 | exact ct_2 | exact wd_0 | exact wd_f | omega) only [x170_0, x170_1, x170_3, x170_5, x170_8, x170_9, x170_12, x170_13, x170_14, x170_15, x170_18, x170_22, x170_23, x170_26, x170_27, x170_28, x170_29, x170_32, x170_33, x170_36, x170_36b, x170_39, x170_40, x170_41, x170_44, x170_45, x170_46, x170_49, x170_50, x170_53, x170_54, x170_57, x170_58, x170_59, x170_60, x170_63, x170_64, x170_67, x170_68, x170_70, x170_71, x170_74, x170_75, x170_78, x170_80, x170_81, x170_82, x170_84, x170_85, x170_86, x170_86b, x170_89, x170_90, x170_93, x170_95, x170_96, x170_97, x170_99, x170_100, x170_101, x170_102, x170_103, x170_106, x170_107, x170_108, x170_110, x170_112, x170_114, x170_117, x170_118, x170_118b, x170_121, x170_123, x170_124, x170_127, x170_129, x170_130, x170_133, x170_134, x170_136, x170_139, x170_140, x170_141, x170_143, x170_145, x170_148, x170_149, x170_150, x170_153, x170_154, x170_155, x170_157, x170_160, x170_162, x170_164, x170_167, x170_168, x170_169, x170_170, x170_173, x170_174, x170_175, x170_176, x170_177, x170_180, x170_181, x170_184, x170_185, x170_186, x170_187, x170_190, x170_191, x170_194, x170_195, x170_198, x170_199, x170_200, x170_202, x170_203, x170_205, x170_207, x170_210, x170_212, x170_214, x170_217, x170_218, x170_221, x170_222, x170_223, x170_224, x170_227, x170_229, x170_231, x170_234, x170_237, x170_240, x170_242, x170_244, x170_247, x170_248, x170_249, x170_251, x170_254, x170_254b, x170_257, x170_260, x170_263, x170_266, x170_267, x170_268, x170_271, x170_274, x170_275, e170, XC_v, XC_s, true_and, and_true, and_self, bq_T, bq_F, yt_s, Bool.false_eq_true, Bool.true_eq_false, mm_cl, mm_1, uN_s, uN_n, uA_s, uA_n, uN_uN, mf_0, mf_1, mf_2, mf_3, mf_4, mf_5, mf_6, mf_7, mf_8, mf_9, mf_10, mf_11, mf_12, mf_13, mf_14, mf_15, mf_16, mf_17, mf_18, mf_19, mf_20, mf_21, mf_22, mf_23, mf_24, mf_25, mf_26, mf_27, mf_28, mf_29, mf_30, mf_31, mf_32, mf_33, mf_34, mf_35, mf_36, mf_37, mf_38, mf_39, mf_40, ms_3, ms_4, ms_5, ms_7, ms_9, ms_10, ms_11, ms_12, ms_14, ms_16, ms_17, ms_18, ms_24, ms_25, ms_29, ms_34, ms_35, ms_38, ma_0, ma_1, ma_2, ma_3, ma_4, ma_5, ma_6, ma_7, ma_8, ma_9, ma_10, ma_11, ma_12, ma_13, ma_14, ma_15, ma_16, ma_17, ma_18, ma_19, ma_20, ma_21, ma_22, mw_0, mw_1, mw_2, mw_3, mw_4, mw_5, mw_6, mw_7, mw_8, mw_9, mw_10, mw_11, mw_12, mw_13, mw_14, mw_15, mw_16, mw_17, mw_18, mw_19, mw_20, mw_21, mw_22]) | (refine bq_t (by omega) ?_) | (refine bq_f (by omega) ?_) | fail)
    have e : uA S.2 16 (S.2 16) = S.2 := by funext j; unfold uA; split <;> simp_all
    have := hq (S.2 16) (fun j a b => h3 j a (by omega))
    rw [e] at this
    exact this
  | succ f ih =>
    intro S k wz h0 h1 h2 h3 hq
    rw [x170_2]
    by_cases hk : k < 10
    · repeat' (first | (simp (disch := first | assumption | exact wd_n | exact wd_i | exact wd_r | exact ct_r | exact ct_i | exact stB_0 | exact stB_1 | exact stB_2 | exact stB_3 | exact stB_4 | exact stB_5 | exact ct_2 | exact wd_0 | exact wd_f | omega) only [x170_0, x170_1, x170_3, x170_5, x170_8, x170_9, x170_12, x170_13, x170_14, x170_15, x170_18, x170_22, x170_23, x170_26, x170_27, x170_28, x170_29, x170_32, x170_33, x170_36, x170_36b, x170_39, x170_40, x170_41, x170_44, x170_45, x170_46, x170_49, x170_50, x170_53, x170_54, x170_57, x170_58, x170_59, x170_60, x170_63, x170_64, x170_67, x170_68, x170_70, x170_71, x170_74, x170_75, x170_78, x170_80, x170_81, x170_82, x170_84, x170_85, x170_86, x170_86b, x170_89, x170_90, x170_93, x170_95, x170_96, x170_97, x170_99, x170_100, x170_101, x170_102, x170_103, x170_106, x170_107, x170_108, x170_110, x170_112, x170_114, x170_117, x170_118, x170_118b, x170_121, x170_123, x170_124, x170_127, x170_129, x170_130, x170_133, x170_134, x170_136, x170_139, x170_140, x170_141, x170_143, x170_145, x170_148, x170_149, x170_150, x170_153, x170_154, x170_155, x170_157, x170_160, x170_162, x170_164, x170_167, x170_168, x170_169, x170_170, x170_173, x170_174, x170_175, x170_176, x170_177, x170_180, x170_181, x170_184, x170_185, x170_186, x170_187, x170_190, x170_191, x170_194, x170_195, x170_198, x170_199, x170_200, x170_202, x170_203, x170_205, x170_207, x170_210, x170_212, x170_214, x170_217, x170_218, x170_221, x170_222, x170_223, x170_224, x170_227, x170_229, x170_231, x170_234, x170_237, x170_240, x170_242, x170_244, x170_247, x170_248, x170_249, x170_251, x170_254, x170_254b, x170_257, x170_260, x170_263, x170_266, x170_267, x170_268, x170_271, x170_274, x170_275, e170, XC_v, XC_s, true_and, and_true, and_self, bq_T, bq_F, yt_s, Bool.false_eq_true, Bool.true_eq_false, mm_cl, mm_1, uN_s, uN_n, uA_s, uA_n, uN_uN, mf_0, mf_1, mf_2, mf_3, mf_4, mf_5, mf_6, mf_7, mf_8, mf_9, mf_10, mf_11, mf_12, mf_13, mf_14, mf_15, mf_16, mf_17, mf_18, mf_19, mf_20, mf_21, mf_22, mf_23, mf_24, mf_25, mf_26, mf_27, mf_28, mf_29, mf_30, mf_31, mf_32, mf_33, mf_34, mf_35, mf_36, mf_37, mf_38, mf_39, mf_40, ms_3, ms_4, ms_5, ms_7, ms_9, ms_10, ms_11, ms_12, ms_14, ms_16, ms_17, ms_18, ms_24, ms_25, ms_29, ms_34, ms_35, ms_38, ma_0, ma_1, ma_2, ma_3, ma_4, ma_5, ma_6, ma_7, ma_8, ma_9, ma_10, ma_11, ma_12, ma_13, ma_14, ma_15, ma_16, ma_17, ma_18, ma_19, ma_20, ma_21, ma_22, mw_0, mw_1, mw_2, mw_3, mw_4, mw_5, mw_6, mw_7, mw_8, mw_9, mw_10, mw_11, mw_12, mw_13, mw_14, mw_15, mw_16, mw_17, mw_18, mw_19, mw_20, mw_21, mw_22]) | (refine bq_t (by omega) ?_) | (refine bq_f (by omega) ?_) | fail)
      refine ih _ (k + 1) wz (by omega) (by omega) (by omega) (fun j a b => ?_) (fun c' hc => ?_)
      · simp (disch := omega) only [uN_s, uN_n, uA_s, uA_n, up_s, up_n, uN_uN, uA_uA]
        by_cases hj : j = k
        · rw [hj, up_s]
        · rw [up_n hj]; exact h3 j a (by omega)
      · rw [uA_uA]
        exact hq c' hc
    · have hk : k = 10 := by omega
      subst hk
      repeat' (first | (simp (disch := first | assumption | exact wd_n | exact wd_i | exact wd_r | exact ct_r | exact ct_i | exact stB_0 | exact stB_1 | exact stB_2 | exact stB_3 | exact stB_4 | exact stB_5 | exact ct_2 | exact wd_0 | exact wd_f | omega) only [x170_0, x170_1, x170_3, x170_5, x170_8, x170_9, x170_12, x170_13, x170_14, x170_15, x170_18, x170_22, x170_23, x170_26, x170_27, x170_28, x170_29, x170_32, x170_33, x170_36, x170_36b, x170_39, x170_40, x170_41, x170_44, x170_45, x170_46, x170_49, x170_50, x170_53, x170_54, x170_57, x170_58, x170_59, x170_60, x170_63, x170_64, x170_67, x170_68, x170_70, x170_71, x170_74, x170_75, x170_78, x170_80, x170_81, x170_82, x170_84, x170_85, x170_86, x170_86b, x170_89, x170_90, x170_93, x170_95, x170_96, x170_97, x170_99, x170_100, x170_101, x170_102, x170_103, x170_106, x170_107, x170_108, x170_110, x170_112, x170_114, x170_117, x170_118, x170_118b, x170_121, x170_123, x170_124, x170_127, x170_129, x170_130, x170_133, x170_134, x170_136, x170_139, x170_140, x170_141, x170_143, x170_145, x170_148, x170_149, x170_150, x170_153, x170_154, x170_155, x170_157, x170_160, x170_162, x170_164, x170_167, x170_168, x170_169, x170_170, x170_173, x170_174, x170_175, x170_176, x170_177, x170_180, x170_181, x170_184, x170_185, x170_186, x170_187, x170_190, x170_191, x170_194, x170_195, x170_198, x170_199, x170_200, x170_202, x170_203, x170_205, x170_207, x170_210, x170_212, x170_214, x170_217, x170_218, x170_221, x170_222, x170_223, x170_224, x170_227, x170_229, x170_231, x170_234, x170_237, x170_240, x170_242, x170_244, x170_247, x170_248, x170_249, x170_251, x170_254, x170_254b, x170_257, x170_260, x170_263, x170_266, x170_267, x170_268, x170_271, x170_274, x170_275, e170, XC_v, XC_s, true_and, and_true, and_self, bq_T, bq_F, yt_s, Bool.false_eq_true, Bool.true_eq_false, mm_cl, mm_1, uN_s, uN_n, uA_s, uA_n, uN_uN, mf_0, mf_1, mf_2, mf_3, mf_4, mf_5, mf_6, mf_7, mf_8, mf_9, mf_10, mf_11, mf_12, mf_13, mf_14, mf_15, mf_16, mf_17, mf_18, mf_19, mf_20, mf_21, mf_22, mf_23, mf_24, mf_25, mf_26, mf_27, mf_28, mf_29, mf_30, mf_31, mf_32, mf_33, mf_34, mf_35, mf_36, mf_37, mf_38, mf_39, mf_40, ms_3, ms_4, ms_5, ms_7, ms_9, ms_10, ms_11, ms_12, ms_14, ms_16, ms_17, ms_18, ms_24, ms_25, ms_29, ms_34, ms_35, ms_38, ma_0, ma_1, ma_2, ma_3, ma_4, ma_5, ma_6, ma_7, ma_8, ma_9, ma_10, ma_11, ma_12, ma_13, ma_14, ma_15, ma_16, ma_17, ma_18, ma_19, ma_20, ma_21, ma_22, mw_0, mw_1, mw_2, mw_3, mw_4, mw_5, mw_6, mw_7, mw_8, mw_9, mw_10, mw_11, mw_12, mw_13, mw_14, mw_15, mw_16, mw_17, mw_18, mw_19, mw_20, mw_21, mw_22]) | (refine bq_t (by omega) ?_) | (refine bq_f (by omega) ?_) | fail)
      have e : uA S.2 16 (S.2 16) = S.2 := by funext j; unfold uA; split <;> simp_all
      have := hq (S.2 16) (fun j a b => h3 j a (by omega))
      rw [e] at this
      exact this
/-- what a walk knows: visited places fail -/
def VF (A : Nat → Int → Int) (L : Int) (N : Nat) (wh : Bool) (c : Int → Int) : Prop := ∃ vis, BN c N vis ∧ ∀ v, v ∈ vis → (0 ≤ v.1 ∧ v.1 < N ∧ 0 ≤ v.2 ∧ v.2 ≤ L) ∧ Fl (opR A N) (fitR A L) (accW wh L) v
def WZ (M0 : JM) (m : Nat) (S : MS) (L : Int) (N : Nat) (wh : Bool) (Q : JR → JM → Prop) (r : RA) : Prop := ∀ S', PW S S' → match r with
  | none => VF S.2 L N wh (S'.2 15) → Q (.inl (some (.int (ii 0)))) (mm M0 m S')
  | some q => S'.1 35 = q.1 → (∀ j, 0 ≤ j → j ≤ 9 → S'.2 16 j = q.2 j) → Q (.inl (some (.int (ii 1)))) (mm M0 m S')
theorem m_walks (hd : 5 ≤ d) (hC : WC S.2 n L N) (hst : 0 ≤ start ∧ start ≤ L) (hV : VF S.2 L N wh (S.2 15)) (hT : Tm (opR S.2 N) (fitR S.2 L) (accW wh L) 0 start (fun _ => -1) r) (hq : WZ M0 m S L N wh Q r) : CC X d 170 [.ref m, .int (ii start), .int (ii (b2i wh))] (mm M0 m S) Q := by
  obtain ⟨vis, hBN, hvis⟩ := hV
  obtain ⟨f, hf⟩ := hT
  have hC' := hC
  obtain ⟨c1, c2, c3, c4, c5, c6, c7, c8, c9⟩ := hC
  have hOk : OpOk (opR S.2 N) := OpR.ok c9 (fun s hs => by unfold opR; rw [if_pos hs])
  have hDO := dfs_ok (fit := fitR S.2 L) (acc := accW wh L) hOk f 0 start (fun _ => -1) r vis [] (by omega) hf (fun v hv => Or.inl (hvis v hv).2)
  have hTI : TI (fw (opR S.2 N)) N L (1 + ph (fw (opR S.2 N)) N vis) ([(0, start)], (fun _ => -1), vis) := by
    refine ⟨fun v hv => ?_, fun j => by show -1 ≤ (-1 : Int) ∧ (-1 : Int) ≤ L; omega, fun v hv => (hvis v hv).1, by show ((1 : Nat) : Int) + ph (fw (opR S.2 N)) N vis ≤ 1 + ph (fw (opR S.2 N)) N vis; omega⟩
    have : v = (0, start) := by simpa using hv
    rw [this]
    exact ⟨fun _ => ⟨by show (0 : Int) < N; omega, hst⟩, fun q => by have q' : (0 : Int) < 0 := q; omega⟩
  have hB : 1 + ph (fw (opR S.2 N)) N vis ≤ 9000 := by
    have h1 := ph_le (N := N) (vis := vis) (wt := fw (opR S.2 N)) (fun s a b => (fw_ok s a b).1)
    rw [ph_nil] at h1
    have h2 := fw_sum (N := N) (op := opR S.2 N)
    omega
  have hFin : ∃ k vf, Fin (opR S.2 N) (fitR S.2 L) (accW wh L) k ([(0, start)], (fun _ => -1), vis) r vf ∧ (r = none → ∀ v, v ∈ vf → (0 ≤ v.1 ∧ v.1 < N ∧ 0 ≤ v.2 ∧ v.2 ≤ L) ∧ Fl (opR S.2 N) (fitR S.2 L) (accW wh L) v) := by
    cases r with
    | none =>
      obtain ⟨k, vf, h1, h2⟩ := hDO
      refine ⟨k, vf, ⟨_, h1⟩, fun _ v hv => ?_⟩
      have hTn := TI_dgo c3.2 c3.1 c9 fw_ok (fun s p h => fitR_L h) k _ hTI h1
      refine ⟨hTn.2.2.1 v hv, ?_⟩
      rcases h2 v hv with h3 | h3
      · exact (hvis v h3).2
      · exact h3
    | some q =>
      obtain ⟨k, T', vf, h1, h2⟩ := hDO
      exact ⟨k, vf, ⟨T', h1, h2⟩, fun q => by cases q⟩
  obtain ⟨k, vf, hF, hvf⟩ := hFin
  repeat' (first | (simp (disch := first | assumption | exact wd_n | exact wd_i | exact wd_r | exact ct_r | exact ct_i | exact stB_0 | exact stB_1 | exact stB_2 | exact stB_3 | exact stB_4 | exact stB_5 | exact ct_2 | exact wd_0 | exact wd_f | omega) only [x170_0, x170_1, x170_3, x170_5, x170_8, x170_9, x170_12, x170_13, x170_14, x170_15, x170_18, x170_21, x170_22, x170_23, x170_26, x170_27, x170_28, x170_29, x170_33, x170_36, x170_36b, x170_39, x170_40, x170_41, x170_44, x170_45, x170_46, x170_49, x170_50, x170_53, x170_54, x170_57, x170_58, x170_59, x170_60, x170_63, x170_64, x170_67, x170_68, x170_70, x170_71, x170_74, x170_75, x170_78, x170_80, x170_81, x170_82, x170_84, x170_85, x170_86, x170_86b, x170_89, x170_90, x170_93, x170_95, x170_96, x170_97, x170_99, x170_100, x170_101, x170_102, x170_103, x170_106, x170_107, x170_108, x170_110, x170_112, x170_114, x170_117, x170_118, x170_118b, x170_121, x170_123, x170_124, x170_127, x170_129, x170_130, x170_133, x170_134, x170_136, x170_139, x170_140, x170_141, x170_143, x170_145, x170_148, x170_149, x170_150, x170_153, x170_154, x170_155, x170_157, x170_160, x170_162, x170_164, x170_167, x170_168, x170_169, x170_170, x170_173, x170_174, x170_175, x170_176, x170_177, x170_180, x170_181, x170_184, x170_185, x170_186, x170_187, x170_190, x170_191, x170_194, x170_195, x170_198, x170_199, x170_200, x170_202, x170_203, x170_205, x170_207, x170_210, x170_212, x170_214, x170_217, x170_218, x170_221, x170_222, x170_223, x170_224, x170_227, x170_229, x170_231, x170_234, x170_237, x170_240, x170_242, x170_244, x170_247, x170_248, x170_249, x170_251, x170_254, x170_254b, x170_257, x170_260, x170_263, x170_266, x170_267, x170_268, x170_271, x170_274, x170_275, e170, XC_v, XC_s, true_and, and_true, and_self, bq_T, bq_F, yt_s, Bool.false_eq_true, Bool.true_eq_false, mm_cl, mm_1, uN_s, uN_n, uA_s, uA_n, uN_uN, mf_0, mf_1, mf_2, mf_3, mf_4, mf_5, mf_6, mf_7, mf_8, mf_9, mf_10, mf_11, mf_12, mf_13, mf_14, mf_15, mf_16, mf_17, mf_18, mf_19, mf_20, mf_21, mf_22, mf_23, mf_24, mf_25, mf_26, mf_27, mf_28, mf_29, mf_30, mf_31, mf_32, mf_33, mf_34, mf_35, mf_36, mf_37, mf_38, mf_39, mf_40, ms_3, ms_4, ms_5, ms_7, ms_9, ms_10, ms_11, ms_12, ms_14, ms_16, ms_17, ms_18, ms_24, ms_25, ms_29, ms_34, ms_35, ms_38, ma_0, ma_1, ma_2, ma_3, ma_4, ma_5, ma_6, ma_7, ma_8, ma_9, ma_10, ma_11, ma_12, ma_13, ma_14, ma_15, ma_16, ma_17, ma_18, ma_19, ma_20, ma_21, ma_22, mw_0, mw_1, mw_2, mw_3, mw_4, mw_5, mw_6, mw_7, mw_8, mw_9, mw_10, mw_11, mw_12, mw_13, mw_14, mw_15, mw_16, mw_17, mw_18, mw_19, mw_20, mw_21, mw_22]) | (refine bq_t (by omega) ?_) | (refine bq_f (by omega) ?_) | fail)
  refine m_walkInit 10 S 0 (b2i wh) (by omega) (by omega) (by omega) (fun j a b => by omega) (fun c' hc => ?_)
  have h34 : uN S.1 34 0 34 = 0 := uN_s
  repeat' (first | (simp (disch := first | assumption | exact wd_n | exact wd_i | exact wd_r | exact ct_r | exact ct_i | exact stB_0 | exact stB_1 | exact stB_2 | exact stB_3 | exact stB_4 | exact stB_5 | exact ct_2 | exact wd_0 | exact wd_f | omega) only [x170_0, x170_1, x170_3, x170_5, x170_8, x170_9, x170_12, x170_13, x170_14, x170_15, x170_18, x170_21, x170_22, x170_23, x170_26, x170_27, x170_28, x170_29, x170_33, x170_36, x170_36b, x170_39, x170_40, x170_41, x170_44, x170_45, x170_46, x170_49, x170_50, x170_53, x170_54, x170_57, x170_58, x170_59, x170_60, x170_63, x170_64, x170_67, x170_68, x170_70, x170_71, x170_74, x170_75, x170_78, x170_80, x170_81, x170_82, x170_84, x170_85, x170_86, x170_86b, x170_89, x170_90, x170_93, x170_95, x170_96, x170_97, x170_99, x170_100, x170_101, x170_102, x170_103, x170_106, x170_107, x170_108, x170_110, x170_112, x170_114, x170_117, x170_118, x170_118b, x170_121, x170_123, x170_124, x170_127, x170_129, x170_130, x170_133, x170_134, x170_136, x170_139, x170_140, x170_141, x170_143, x170_145, x170_148, x170_149, x170_150, x170_153, x170_154, x170_155, x170_157, x170_160, x170_162, x170_164, x170_167, x170_168, x170_169, x170_170, x170_173, x170_174, x170_175, x170_176, x170_177, x170_180, x170_181, x170_184, x170_185, x170_186, x170_187, x170_190, x170_191, x170_194, x170_195, x170_198, x170_199, x170_200, x170_202, x170_203, x170_205, x170_207, x170_210, x170_212, x170_214, x170_217, x170_218, x170_221, x170_222, x170_223, x170_224, x170_227, x170_229, x170_231, x170_234, x170_237, x170_240, x170_242, x170_244, x170_247, x170_248, x170_249, x170_251, x170_254, x170_254b, x170_257, x170_260, x170_263, x170_266, x170_267, x170_268, x170_271, x170_274, x170_275, e170, XC_v, XC_s, true_and, and_true, and_self, bq_T, bq_F, yt_s, Bool.false_eq_true, Bool.true_eq_false, mm_cl, mm_1, uN_s, uN_n, uA_s, uA_n, uN_uN, mf_0, mf_1, mf_2, mf_3, mf_4, mf_5, mf_6, mf_7, mf_8, mf_9, mf_10, mf_11, mf_12, mf_13, mf_14, mf_15, mf_16, mf_17, mf_18, mf_19, mf_20, mf_21, mf_22, mf_23, mf_24, mf_25, mf_26, mf_27, mf_28, mf_29, mf_30, mf_31, mf_32, mf_33, mf_34, mf_35, mf_36, mf_37, mf_38, mf_39, mf_40, ms_3, ms_4, ms_5, ms_7, ms_9, ms_10, ms_11, ms_12, ms_14, ms_16, ms_17, ms_18, ms_24, ms_25, ms_29, ms_34, ms_35, ms_38, ma_0, ma_1, ma_2, ma_3, ma_4, ma_5, ma_6, ma_7, ma_8, ma_9, ma_10, ma_11, ma_12, ma_13, ma_14, ma_15, ma_16, ma_17, ma_18, ma_19, ma_20, ma_21, ma_22, mw_0, mw_1, mw_2, mw_3, mw_4, mw_5, mw_6, mw_7, mw_8, mw_9, mw_10, mw_11, mw_12, mw_13, mw_14, mw_15, mw_16, mw_17, mw_18, mw_19, mw_20, mw_21, mw_22, m_leaves']) | (refine bq_t (by omega) ?_) | (refine bq_f (by omega) ?_) | fail)
  have hWQ : WQ M0 m S N Q r vf := by
    intro S' hP
    have := hq S' hP
    cases r with
    | none => exact fun hb => this ⟨vf, hb, hvf rfl⟩
    | some q => exact this
  have hPW : PW S (lvs (uN S.1 34 0, uA S.2 16 c') 0 start) := PW_l (PW_n (S' := (S.1, uA S.2 16 c')) (PW_a (PW.refl S) (by omega)) (by omega))
  refine m_wback (d := d) (S0 := S) (B := 1 + ph (fw (opR S.2 N)) N vis) (by omega) hC' hB hWQ (fun k' _ => m_wloop (d := d) (by omega) hC' hB hWQ k') hPW (K := [(0, start)]) (w := fun _ => -1) (vis := vis) (BK_push ?_) hTI hF
  refine ⟨trivial, h34, fun j a b => ?_, ?_⟩
  · simp (disch := omega) only [uN_s, uN_n, uA_s, uA_n, up_s, up_n, uN_uN, uA_uA]
    exact hc j a b
  · simp (disch := omega) only [uN_s, uN_n, uA_s, uA_n, up_s, up_n, uN_uN, uA_uA]
    exact hBN
/-- forgetting what was visited -/
theorem m_forgetsL (hN : S.1 29 = N) (hN61 : N ≤ 61) : ∀ (f : Nat) (S1 : MS) (k : Int), S1.1 = S.1 → 0 ≤ k → k ≤ 41 * N → 41 * (N : Int) - k ≤ f → (∀ j, 0 ≤ j → j < k → S1.2 15 j = 0) → (∀ c' : Int → Int, (∀ j : Int, 0 ≤ j → j < 41 * N → c' j = 0) → Q (.inl none) (mm M0 m (S1.1, uA S1.2 15 c'))) → XX X d 169 (2, [some (.ref m), some (.int (ii k))], [], mm M0 m S1) Q := by
  intro f
  induction f with
  | zero =>
    intro S1 k hs h0 h1 h2 h3 hq
    have hN1 : S1.1 29 = N := by rw [hs]; exact hN
    rw [x169_2]
    repeat' (first | (simp (disch := first | assumption | exact wd_n | exact wd_i | exact wd_r | exact ct_r | exact ct_i | exact stB_0 | exact stB_1 | exact stB_2 | exact stB_3 | exact stB_4 | exact stB_5 | exact ct_2 | exact wd_0 | exact wd_f | omega) only [x169_0, x169_1, x169_3, x169_5, x169_6, x169_9, x169_10, x169_13, x169_14, x169_17, x169_18, x169_19, x169_20, x169_23, x169_26, e169, XC_v, XC_s, true_and, and_true, and_self, bq_T, bq_F, yt_s, Bool.false_eq_true, Bool.true_eq_false, mm_cl, mm_1, uN_s, uN_n, uA_s, uA_n, uN_uN, mf_0, mf_1, mf_2, mf_3, mf_4, mf_5, mf_6, mf_7, mf_8, mf_9, mf_10, mf_11, mf_12, mf_13, mf_14, mf_15, mf_16, mf_17, mf_18, mf_19, mf_20, mf_21, mf_22, mf_23, mf_24, mf_25, mf_26, mf_27, mf_28, mf_29, mf_30, mf_31, mf_32, mf_33, mf_34, mf_35, mf_36, mf_37, mf_38, mf_39, mf_40, ms_3, ms_4, ms_5, ms_7, ms_9, ms_10, ms_11, ms_12, ms_14, ms_16, ms_17, ms_18, ms_24, ms_25, ms_29, ms_34, ms_35, ms_38, ma_0, ma_1, ma_2, ma_3, ma_4, ma_5, ma_6, ma_7, ma_8, ma_9, ma_10, ma_11, ma_12, ma_13, ma_14, ma_15, ma_16, ma_17, ma_18, ma_19, ma_20, ma_21, ma_22, mw_0, mw_1, mw_2, mw_3, mw_4, mw_5, mw_6, mw_7, mw_8, mw_9, mw_10, mw_11, mw_12, mw_13, mw_14, mw_15, mw_16, mw_17, mw_18, mw_19, mw_20, mw_21, mw_22, hN1]) | (refine bq_t (by omega) ?_) | (refine bq_f (by omega) ?_) | fail)
    have e : uA S1.2 15 (S1.2 15) = S1.2 := by funext j; unfold uA; split <;> simp_all
    have := hq (S1.2 15) (fun j a b => h3 j a (by omega))
    rw [e] at this
    exact this
  | succ f ih =>
    intro S1 k hs h0 h1 h2 h3 hq
    have hN1 : S1.1 29 = N := by rw [hs]; exact hN
    rw [x169_2]
    by_cases hk : k < 41 * N
    · repeat' (first | (simp (disch := first | assumption | exact wd_n | exact wd_i | exact wd_r | exact ct_r | exact ct_i | exact stB_0 | exact stB_1 | exact stB_2 | exact stB_3 | exact stB_4 | exact stB_5 | exact ct_2 | exact wd_0 | exact wd_f | omega) only [x169_0, x169_1, x169_3, x169_5, x169_6, x169_9, x169_10, x169_13, x169_14, x169_17, x169_18, x169_19, x169_20, x169_23, x169_26, e169, XC_v, XC_s, true_and, and_true, and_self, bq_T, bq_F, yt_s, Bool.false_eq_true, Bool.true_eq_false, mm_cl, mm_1, uN_s, uN_n, uA_s, uA_n, uN_uN, mf_0, mf_1, mf_2, mf_3, mf_4, mf_5, mf_6, mf_7, mf_8, mf_9, mf_10, mf_11, mf_12, mf_13, mf_14, mf_15, mf_16, mf_17, mf_18, mf_19, mf_20, mf_21, mf_22, mf_23, mf_24, mf_25, mf_26, mf_27, mf_28, mf_29, mf_30, mf_31, mf_32, mf_33, mf_34, mf_35, mf_36, mf_37, mf_38, mf_39, mf_40, ms_3, ms_4, ms_5, ms_7, ms_9, ms_10, ms_11, ms_12, ms_14, ms_16, ms_17, ms_18, ms_24, ms_25, ms_29, ms_34, ms_35, ms_38, ma_0, ma_1, ma_2, ma_3, ma_4, ma_5, ma_6, ma_7, ma_8, ma_9, ma_10, ma_11, ma_12, ma_13, ma_14, ma_15, ma_16, ma_17, ma_18, ma_19, ma_20, ma_21, ma_22, mw_0, mw_1, mw_2, mw_3, mw_4, mw_5, mw_6, mw_7, mw_8, mw_9, mw_10, mw_11, mw_12, mw_13, mw_14, mw_15, mw_16, mw_17, mw_18, mw_19, mw_20, mw_21, mw_22, hN1]) | (refine bq_t (by omega) ?_) | (refine bq_f (by omega) ?_) | fail)
      refine ih _ (k + 1) hs (by omega) (by omega) (by omega) (fun j a b => ?_) (fun c' hc => ?_)
      · simp (disch := omega) only [uN_s, uN_n, uA_s, uA_n, up_s, up_n, uN_uN, uA_uA]
        by_cases hj : j = k
        · rw [hj, up_s]
        · rw [up_n hj]; exact h3 j a (by omega)
      · rw [uA_uA]
        exact hq c' hc
    · repeat' (first | (simp (disch := first | assumption | exact wd_n | exact wd_i | exact wd_r | exact ct_r | exact ct_i | exact stB_0 | exact stB_1 | exact stB_2 | exact stB_3 | exact stB_4 | exact stB_5 | exact ct_2 | exact wd_0 | exact wd_f | omega) only [x169_0, x169_1, x169_3, x169_5, x169_6, x169_9, x169_10, x169_13, x169_14, x169_17, x169_18, x169_19, x169_20, x169_23, x169_26, e169, XC_v, XC_s, true_and, and_true, and_self, bq_T, bq_F, yt_s, Bool.false_eq_true, Bool.true_eq_false, mm_cl, mm_1, uN_s, uN_n, uA_s, uA_n, uN_uN, mf_0, mf_1, mf_2, mf_3, mf_4, mf_5, mf_6, mf_7, mf_8, mf_9, mf_10, mf_11, mf_12, mf_13, mf_14, mf_15, mf_16, mf_17, mf_18, mf_19, mf_20, mf_21, mf_22, mf_23, mf_24, mf_25, mf_26, mf_27, mf_28, mf_29, mf_30, mf_31, mf_32, mf_33, mf_34, mf_35, mf_36, mf_37, mf_38, mf_39, mf_40, ms_3, ms_4, ms_5, ms_7, ms_9, ms_10, ms_11, ms_12, ms_14, ms_16, ms_17, ms_18, ms_24, ms_25, ms_29, ms_34, ms_35, ms_38, ma_0, ma_1, ma_2, ma_3, ma_4, ma_5, ma_6, ma_7, ma_8, ma_9, ma_10, ma_11, ma_12, ma_13, ma_14, ma_15, ma_16, ma_17, ma_18, ma_19, ma_20, ma_21, ma_22, mw_0, mw_1, mw_2, mw_3, mw_4, mw_5, mw_6, mw_7, mw_8, mw_9, mw_10, mw_11, mw_12, mw_13, mw_14, mw_15, mw_16, mw_17, mw_18, mw_19, mw_20, mw_21, mw_22, hN1]) | (refine bq_t (by omega) ?_) | (refine bq_f (by omega) ?_) | fail)
      have e : uA S1.2 15 (S1.2 15) = S1.2 := by funext j; unfold uA; split <;> simp_all
      have := hq (S1.2 15) (fun j a b => h3 j a (by omega))
      rw [e] at this
      exact this
theorem m_forgets (hN : S.1 29 = N) (hN61 : N ≤ 61) (hq : ∀ S', PW S S' → (∀ A L wh, VF A L N wh (S'.2 15)) → Q (.inl none) (mm M0 m S')) : CC X d 169 [.ref m] (mm M0 m S) Q := by
  repeat' (first | (simp (disch := first | assumption | exact wd_n | exact wd_i | exact wd_r | exact ct_r | exact ct_i | exact stB_0 | exact stB_1 | exact stB_2 | exact stB_3 | exact stB_4 | exact stB_5 | exact ct_2 | exact wd_0 | exact wd_f | omega) only [x169_0, x169_1, x169_3, x169_5, x169_6, x169_9, x169_10, x169_13, x169_14, x169_17, x169_18, x169_19, x169_20, x169_23, x169_26, e169, XC_v, XC_s, true_and, and_true, and_self, bq_T, bq_F, yt_s, Bool.false_eq_true, Bool.true_eq_false, mm_cl, mm_1, uN_s, uN_n, uA_s, uA_n, uN_uN, mf_0, mf_1, mf_2, mf_3, mf_4, mf_5, mf_6, mf_7, mf_8, mf_9, mf_10, mf_11, mf_12, mf_13, mf_14, mf_15, mf_16, mf_17, mf_18, mf_19, mf_20, mf_21, mf_22, mf_23, mf_24, mf_25, mf_26, mf_27, mf_28, mf_29, mf_30, mf_31, mf_32, mf_33, mf_34, mf_35, mf_36, mf_37, mf_38, mf_39, mf_40, ms_3, ms_4, ms_5, ms_7, ms_9, ms_10, ms_11, ms_12, ms_14, ms_16, ms_17, ms_18, ms_24, ms_25, ms_29, ms_34, ms_35, ms_38, ma_0, ma_1, ma_2, ma_3, ma_4, ma_5, ma_6, ma_7, ma_8, ma_9, ma_10, ma_11, ma_12, ma_13, ma_14, ma_15, ma_16, ma_17, ma_18, ma_19, ma_20, ma_21, ma_22, mw_0, mw_1, mw_2, mw_3, mw_4, mw_5, mw_6, mw_7, mw_8, mw_9, mw_10, mw_11, mw_12, mw_13, mw_14, mw_15, mw_16, mw_17, mw_18, mw_19, mw_20, mw_21, mw_22]) | (refine bq_t (by omega) ?_) | (refine bq_f (by omega) ?_) | fail)
  refine m_forgetsL hN hN61 (41 * N) S 0 rfl (by omega) (by omega) (by omega) (fun j a b => by omega) (fun c' hc => ?_)
  refine hq _ (PW_a (PW.refl S) (by omega)) (fun A L wh => ⟨[], fun s p a b c e => ?_, fun v hv => by cases hv⟩)
  simp (disch := omega) only [uN_s, uN_n, uA_s, uA_n, up_s, up_n, uN_uN, uA_uA]
  rw [if_neg (by simp), hc _ (by omega) (by omega)]
end WLQ
