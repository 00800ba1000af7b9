/-! matches replaced -/
def rpF (tx : Int → Int) (L ch : Int) : Int → ML → List Int
  | w, [] => sgm tx w L
  | w, v :: l => sgm tx w v.1 ++ ch :: rpF tx L ch v.2 l
theorem rpF_c {tx : Int → Int} {L ch w : Int} {v : Int × Int} {l : ML} : rpF tx L ch w (v :: l) = sgm tx w v.1 ++ ch :: rpF tx L ch v.2 l := rfl
theorem rpF_n {tx : Int → Int} {L ch w : Int} : rpF tx L ch w [] = sgm tx w L := rfl
theorem rpF_len {tx : Int → Int} {L ch : Int} : ∀ (l : ML) (w fr : Int), w ≤ fr → MLok L fr l → w ≤ L → ((rpF tx L ch w l).length : Int) = L - w - tot l + (l.length : Int) := by
  intro l
  induction l with
  | nil =>
    intro w fr h1 h2 h3
    rw [rpF_n]
    unfold sgm
    rw [seg_len]
    have : tot [] = 0 := rfl
    simp only [List.length_nil]
    omega
  | cons v l ih =>
    intro w fr h1 h2 h3
    obtain ⟨a1, a2, a3, a4⟩ := h2
    have := ih v.2 _ (by split <;> omega) a4 (by omega)
    rw [rpF_c, tot_cons]
    unfold sgm
    simp only [List.length_append, List.length_cons, seg_len]
    omega
theorem rpF_s {tx : Int → Int} {L ch : Int} {w : Int} {l : ML} (h : MLok L (w + 1) l) (hw : w < L) : rpF tx L ch w l = tx w :: rpF tx L ch (w + 1) l := by
  cases l with
  | nil => exact sgm_s hw
  | cons v l =>
    rw [rpF_c, rpF_c, sgm_s (show w < v.1 by have := h.1; omega)]
    rfl
def am (ls : ML) (p : Int) : Nat → Bool
  | 0 => false
  | n + 1 => if (gl ls n).1 ≤ p ∧ p < (gl ls n).2 then true else am ls p n
theorem am_iff {ls : ML} {p : Int} : ∀ n : Nat, am ls p n = true ↔ ∃ i : Int, 0 ≤ i ∧ i < n ∧ (gl ls i).1 ≤ p ∧ p < (gl ls i).2 := by
  intro n
  induction n with
  | zero => exact ⟨fun h => (by cases h), fun ⟨i, a, b, _⟩ => by omega⟩
  | succ n ih =>
    unfold am
    by_cases hc : (gl ls n).1 ≤ p ∧ p < (gl ls n).2
    · rw [if_pos hc]
      exact ⟨fun _ => ⟨n, by omega, by omega, hc⟩, fun _ => rfl⟩
    · rw [if_neg hc, ih]
      constructor
      · rintro ⟨i, a, b, c⟩
        exact ⟨i, a, by omega, c⟩
      · rintro ⟨i, a, b, c⟩
        refine ⟨i, a, ?_, c⟩
        by_cases hi : i = n
        · rw [hi] at c; exact absurd c hc
        · omega
theorem gl_app {pre l : ML} {i : Int} (h0 : (pre.length : Int) ≤ i) : gl (pre ++ l) i = gl l (i - (pre.length : Int)) := by
  unfold gl
  simp only [List.getD]
  rw [List.getElem?_append_right (by omega), show (i - (pre.length : Int)).toNat = i.toNat - pre.length by omega]
theorem ior_1 {b : Bool} : ii (b2i b) ||| ii 1 = ii 1 := by cases b <;> rfl
theorem ior_0 {b : Bool} : ii (b2i b) ||| ii 0 = ii (b2i b) := by cases b <;> rfl
def OT (c : Int → Int) (l : List Int) : Prop := ∀ i : Nat, i < l.length → c (i : Int) = l.getD i 0
theorem OT_snoc {c : Int → Int} {l : List Int} {z : Int} (h : OT c l) : OT (up c (l.length : Int) z) (l ++ [z]) := by
  intro i hi
  have hi' : i < l.length + 1 := by simpa using hi
  by_cases hx : i = l.length
  · rw [hx, up_s]; simp [List.getD]
  · rw [up_n (by omega), h i (by omega)]
    simp only [List.getD]
    rw [List.getElem?_append_left (by omega)]
section RPL
variable {X : JX} {M0 : JM} {m d : Nat} {S : MS} {Q : JR → JM → Prop} {G : Int → Int} {p ch : Int}
theorem m_rpM {ls : ML} {many next place : Int} {c : Int → Int} (h38 : S.1 38 = (ls.length : Int)) (hA : LA (S.2 19) (S.2 20) ls) (hn : (ls.length : Int) ≤ 41) (hrg : ∀ i, 0 ≤ i → i < (ls.length : Int) → 0 ≤ (gl ls i).1 ∧ (gl ls i).1 ≤ 40 ∧ 0 ≤ (gl ls i).2 ∧ (gl ls i).2 ≤ 40) (hpl : 0 ≤ place ∧ place ≤ 40) : ∀ (f : Nat) (k : Nat), (ls.length : Int) - k = f → XX X d 195 (153, [some (.ref m), some (.int (ii p)), some (.int (ii ch)), some (.int (ii many)), some (.int (ii next)), some (.int (ii place)), some (.int (ii (b2i (am ls place ls.length)))), some (.int (ii (ls.length : Int)))], [], mm M0 m (S.1, uA S.2 21 c)) Q → XX X d 195 (104, [some (.ref m), some (.int (ii p)), some (.int (ii ch)), some (.int (ii many)), some (.int (ii next)), some (.int (ii place)), some (.int (ii (b2i (am ls place k)))), some (.int (ii k))], [], mm M0 m (S.1, uA S.2 21 c)) Q := by
  intro f
  induction f with
  | zero =>
    intro k hf hq
    have ek : k = ls.length := by omega
    rw [x195_104]
    repeat' (first | (simp (disch := first | assumption | exact wd_n | exact wd_i | exact wd_r | exact ct_r | exact ct_i | exact stB_0 | exact stB_1 | exact stB_2 | exact stB_3 | exact stB_4 | exact stB_5 | exact ct_2 | exact b2i_c _ | exact wd_0 | exact wd_f | omega) only [x195_0, x195_1, x195_2, x195_3, x195_6, x195_6b, x195_9, x195_10, x195_13, x195_14, x195_17, x195_17b, x195_20, x195_21, x195_24, x195_25, x195_28, x195_28b, x195_31, x195_32, x195_33, x195_34, x195_35, x195_38, x195_39, x195_40, x195_43, x195_45, x195_46, x195_47, x195_50, x195_51, x195_52, x195_55, x195_56, x195_58, x195_61, x195_62, x195_65, x195_66, x195_69, x195_69b, x195_72, x195_73, x195_74, x195_75, x195_78, x195_79, x195_80, x195_81, x195_83, x195_84, x195_86, x195_88, x195_89, x195_92, x195_94, x195_95, x195_98, x195_99, x195_101, x195_102, x195_106, x195_107, x195_110, x195_113, x195_115, x195_117, x195_118, x195_121, x195_123, x195_124, x195_127, x195_129, x195_130, x195_133, x195_135, x195_136, x195_139, x195_140, x195_143, x195_144, x195_145, x195_147, x195_150, x195_155, x195_156, x195_159, x195_162, x195_163, x195_166, x195_168, x195_169, x195_171, x195_174, x195_175, x195_178, x195_179, x195_180, x195_181, x195_184, x195_187, x195_190, x195_192, x195_192b, x195_195, x195_197, x195_198, x195_201, x195_203, x195_204, x195_207, x195_210, x195_211, x195_214, x195_215, x195_216, x195_219, x195_221, x195_223, x195_224, x195_225, x195_226, x195_229, x195_232, x195_235, x195_236, x195_239, x195_241, x195_242, x195_243, x195_244, x195_246, x195_248, x195_249, x195_252, x195_253, x195_256, x195_258, x195_260, x195_261, x195_262, x195_265, x195_267, x195_268, x195_269, x195_272, x195_275, x195_276, x195_279, e195, XC_v, XC_s, true_and, and_true, and_self, bq_T, bq_F, yt_s, Bool.false_eq_true, Bool.true_eq_false, mm_cl, mm_1, uN_s, uN_n, uA_s, uA_n, uN_uN, mf_0, mf_1, mf_2, mf_3, mf_4, mf_5, mf_6, mf_7, mf_8, mf_9, mf_10, mf_11, mf_12, mf_13, mf_14, mf_15, mf_16, mf_17, mf_18, mf_19, mf_20, mf_21, mf_22, mf_23, mf_24, mf_25, mf_26, mf_27, mf_28, mf_29, mf_30, mf_31, mf_32, mf_33, mf_34, mf_35, mf_36, mf_37, mf_38, mf_39, mf_40, ms_3, ms_4, ms_5, ms_7, ms_9, ms_10, ms_11, ms_12, ms_14, ms_16, ms_17, ms_18, ms_24, ms_25, ms_29, ms_34, ms_35, ms_38, ma_0, ma_1, ma_2, ma_3, ma_4, ma_5, ma_6, ma_7, ma_8, ma_9, ma_10, ma_11, ma_12, ma_13, ma_14, ma_15, ma_16, ma_17, ma_18, ma_19, ma_20, ma_21, ma_22, mw_0, mw_1, mw_2, mw_3, mw_4, mw_5, mw_6, mw_7, mw_8, mw_9, mw_10, mw_11, mw_12, mw_13, mw_14, mw_15, mw_16, mw_17, mw_18, mw_19, mw_20, mw_21, mw_22, h38]) | (refine bq_t (by omega) ?_) | (refine bq_f (by omega) ?_) | fail)
    rw [ek]
    exact hq
  | succ f ih =>
    intro k hf hq
    have ha := hA k (by omega) (by omega)
    have hg := hrg k (by omega) (by omega)
    have a1 := ha.1
    have a2 := ha.2
    have i1 := ih (k + 1) (by omega) hq
    unfold am at i1
    rw [x195_104]
    by_cases hc : (gl ls k).1 ≤ place ∧ place < (gl ls k).2
    · rw [if_pos hc] at i1
      repeat' (first | (simp (disch := first | assumption | exact wd_n | exact wd_i | exact wd_r | exact ct_r | exact ct_i | exact stB_0 | exact stB_1 | exact stB_2 | exact stB_3 | exact stB_4 | exact stB_5 | exact ct_2 | exact b2i_c _ | exact wd_0 | exact wd_f | omega) only [x195_0, x195_1, x195_2, x195_3, x195_6, x195_6b, x195_9, x195_10, x195_13, x195_14, x195_17, x195_17b, x195_20, x195_21, x195_24, x195_25, x195_28, x195_28b, x195_31, x195_32, x195_33, x195_34, x195_35, x195_38, x195_39, x195_40, x195_43, x195_45, x195_46, x195_47, x195_50, x195_51, x195_52, x195_55, x195_56, x195_58, x195_61, x195_62, x195_65, x195_66, x195_69, x195_69b, x195_72, x195_73, x195_74, x195_75, x195_78, x195_79, x195_80, x195_81, x195_83, x195_84, x195_86, x195_88, x195_89, x195_92, x195_94, x195_95, x195_98, x195_99, x195_101, x195_102, x195_106, x195_107, x195_110, x195_113, x195_115, x195_117, x195_118, x195_121, x195_123, x195_124, x195_127, x195_129, x195_130, x195_133, x195_135, x195_136, x195_139, x195_140, x195_143, x195_144, x195_145, x195_147, x195_150, x195_155, x195_156, x195_159, x195_162, x195_163, x195_166, x195_168, x195_169, x195_171, x195_174, x195_175, x195_178, x195_179, x195_180, x195_181, x195_184, x195_187, x195_190, x195_192, x195_192b, x195_195, x195_197, x195_198, x195_201, x195_203, x195_204, x195_207, x195_210, x195_211, x195_214, x195_215, x195_216, x195_219, x195_221, x195_223, x195_224, x195_225, x195_226, x195_229, x195_232, x195_235, x195_236, x195_239, x195_241, x195_242, x195_243, x195_244, x195_246, x195_248, x195_249, x195_252, x195_253, x195_256, x195_258, x195_260, x195_261, x195_262, x195_265, x195_267, x195_268, x195_269, x195_272, x195_275, x195_276, x195_279, e195, XC_v, XC_s, true_and, and_true, and_self, bq_T, bq_F, yt_s, Bool.false_eq_true, Bool.true_eq_false, mm_cl, mm_1, uN_s, uN_n, uA_s, uA_n, uN_uN, mf_0, mf_1, mf_2, mf_3, mf_4, mf_5, mf_6, mf_7, mf_8, mf_9, mf_10, mf_11, mf_12, mf_13, mf_14, mf_15, mf_16, mf_17, mf_18, mf_19, mf_20, mf_21, mf_22, mf_23, mf_24, mf_25, mf_26, mf_27, mf_28, mf_29, mf_30, mf_31, mf_32, mf_33, mf_34, mf_35, mf_36, mf_37, mf_38, mf_39, mf_40, ms_3, ms_4, ms_5, ms_7, ms_9, ms_10, ms_11, ms_12, ms_14, ms_16, ms_17, ms_18, ms_24, ms_25, ms_29, ms_34, ms_35, ms_38, ma_0, ma_1, ma_2, ma_3, ma_4, ma_5, ma_6, ma_7, ma_8, ma_9, ma_10, ma_11, ma_12, ma_13, ma_14, ma_15, ma_16, ma_17, ma_18, ma_19, ma_20, ma_21, ma_22, mw_0, mw_1, mw_2, mw_3, mw_4, mw_5, mw_6, mw_7, mw_8, mw_9, mw_10, mw_11, mw_12, mw_13, mw_14, mw_15, mw_16, mw_17, mw_18, mw_19, mw_20, mw_21, mw_22, h38, a1, a2, ior_1, ior_0]) | (refine bq_t (by omega) ?_) | (refine bq_f (by omega) ?_) | fail)
      exact i1
    · rw [if_neg hc] at i1
      repeat' (first | (simp (disch := first | assumption | exact wd_n | exact wd_i | exact wd_r | exact ct_r | exact ct_i | exact stB_0 | exact stB_1 | exact stB_2 | exact stB_3 | exact stB_4 | exact stB_5 | exact ct_2 | exact b2i_c _ | exact wd_0 | exact wd_f | omega) only [x195_0, x195_1, x195_2, x195_3, x195_6, x195_6b, x195_9, x195_10, x195_13, x195_14, x195_17, x195_17b, x195_20, x195_21, x195_24, x195_25, x195_28, x195_28b, x195_31, x195_32, x195_33, x195_34, x195_35, x195_38, x195_39, x195_40, x195_43, x195_45, x195_46, x195_47, x195_50, x195_51, x195_52, x195_55, x195_56, x195_58, x195_61, x195_62, x195_65, x195_66, x195_69, x195_69b, x195_72, x195_73, x195_74, x195_75, x195_78, x195_79, x195_80, x195_81, x195_83, x195_84, x195_86, x195_88, x195_89, x195_92, x195_94, x195_95, x195_98, x195_99, x195_101, x195_102, x195_106, x195_107, x195_110, x195_113, x195_115, x195_117, x195_118, x195_121, x195_123, x195_124, x195_127, x195_129, x195_130, x195_133, x195_135, x195_136, x195_139, x195_140, x195_143, x195_144, x195_145, x195_147, x195_150, x195_155, x195_156, x195_159, x195_162, x195_163, x195_166, x195_168, x195_169, x195_171, x195_174, x195_175, x195_178, x195_179, x195_180, x195_181, x195_184, x195_187, x195_190, x195_192, x195_192b, x195_195, x195_197, x195_198, x195_201, x195_203, x195_204, x195_207, x195_210, x195_211, x195_214, x195_215, x195_216, x195_219, x195_221, x195_223, x195_224, x195_225, x195_226, x195_229, x195_232, x195_235, x195_236, x195_239, x195_241, x195_242, x195_243, x195_244, x195_246, x195_248, x195_249, x195_252, x195_253, x195_256, x195_258, x195_260, x195_261, x195_262, x195_265, x195_267, x195_268, x195_269, x195_272, x195_275, x195_276, x195_279, e195, XC_v, XC_s, true_and, and_true, and_self, bq_T, bq_F, yt_s, Bool.false_eq_true, Bool.true_eq_false, mm_cl, mm_1, uN_s, uN_n, uA_s, uA_n, uN_uN, mf_0, mf_1, mf_2, mf_3, mf_4, mf_5, mf_6, mf_7, mf_8, mf_9, mf_10, mf_11, mf_12, mf_13, mf_14, mf_15, mf_16, mf_17, mf_18, mf_19, mf_20, mf_21, mf_22, mf_23, mf_24, mf_25, mf_26, mf_27, mf_28, mf_29, mf_30, mf_31, mf_32, mf_33, mf_34, mf_35, mf_36, mf_37, mf_38, mf_39, mf_40, ms_3, ms_4, ms_5, ms_7, ms_9, ms_10, ms_11, ms_12, ms_14, ms_16, ms_17, ms_18, ms_24, ms_25, ms_29, ms_34, ms_35, ms_38, ma_0, ma_1, ma_2, ma_3, ma_4, ma_5, ma_6, ma_7, ma_8, ma_9, ma_10, ma_11, ma_12, ma_13, ma_14, ma_15, ma_16, ma_17, ma_18, ma_19, ma_20, ma_21, ma_22, mw_0, mw_1, mw_2, mw_3, mw_4, mw_5, mw_6, mw_7, mw_8, mw_9, mw_10, mw_11, mw_12, mw_13, mw_14, mw_15, mw_16, mw_17, mw_18, mw_19, mw_20, mw_21, mw_22, h38, a1, a2, ior_1, ior_0]) | (refine bq_t (by omega) ?_) | (refine bq_f (by omega) ?_) | (refine bq_i (fun h => ?_) (fun h => ?_)) | fail)
      all_goals first | exact i1 | omega
theorem m_rpL {ls : ML} {TOT : List Int} (hG : S.2 0 = G) (hk : GOK G) (h38 : S.1 38 = (ls.length : Int)) (hA : LA (S.2 19) (S.2 20) ls) (hn : (ls.length : Int) ≤ 41) (hrg : ∀ i, 0 ≤ i → i < (ls.length : Int) → 0 ≤ (gl ls i).1 ∧ (gl ls i).1 ≤ 40 ∧ 0 ≤ (gl ls i).2 ∧ (gl ls i).2 ≤ 40) (hT : TOT.length ≤ 40) (hq : ∀ c l6 l7, OT c TOT → XX X d 195 (235, [some (.ref m), some (.int (ii p)), some (.int (ii ch)), some (.int (ii (TOT.length : Int))), some (.int (ii (ls.length : Int))), some (.int (ii (G 125 + 1))), l6, l7], [], mm M0 m (S.1, uA S.2 21 c)) Q) : ∀ (f : Nat) (place E : Int) (pre l : ML) (out : List Int) (c : Int → Int) (l6 l7 : Option Value), wide (some l6) = false → wide (some l7) = false → 0 ≤ place → G 125 + 1 - place = f → ls = pre ++ l → OT c out → (∀ i, 0 ≤ i → i < (pre.length : Int) → (gl ls i).1 < place ∧ (gl ls i).2 ≤ E) → (place < E → ∃ i, 0 ≤ i ∧ i < (pre.length : Int) ∧ (gl ls i).2 = E) → E ≤ G 125 → MLok (G 125) (max place E) l → TOT = out ++ rpF (tx G) (G 125) ch (max place E) l →
    XX X d 195 (86, [some (.ref m), some (.int (ii p)), some (.int (ii ch)), some (.int (ii (out.length : Int))), some (.int (ii (pre.length : Int))), some (.int (ii place)), l6, l7], [], mm M0 m (S.1, uA S.2 21 c)) Q := by
  obtain ⟨x1, x2, x3⟩ := hk.2.2.2
  have e125 : S.2 0 125 = G 125 := by rw [hG]
  intro f
  induction f with
  | zero =>
    intro place E pre l out c l6 l7 w6 w7 h0 hf hls hot hp1 hp2 hE hM hTo
    have hl0 : l = [] := by
      cases l with
      | nil => rfl
      | cons v l => obtain ⟨a1, a2, a3, a4⟩ := hM; omega
    rw [hl0, rpF_n, sgm_0 (by omega), List.append_nil] at hTo
    rw [← hTo] at hot
    have hpn : (pre.length : Int) = (ls.length : Int) := by rw [hls, hl0]; simp
    rw [x195_86]
    repeat' (first | (simp (disch := first | assumption | exact wd_n | exact wd_i | exact wd_r | exact ct_r | exact ct_i | exact stB_0 | exact stB_1 | exact stB_2 | exact stB_3 | exact stB_4 | exact stB_5 | exact ct_2 | exact b2i_c _ | exact wd_0 | exact wd_f | omega) only [x195_0, x195_1, x195_2, x195_3, x195_6, x195_6b, x195_9, x195_10, x195_13, x195_14, x195_17, x195_17b, x195_20, x195_21, x195_24, x195_25, x195_28, x195_28b, x195_31, x195_32, x195_33, x195_34, x195_35, x195_38, x195_39, x195_40, x195_43, x195_45, x195_46, x195_47, x195_50, x195_51, x195_52, x195_55, x195_56, x195_58, x195_61, x195_62, x195_65, x195_66, x195_69, x195_69b, x195_72, x195_73, x195_74, x195_75, x195_78, x195_79, x195_80, x195_81, x195_83, x195_84, x195_88, x195_89, x195_92, x195_94, x195_95, x195_98, x195_99, x195_101, x195_102, x195_104, x195_106, x195_107, x195_110, x195_113, x195_115, x195_117, x195_118, x195_121, x195_123, x195_124, x195_127, x195_129, x195_130, x195_133, x195_135, x195_136, x195_139, x195_140, x195_143, x195_144, x195_145, x195_147, x195_150, x195_153, x195_155, x195_156, x195_159, x195_162, x195_163, x195_166, x195_168, x195_169, x195_171, x195_174, x195_175, x195_178, x195_179, x195_180, x195_181, x195_184, x195_187, x195_190, x195_192, x195_192b, x195_195, x195_197, x195_198, x195_201, x195_203, x195_204, x195_207, x195_210, x195_211, x195_214, x195_215, x195_216, x195_219, x195_221, x195_223, x195_224, x195_225, x195_226, x195_229, x195_232, x195_236, x195_239, x195_241, x195_242, x195_243, x195_244, x195_246, x195_248, x195_249, x195_252, x195_253, x195_256, x195_258, x195_260, x195_261, x195_262, x195_265, x195_267, x195_268, x195_269, x195_272, x195_275, x195_276, x195_279, e195, XC_v, XC_s, true_and, and_true, and_self, bq_T, bq_F, yt_s, Bool.false_eq_true, Bool.true_eq_false, mm_cl, mm_1, uN_s, uN_n, uA_s, uA_n, uN_uN, mf_0, mf_1, mf_2, mf_3, mf_4, mf_5, mf_6, mf_7, mf_8, mf_9, mf_10, mf_11, mf_12, mf_13, mf_14, mf_15, mf_16, mf_17, mf_18, mf_19, mf_20, mf_21, mf_22, mf_23, mf_24, mf_25, mf_26, mf_27, mf_28, mf_29, mf_30, mf_31, mf_32, mf_33, mf_34, mf_35, mf_36, mf_37, mf_38, mf_39, mf_40, ms_3, ms_4, ms_5, ms_7, ms_9, ms_10, ms_11, ms_12, ms_14, ms_16, ms_17, ms_18, ms_24, ms_25, ms_29, ms_34, ms_35, ms_38, ma_0, ma_1, ma_2, ma_3, ma_4, ma_5, ma_6, ma_7, ma_8, ma_9, ma_10, ma_11, ma_12, ma_13, ma_14, ma_15, ma_16, ma_17, ma_18, ma_19, ma_20, ma_21, ma_22, mw_0, mw_1, mw_2, mw_3, mw_4, mw_5, mw_6, mw_7, mw_8, mw_9, mw_10, mw_11, mw_12, mw_13, mw_14, mw_15, mw_16, mw_17, mw_18, mw_19, mw_20, mw_21, mw_22, e125]) | (refine bq_t (by omega) ?_) | (refine bq_f (by omega) ?_) | fail)
    rw [← hTo, hpn, show place = G 125 + 1 by omega]
    exact hq c _ _ hot
  | succ f ih =>
    intro place E pre l out c l6 l7 w6 w7 h0 hf hls hot hp1 hp2 hE hM hTo
    have hpn : (pre.length : Int) + (l.length : Int) = (ls.length : Int) := by rw [hls]; simp
    rw [x195_86]
    repeat' (first | (simp (disch := first | assumption | exact wd_n | exact wd_i | exact wd_r | exact ct_r | exact ct_i | exact stB_0 | exact stB_1 | exact stB_2 | exact stB_3 | exact stB_4 | exact stB_5 | exact ct_2 | exact b2i_c _ | exact wd_0 | exact wd_f | omega) only [x195_0, x195_1, x195_2, x195_3, x195_6, x195_6b, x195_9, x195_10, x195_13, x195_14, x195_17, x195_17b, x195_20, x195_21, x195_24, x195_25, x195_28, x195_28b, x195_31, x195_32, x195_33, x195_34, x195_35, x195_38, x195_39, x195_40, x195_43, x195_45, x195_46, x195_47, x195_50, x195_51, x195_52, x195_55, x195_56, x195_58, x195_61, x195_62, x195_65, x195_66, x195_69, x195_69b, x195_72, x195_73, x195_74, x195_75, x195_78, x195_79, x195_80, x195_81, x195_83, x195_84, x195_88, x195_89, x195_92, x195_94, x195_95, x195_98, x195_99, x195_101, x195_102, x195_106, x195_107, x195_110, x195_113, x195_115, x195_117, x195_118, x195_121, x195_123, x195_124, x195_127, x195_129, x195_130, x195_133, x195_135, x195_136, x195_139, x195_140, x195_143, x195_144, x195_145, x195_147, x195_150, x195_153, x195_155, x195_156, x195_159, x195_162, x195_163, x195_166, x195_168, x195_169, x195_171, x195_174, x195_175, x195_178, x195_179, x195_180, x195_181, x195_184, x195_187, x195_190, x195_192, x195_192b, x195_195, x195_197, x195_198, x195_201, x195_203, x195_204, x195_207, x195_210, x195_211, x195_214, x195_215, x195_216, x195_219, x195_221, x195_223, x195_224, x195_225, x195_226, x195_229, x195_232, x195_235, x195_236, x195_239, x195_241, x195_242, x195_243, x195_244, x195_246, x195_248, x195_249, x195_252, x195_253, x195_256, x195_258, x195_260, x195_261, x195_262, x195_265, x195_267, x195_268, x195_269, x195_272, x195_275, x195_276, x195_279, e195, XC_v, XC_s, true_and, and_true, and_self, bq_T, bq_F, yt_s, Bool.false_eq_true, Bool.true_eq_false, mm_cl, mm_1, uN_s, uN_n, uA_s, uA_n, uN_uN, mf_0, mf_1, mf_2, mf_3, mf_4, mf_5, mf_6, mf_7, mf_8, mf_9, mf_10, mf_11, mf_12, mf_13, mf_14, mf_15, mf_16, mf_17, mf_18, mf_19, mf_20, mf_21, mf_22, mf_23, mf_24, mf_25, mf_26, mf_27, mf_28, mf_29, mf_30, mf_31, mf_32, mf_33, mf_34, mf_35, mf_36, mf_37, mf_38, mf_39, mf_40, ms_3, ms_4, ms_5, ms_7, ms_9, ms_10, ms_11, ms_12, ms_14, ms_16, ms_17, ms_18, ms_24, ms_25, ms_29, ms_34, ms_35, ms_38, ma_0, ma_1, ma_2, ma_3, ma_4, ma_5, ma_6, ma_7, ma_8, ma_9, ma_10, ma_11, ma_12, ma_13, ma_14, ma_15, ma_16, ma_17, ma_18, ma_19, ma_20, ma_21, ma_22, mw_0, mw_1, mw_2, mw_3, mw_4, mw_5, mw_6, mw_7, mw_8, mw_9, mw_10, mw_11, mw_12, mw_13, mw_14, mw_15, mw_16, mw_17, mw_18, mw_19, mw_20, mw_21, mw_22, e125]) | (refine bq_t (by omega) ?_) | (refine bq_f (by omega) ?_) | fail)
    refine m_rpM (ls := ls) (place := place) h38 hA hn hrg (by omega) ls.length 0 (by omega) ?_
    -- at 190: what is not matched is written
    have P190 : ∀ (im : Bool) (pre l : ML) (out : List Int) (c : Int → Int) (E : Int), ls = pre ++ l → OT c out → (∀ i, 0 ≤ i → i < (pre.length : Int) → (gl ls i).1 < place + 1 ∧ (gl ls i).2 ≤ E) → (place + 1 < E → ∃ i, 0 ≤ i ∧ i < (pre.length : Int) ∧ (gl ls i).2 = E) → E ≤ G 125 → MLok (G 125) (max (place + 1) E) l → (im = true → place < E ∧ TOT = out ++ rpF (tx G) (G 125) ch E l) → (im = false → E ≤ place ∧ TOT = out ++ rpF (tx G) (G 125) ch place l) → XX X d 195 (190, [some (.ref m), some (.int (ii p)), some (.int (ii ch)), some (.int (ii (out.length : Int))), some (.int (ii (pre.length : Int))), some (.int (ii place)), some (.int (ii (b2i im))), some (.int (ii (ls.length : Int)))], [], mm M0 m (S.1, uA S.2 21 c)) Q := by
      intro im pre l out c E hls hot hp1 hp2 hE hM hT1 hT2
      cases im with
      | true =>
        obtain ⟨hx, hTo⟩ := hT1 rfl
        repeat' (first | (simp (disch := first | assumption | exact wd_n | exact wd_i | exact wd_r | exact ct_r | exact ct_i | exact stB_0 | exact stB_1 | exact stB_2 | exact stB_3 | exact stB_4 | exact stB_5 | exact ct_2 | exact b2i_c _ | exact wd_0 | exact wd_f | omega) only [x195_0, x195_1, x195_2, x195_3, x195_6, x195_6b, x195_9, x195_10, x195_13, x195_14, x195_17, x195_17b, x195_20, x195_21, x195_24, x195_25, x195_28, x195_28b, x195_31, x195_32, x195_33, x195_34, x195_35, x195_38, x195_39, x195_40, x195_43, x195_45, x195_46, x195_47, x195_50, x195_51, x195_52, x195_55, x195_56, x195_58, x195_61, x195_62, x195_65, x195_66, x195_69, x195_69b, x195_72, x195_73, x195_74, x195_75, x195_78, x195_79, x195_80, x195_81, x195_83, x195_84, x195_88, x195_89, x195_92, x195_94, x195_95, x195_98, x195_99, x195_101, x195_102, x195_104, x195_106, x195_107, x195_110, x195_113, x195_115, x195_117, x195_118, x195_121, x195_123, x195_124, x195_127, x195_129, x195_130, x195_133, x195_135, x195_136, x195_139, x195_140, x195_143, x195_144, x195_145, x195_147, x195_150, x195_153, x195_155, x195_156, x195_159, x195_162, x195_163, x195_166, x195_168, x195_169, x195_171, x195_174, x195_175, x195_178, x195_179, x195_180, x195_181, x195_184, x195_187, x195_190, x195_192, x195_192b, x195_195, x195_197, x195_198, x195_201, x195_203, x195_204, x195_207, x195_210, x195_211, x195_214, x195_215, x195_216, x195_219, x195_221, x195_223, x195_224, x195_225, x195_226, x195_229, x195_232, x195_235, x195_236, x195_239, x195_241, x195_242, x195_243, x195_244, x195_246, x195_248, x195_249, x195_252, x195_253, x195_256, x195_258, x195_260, x195_261, x195_262, x195_265, x195_267, x195_268, x195_269, x195_272, x195_275, x195_276, x195_279, e195, XC_v, XC_s, true_and, and_true, and_self, bq_T, bq_F, yt_s, Bool.false_eq_true, Bool.true_eq_false, mm_cl, mm_1, uN_s, uN_n, uA_s, uA_n, uN_uN, mf_0, mf_1, mf_2, mf_3, mf_4, mf_5, mf_6, mf_7, mf_8, mf_9, mf_10, mf_11, mf_12, mf_13, mf_14, mf_15, mf_16, mf_17, mf_18, mf_19, mf_20, mf_21, mf_22, mf_23, mf_24, mf_25, mf_26, mf_27, mf_28, mf_29, mf_30, mf_31, mf_32, mf_33, mf_34, mf_35, mf_36, mf_37, mf_38, mf_39, mf_40, ms_3, ms_4, ms_5, ms_7, ms_9, ms_10, ms_11, ms_12, ms_14, ms_16, ms_17, ms_18, ms_24, ms_25, ms_29, ms_34, ms_35, ms_38, ma_0, ma_1, ma_2, ma_3, ma_4, ma_5, ma_6, ma_7, ma_8, ma_9, ma_10, ma_11, ma_12, ma_13, ma_14, ma_15, ma_16, ma_17, ma_18, ma_19, ma_20, ma_21, ma_22, mw_0, mw_1, mw_2, mw_3, mw_4, mw_5, mw_6, mw_7, mw_8, mw_9, mw_10, mw_11, mw_12, mw_13, mw_14, mw_15, mw_16, mw_17, mw_18, mw_19, mw_20, mw_21, mw_22]) | (refine bq_t (by omega) ?_) | (refine bq_f (by omega) ?_) | fail)
        exact ih (place + 1) E pre l out c _ _ rfl rfl (by omega) (by omega) hls hot hp1 hp2 hE hM (by rw [show max (place + 1) E = E by omega]; exact hTo)
      | false =>
        obtain ⟨hx, hTo⟩ := hT2 rfl
        rw [show max (place + 1) E = place + 1 by omega] at hM
        by_cases hL : place = G 125
        · repeat' (first | (simp (disch := first | assumption | exact wd_n | exact wd_i | exact wd_r | exact ct_r | exact ct_i | exact stB_0 | exact stB_1 | exact stB_2 | exact stB_3 | exact stB_4 | exact stB_5 | exact ct_2 | exact b2i_c _ | exact wd_0 | exact wd_f | omega) only [x195_0, x195_1, x195_2, x195_3, x195_6, x195_6b, x195_9, x195_10, x195_13, x195_14, x195_17, x195_17b, x195_20, x195_21, x195_24, x195_25, x195_28, x195_28b, x195_31, x195_32, x195_33, x195_34, x195_35, x195_38, x195_39, x195_40, x195_43, x195_45, x195_46, x195_47, x195_50, x195_51, x195_52, x195_55, x195_56, x195_58, x195_61, x195_62, x195_65, x195_66, x195_69, x195_69b, x195_72, x195_73, x195_74, x195_75, x195_78, x195_79, x195_80, x195_81, x195_83, x195_84, x195_88, x195_89, x195_92, x195_94, x195_95, x195_98, x195_99, x195_101, x195_102, x195_104, x195_106, x195_107, x195_110, x195_113, x195_115, x195_117, x195_118, x195_121, x195_123, x195_124, x195_127, x195_129, x195_130, x195_133, x195_135, x195_136, x195_139, x195_140, x195_143, x195_144, x195_145, x195_147, x195_150, x195_153, x195_155, x195_156, x195_159, x195_162, x195_163, x195_166, x195_168, x195_169, x195_171, x195_174, x195_175, x195_178, x195_179, x195_180, x195_181, x195_184, x195_187, x195_190, x195_192, x195_192b, x195_195, x195_197, x195_198, x195_201, x195_203, x195_204, x195_207, x195_210, x195_211, x195_214, x195_215, x195_216, x195_219, x195_221, x195_223, x195_224, x195_225, x195_226, x195_229, x195_232, x195_235, x195_236, x195_239, x195_241, x195_242, x195_243, x195_244, x195_246, x195_248, x195_249, x195_252, x195_253, x195_256, x195_258, x195_260, x195_261, x195_262, x195_265, x195_267, x195_268, x195_269, x195_272, x195_275, x195_276, x195_279, e195, XC_v, XC_s, true_and, and_true, and_self, bq_T, bq_F, yt_s, Bool.false_eq_true, Bool.true_eq_false, mm_cl, mm_1, uN_s, uN_n, uA_s, uA_n, uN_uN, mf_0, mf_1, mf_2, mf_3, mf_4, mf_5, mf_6, mf_7, mf_8, mf_9, mf_10, mf_11, mf_12, mf_13, mf_14, mf_15, mf_16, mf_17, mf_18, mf_19, mf_20, mf_21, mf_22, mf_23, mf_24, mf_25, mf_26, mf_27, mf_28, mf_29, mf_30, mf_31, mf_32, mf_33, mf_34, mf_35, mf_36, mf_37, mf_38, mf_39, mf_40, ms_3, ms_4, ms_5, ms_7, ms_9, ms_10, ms_11, ms_12, ms_14, ms_16, ms_17, ms_18, ms_24, ms_25, ms_29, ms_34, ms_35, ms_38, ma_0, ma_1, ma_2, ma_3, ma_4, ma_5, ma_6, ma_7, ma_8, ma_9, ma_10, ma_11, ma_12, ma_13, ma_14, ma_15, ma_16, ma_17, ma_18, ma_19, ma_20, ma_21, ma_22, mw_0, mw_1, mw_2, mw_3, mw_4, mw_5, mw_6, mw_7, mw_8, mw_9, mw_10, mw_11, mw_12, mw_13, mw_14, mw_15, mw_16, mw_17, mw_18, mw_19, mw_20, mw_21, mw_22, e125]) | (refine bq_t (by omega) ?_) | (refine bq_f (by omega) ?_) | fail)
          refine ih (place + 1) E pre l out c _ _ rfl rfl (by omega) (by omega) hls hot hp1 hp2 hE (by rw [show max (place + 1) E = place + 1 by omega]; exact hM) ?_
          rw [hTo, show max (place + 1) E = place + 1 by omega]
          cases l with
          | nil => rw [rpF_n, rpF_n, sgm_0 (by omega), sgm_0 (by omega)]
          | cons v l => obtain ⟨a1, a2, a3, a4⟩ := hM; omega
        · rw [rpF_s hM (by omega)] at hTo
          have hol : (out.length : Int) < 40 := by
            rw [hTo] at hT
            simp at hT
            omega
          have etx : S.2 0 (126 + place) = tx G place := by rw [hG]; rfl
          repeat' (first | (simp (disch := first | assumption | exact wd_n | exact wd_i | exact wd_r | exact ct_r | exact ct_i | exact stB_0 | exact stB_1 | exact stB_2 | exact stB_3 | exact stB_4 | exact stB_5 | exact ct_2 | exact b2i_c _ | exact wd_0 | exact wd_f | omega) only [x195_0, x195_1, x195_2, x195_3, x195_6, x195_6b, x195_9, x195_10, x195_13, x195_14, x195_17, x195_17b, x195_20, x195_21, x195_24, x195_25, x195_28, x195_28b, x195_31, x195_32, x195_33, x195_34, x195_35, x195_38, x195_39, x195_40, x195_43, x195_45, x195_46, x195_47, x195_50, x195_51, x195_52, x195_55, x195_56, x195_58, x195_61, x195_62, x195_65, x195_66, x195_69, x195_69b, x195_72, x195_73, x195_74, x195_75, x195_78, x195_79, x195_80, x195_81, x195_83, x195_84, x195_88, x195_89, x195_92, x195_94, x195_95, x195_98, x195_99, x195_101, x195_102, x195_104, x195_106, x195_107, x195_110, x195_113, x195_115, x195_117, x195_118, x195_121, x195_123, x195_124, x195_127, x195_129, x195_130, x195_133, x195_135, x195_136, x195_139, x195_140, x195_143, x195_144, x195_145, x195_147, x195_150, x195_153, x195_155, x195_156, x195_159, x195_162, x195_163, x195_166, x195_168, x195_169, x195_171, x195_174, x195_175, x195_178, x195_179, x195_180, x195_181, x195_184, x195_187, x195_190, x195_192, x195_192b, x195_195, x195_197, x195_198, x195_201, x195_203, x195_204, x195_207, x195_210, x195_211, x195_214, x195_215, x195_216, x195_219, x195_221, x195_223, x195_224, x195_225, x195_226, x195_229, x195_232, x195_235, x195_236, x195_239, x195_241, x195_242, x195_243, x195_244, x195_246, x195_248, x195_249, x195_252, x195_253, x195_256, x195_258, x195_260, x195_261, x195_262, x195_265, x195_267, x195_268, x195_269, x195_272, x195_275, x195_276, x195_279, e195, XC_v, XC_s, true_and, and_true, and_self, bq_T, bq_F, yt_s, Bool.false_eq_true, Bool.true_eq_false, mm_cl, mm_1, uN_s, uN_n, uA_s, uA_n, uN_uN, mf_0, mf_1, mf_2, mf_3, mf_4, mf_5, mf_6, mf_7, mf_8, mf_9, mf_10, mf_11, mf_12, mf_13, mf_14, mf_15, mf_16, mf_17, mf_18, mf_19, mf_20, mf_21, mf_22, mf_23, mf_24, mf_25, mf_26, mf_27, mf_28, mf_29, mf_30, mf_31, mf_32, mf_33, mf_34, mf_35, mf_36, mf_37, mf_38, mf_39, mf_40, ms_3, ms_4, ms_5, ms_7, ms_9, ms_10, ms_11, ms_12, ms_14, ms_16, ms_17, ms_18, ms_24, ms_25, ms_29, ms_34, ms_35, ms_38, ma_0, ma_1, ma_2, ma_3, ma_4, ma_5, ma_6, ma_7, ma_8, ma_9, ma_10, ma_11, ma_12, ma_13, ma_14, ma_15, ma_16, ma_17, ma_18, ma_19, ma_20, ma_21, ma_22, mw_0, mw_1, mw_2, mw_3, mw_4, mw_5, mw_6, mw_7, mw_8, mw_9, mw_10, mw_11, mw_12, mw_13, mw_14, mw_15, mw_16, mw_17, mw_18, mw_19, mw_20, mw_21, mw_22, e125, etx, uA_uA]) | (refine bq_t (by omega) ?_) | (refine bq_f (by omega) ?_) | fail)
          have e1 : ((out ++ [tx G place]).length : Int) = (out.length : Int) + 1 := by simp
          rw [← e1]
          refine ih (place + 1) E pre l (out ++ [tx G place]) _ _ _ rfl rfl (by omega) (by omega) hls (OT_snoc hot) hp1 hp2 hE (by rw [show max (place + 1) E = place + 1 by omega]; exact hM) ?_
          rw [hTo, show max (place + 1) E = place + 1 by omega]; simp
    have hlq : ∀ i, (pre.length : Int) ≤ i → i < (ls.length : Int) → max place E ≤ (gl ls i).1 ∧ (gl ls i).2 ≤ G 125 := by
      intro i a b
      have := MLok_g l _ hM (i - (pre.length : Int)) (by omega) (by omega)
      rw [hls, gl_app a]
      exact ⟨this.1, this.2.2⟩
    by_cases hcE : place < E
    · -- within the match before
      have him : am ls place ls.length = true := by
        obtain ⟨i, a, b, e⟩ := hp2 hcE
        have := hp1 i a b
        exact (am_iff _).mpr ⟨i, a, by omega, by omega, by omega⟩
      rw [him]
      rw [show max place E = E by omega] at hM hTo
      have key := P190 true pre l out c E hls hot (fun i a b => by have := hp1 i a b; omega) (fun q => hp2 hcE) hE (by rw [show max (place + 1) E = E by omega]; exact hM) (fun _ => ⟨hcE, hTo⟩) (fun q => by cases q)
      by_cases hz : (pre.length : Int) < (ls.length : Int)
      · have ha := (hA (pre.length : Int) (by omega) hz).1
        have hl2 := hlq (pre.length : Int) (by omega) hz
        have hg := hrg (pre.length : Int) (by omega) hz
        repeat' (first | (simp (disch := first | assumption | exact wd_n | exact wd_i | exact wd_r | exact ct_r | exact ct_i | exact stB_0 | exact stB_1 | exact stB_2 | exact stB_3 | exact stB_4 | exact stB_5 | exact ct_2 | exact b2i_c _ | exact wd_0 | exact wd_f | omega) only [x195_0, x195_1, x195_2, x195_3, x195_6, x195_6b, x195_9, x195_10, x195_13, x195_14, x195_17, x195_17b, x195_20, x195_21, x195_24, x195_25, x195_28, x195_28b, x195_31, x195_32, x195_33, x195_34, x195_35, x195_38, x195_39, x195_40, x195_43, x195_45, x195_46, x195_47, x195_50, x195_51, x195_52, x195_55, x195_56, x195_58, x195_61, x195_62, x195_65, x195_66, x195_69, x195_69b, x195_72, x195_73, x195_74, x195_75, x195_78, x195_79, x195_80, x195_81, x195_83, x195_84, x195_86, x195_88, x195_89, x195_92, x195_94, x195_95, x195_98, x195_99, x195_101, x195_102, x195_104, x195_106, x195_107, x195_110, x195_113, x195_115, x195_117, x195_118, x195_121, x195_123, x195_124, x195_127, x195_129, x195_130, x195_133, x195_135, x195_136, x195_139, x195_140, x195_143, x195_144, x195_145, x195_147, x195_150, x195_153, x195_155, x195_156, x195_159, x195_162, x195_163, x195_166, x195_168, x195_169, x195_171, x195_174, x195_175, x195_178, x195_179, x195_180, x195_181, x195_184, x195_187, x195_192, x195_192b, x195_195, x195_197, x195_198, x195_201, x195_203, x195_204, x195_207, x195_210, x195_211, x195_214, x195_215, x195_216, x195_219, x195_221, x195_223, x195_224, x195_225, x195_226, x195_229, x195_232, x195_235, x195_236, x195_239, x195_241, x195_242, x195_243, x195_244, x195_246, x195_248, x195_249, x195_252, x195_253, x195_256, x195_258, x195_260, x195_261, x195_262, x195_265, x195_267, x195_268, x195_269, x195_272, x195_275, x195_276, x195_279, e195, XC_v, XC_s, true_and, and_true, and_self, bq_T, bq_F, yt_s, Bool.false_eq_true, Bool.true_eq_false, mm_cl, mm_1, uN_s, uN_n, uA_s, uA_n, uN_uN, mf_0, mf_1, mf_2, mf_3, mf_4, mf_5, mf_6, mf_7, mf_8, mf_9, mf_10, mf_11, mf_12, mf_13, mf_14, mf_15, mf_16, mf_17, mf_18, mf_19, mf_20, mf_21, mf_22, mf_23, mf_24, mf_25, mf_26, mf_27, mf_28, mf_29, mf_30, mf_31, mf_32, mf_33, mf_34, mf_35, mf_36, mf_37, mf_38, mf_39, mf_40, ms_3, ms_4, ms_5, ms_7, ms_9, ms_10, ms_11, ms_12, ms_14, ms_16, ms_17, ms_18, ms_24, ms_25, ms_29, ms_34, ms_35, ms_38, ma_0, ma_1, ma_2, ma_3, ma_4, ma_5, ma_6, ma_7, ma_8, ma_9, ma_10, ma_11, ma_12, ma_13, ma_14, ma_15, ma_16, ma_17, ma_18, ma_19, ma_20, ma_21, ma_22, mw_0, mw_1, mw_2, mw_3, mw_4, mw_5, mw_6, mw_7, mw_8, mw_9, mw_10, mw_11, mw_12, mw_13, mw_14, mw_15, mw_16, mw_17, mw_18, mw_19, mw_20, mw_21, mw_22, h38, ha]) | (refine bq_t (by omega) ?_) | (refine bq_f (by omega) ?_) | fail)
        exact key
      · repeat' (first | (simp (disch := first | assumption | exact wd_n | exact wd_i | exact wd_r | exact ct_r | exact ct_i | exact stB_0 | exact stB_1 | exact stB_2 | exact stB_3 | exact stB_4 | exact stB_5 | exact ct_2 | exact b2i_c _ | exact wd_0 | exact wd_f | omega) only [x195_0, x195_1, x195_2, x195_3, x195_6, x195_6b, x195_9, x195_10, x195_13, x195_14, x195_17, x195_17b, x195_20, x195_21, x195_24, x195_25, x195_28, x195_28b, x195_31, x195_32, x195_33, x195_34, x195_35, x195_38, x195_39, x195_40, x195_43, x195_45, x195_46, x195_47, x195_50, x195_51, x195_52, x195_55, x195_56, x195_58, x195_61, x195_62, x195_65, x195_66, x195_69, x195_69b, x195_72, x195_73, x195_74, x195_75, x195_78, x195_79, x195_80, x195_81, x195_83, x195_84, x195_86, x195_88, x195_89, x195_92, x195_94, x195_95, x195_98, x195_99, x195_101, x195_102, x195_104, x195_106, x195_107, x195_110, x195_113, x195_115, x195_117, x195_118, x195_121, x195_123, x195_124, x195_127, x195_129, x195_130, x195_133, x195_135, x195_136, x195_139, x195_140, x195_143, x195_144, x195_145, x195_147, x195_150, x195_153, x195_155, x195_156, x195_159, x195_162, x195_163, x195_166, x195_168, x195_169, x195_171, x195_174, x195_175, x195_178, x195_179, x195_180, x195_181, x195_184, x195_187, x195_192, x195_192b, x195_195, x195_197, x195_198, x195_201, x195_203, x195_204, x195_207, x195_210, x195_211, x195_214, x195_215, x195_216, x195_219, x195_221, x195_223, x195_224, x195_225, x195_226, x195_229, x195_232, x195_235, x195_236, x195_239, x195_241, x195_242, x195_243, x195_244, x195_246, x195_248, x195_249, x195_252, x195_253, x195_256, x195_258, x195_260, x195_261, x195_262, x195_265, x195_267, x195_268, x195_269, x195_272, x195_275, x195_276, x195_279, e195, XC_v, XC_s, true_and, and_true, and_self, bq_T, bq_F, yt_s, Bool.false_eq_true, Bool.true_eq_false, mm_cl, mm_1, uN_s, uN_n, uA_s, uA_n, uN_uN, mf_0, mf_1, mf_2, mf_3, mf_4, mf_5, mf_6, mf_7, mf_8, mf_9, mf_10, mf_11, mf_12, mf_13, mf_14, mf_15, mf_16, mf_17, mf_18, mf_19, mf_20, mf_21, mf_22, mf_23, mf_24, mf_25, mf_26, mf_27, mf_28, mf_29, mf_30, mf_31, mf_32, mf_33, mf_34, mf_35, mf_36, mf_37, mf_38, mf_39, mf_40, ms_3, ms_4, ms_5, ms_7, ms_9, ms_10, ms_11, ms_12, ms_14, ms_16, ms_17, ms_18, ms_24, ms_25, ms_29, ms_34, ms_35, ms_38, ma_0, ma_1, ma_2, ma_3, ma_4, ma_5, ma_6, ma_7, ma_8, ma_9, ma_10, ma_11, ma_12, ma_13, ma_14, ma_15, ma_16, ma_17, ma_18, ma_19, ma_20, ma_21, ma_22, mw_0, mw_1, mw_2, mw_3, mw_4, mw_5, mw_6, mw_7, mw_8, mw_9, mw_10, mw_11, mw_12, mw_13, mw_14, mw_15, mw_16, mw_17, mw_18, mw_19, mw_20, mw_21, mw_22, h38]) | (refine bq_t (by omega) ?_) | (refine bq_f (by omega) ?_) | fail)
        exact key
    · rw [show max place E = place by omega] at hM hTo hlq
      cases l with
      | nil =>
        have hz : (pre.length : Int) = (ls.length : Int) := by simpa using hpn
        have him : am ls place ls.length = false := by
          cases hx : am ls place ls.length with
          | false => rfl
          | true =>
            obtain ⟨i, a, b, c1, c2⟩ := (am_iff _).mp hx
            have := hp1 i a (by omega)
            omega
        rw [him]
        repeat' (first | (simp (disch := first | assumption | exact wd_n | exact wd_i | exact wd_r | exact ct_r | exact ct_i | exact stB_0 | exact stB_1 | exact stB_2 | exact stB_3 | exact stB_4 | exact stB_5 | exact ct_2 | exact b2i_c _ | exact wd_0 | exact wd_f | omega) only [x195_0, x195_1, x195_2, x195_3, x195_6, x195_6b, x195_9, x195_10, x195_13, x195_14, x195_17, x195_17b, x195_20, x195_21, x195_24, x195_25, x195_28, x195_28b, x195_31, x195_32, x195_33, x195_34, x195_35, x195_38, x195_39, x195_40, x195_43, x195_45, x195_46, x195_47, x195_50, x195_51, x195_52, x195_55, x195_56, x195_58, x195_61, x195_62, x195_65, x195_66, x195_69, x195_69b, x195_72, x195_73, x195_74, x195_75, x195_78, x195_79, x195_80, x195_81, x195_83, x195_84, x195_86, x195_88, x195_89, x195_92, x195_94, x195_95, x195_98, x195_99, x195_101, x195_102, x195_104, x195_106, x195_107, x195_110, x195_113, x195_115, x195_117, x195_118, x195_121, x195_123, x195_124, x195_127, x195_129, x195_130, x195_133, x195_135, x195_136, x195_139, x195_140, x195_143, x195_144, x195_145, x195_147, x195_150, x195_153, x195_155, x195_156, x195_159, x195_162, x195_163, x195_166, x195_168, x195_169, x195_171, x195_174, x195_175, x195_178, x195_179, x195_180, x195_181, x195_184, x195_187, x195_192, x195_192b, x195_195, x195_197, x195_198, x195_201, x195_203, x195_204, x195_207, x195_210, x195_211, x195_214, x195_215, x195_216, x195_219, x195_221, x195_223, x195_224, x195_225, x195_226, x195_229, x195_232, x195_235, x195_236, x195_239, x195_241, x195_242, x195_243, x195_244, x195_246, x195_248, x195_249, x195_252, x195_253, x195_256, x195_258, x195_260, x195_261, x195_262, x195_265, x195_267, x195_268, x195_269, x195_272, x195_275, x195_276, x195_279, e195, XC_v, XC_s, true_and, and_true, and_self, bq_T, bq_F, yt_s, Bool.false_eq_true, Bool.true_eq_false, mm_cl, mm_1, uN_s, uN_n, uA_s, uA_n, uN_uN, mf_0, mf_1, mf_2, mf_3, mf_4, mf_5, mf_6, mf_7, mf_8, mf_9, mf_10, mf_11, mf_12, mf_13, mf_14, mf_15, mf_16, mf_17, mf_18, mf_19, mf_20, mf_21, mf_22, mf_23, mf_24, mf_25, mf_26, mf_27, mf_28, mf_29, mf_30, mf_31, mf_32, mf_33, mf_34, mf_35, mf_36, mf_37, mf_38, mf_39, mf_40, ms_3, ms_4, ms_5, ms_7, ms_9, ms_10, ms_11, ms_12, ms_14, ms_16, ms_17, ms_18, ms_24, ms_25, ms_29, ms_34, ms_35, ms_38, ma_0, ma_1, ma_2, ma_3, ma_4, ma_5, ma_6, ma_7, ma_8, ma_9, ma_10, ma_11, ma_12, ma_13, ma_14, ma_15, ma_16, ma_17, ma_18, ma_19, ma_20, ma_21, ma_22, mw_0, mw_1, mw_2, mw_3, mw_4, mw_5, mw_6, mw_7, mw_8, mw_9, mw_10, mw_11, mw_12, mw_13, mw_14, mw_15, mw_16, mw_17, mw_18, mw_19, mw_20, mw_21, mw_22, h38]) | (refine bq_t (by omega) ?_) | (refine bq_f (by omega) ?_) | fail)
        exact P190 false pre [] out c E hls hot (fun i a b => by have := hp1 i a b; omega) (fun q => by omega) hE trivial (fun q => by cases q) (fun _ => ⟨by omega, hTo⟩)
      | cons v l =>
        have hz : (pre.length : Int) < (ls.length : Int) := by simp only [List.length_cons] at hpn; omega
        have ha := (hA (pre.length : Int) (by omega) hz).1
        have hg := hrg (pre.length : Int) (by omega) hz
        have eg : gl ls (pre.length : Int) = v := by rw [hls]; exact gl_mid
        rw [eg] at ha hg
        obtain ⟨a1, a2, a3, a4⟩ := hM
        have htail : ∀ i, (pre.length : Int) < i → i < (ls.length : Int) → (if v.1 < v.2 then v.2 else v.2 + 1) ≤ (gl ls i).1 := by
          intro i b1 b2
          have := MLok_g l _ a4 (i - ((pre ++ [v]).length : Int)) (by simp; omega) (by simp only [List.length_cons] at hpn; simp; omega)
          have e : ls = (pre ++ [v]) ++ l := by rw [hls]; simp
          rw [e, gl_app (by simp; omega)]
          exact this.1
        by_cases hs : v.1 = place
        · have hol : (out.length : Int) < 40 := by
            rw [hTo, rpF_c] at hT
            simp at hT
            omega
          have e1 : ((out ++ [ch]).length : Int) = (out.length : Int) + 1 := by simp
          have e2 : ((pre ++ [v]).length : Int) = (pre.length : Int) + 1 := by simp
          have hls2 : ls = (pre ++ [v]) ++ l := by rw [hls]; simp
          have hTo2 : TOT = (out ++ [ch]) ++ rpF (tx G) (G 125) ch v.2 l := by
            rw [hTo, rpF_c, hs, sgm_0 (Int.le_refl _)]; simp
          have hp1' : ∀ i, 0 ≤ i → i < ((pre ++ [v]).length : Int) → (gl ls i).1 < place + 1 ∧ (gl ls i).2 ≤ max E v.2 := by
            intro i b1 b2
            by_cases hi : i = (pre.length : Int)
            · rw [hi, eg]; omega
            · have := hp1 i b1 (by omega)
              omega
          -- the next one starts later
          have nxt : ∀ c', OT c' (out ++ [ch]) → XX X d 195 (190, [some (.ref m), some (.int (ii p)), some (.int (ii ch)), some (.int (ii ((out ++ [ch]).length : Int))), some (.int (ii ((pre ++ [v]).length : Int))), some (.int (ii place)), some (.int (ii (b2i (am ls place ls.length)))), some (.int (ii (ls.length : Int)))], [], mm M0 m (S.1, uA S.2 21 c')) Q := by
            intro c' hot'
            by_cases he : place < v.2
            · have him : am ls place ls.length = true := (am_iff _).mpr ⟨(pre.length : Int), by omega, by omega, by rw [eg]; omega, by rw [eg]; omega⟩
              rw [him]
              rw [if_pos (by omega)] at a4
              refine P190 true (pre ++ [v]) l _ c' v.2 hls2 hot' (fun i b1 b2 => by have := hp1' i b1 b2; omega) (fun _ => ⟨(pre.length : Int), by omega, by omega, by rw [eg]⟩) (by omega) (by rw [show max (place + 1) v.2 = v.2 by omega]; exact a4) (fun _ => ⟨he, hTo2⟩) (fun q => by cases q)
            · have hve : v.2 = place := by omega
              rw [if_neg (by omega)] at a4
              have him : am ls place ls.length = false := by
                cases hx : am ls place ls.length with
                | false => rfl
                | true =>
                  obtain ⟨i, b1, b2, c1, c2⟩ := (am_iff _).mp hx
                  by_cases hi : i < (pre.length : Int)
                  · have := hp1 i b1 hi
                    omega
                  · by_cases hi2 : i = (pre.length : Int)
                    · rw [hi2, eg] at c2; omega
                    · have := htail i (by omega) (by omega)
                      rw [if_neg (by omega)] at this
                      omega
              rw [him]
              rw [hve] at a4 hTo2
              refine P190 false (pre ++ [v]) l _ c' (max E v.2) hls2 hot' hp1' (fun q => by omega) (by omega) (by rw [show max (place + 1) (max E v.2) = place + 1 by omega]; exact a4) (fun q => by cases q) (fun _ => ⟨by omega, hTo2⟩)
          have nxt' := nxt (up c (out.length : Int) ch) (OT_snoc hot)
          rw [e1, e2] at nxt'
          by_cases hz2 : (pre.length : Int) + 1 < (ls.length : Int)
          · have ha2 := (hA ((pre.length : Int) + 1) (by omega) hz2).1
            have ht2 := htail ((pre.length : Int) + 1) (by omega) hz2
            have hg2 := hrg ((pre.length : Int) + 1) (by omega) hz2
            have hne : (gl ls ((pre.length : Int) + 1)).1 ≠ place := by
              split at ht2 <;> omega
            repeat' (first | (simp (disch := first | assumption | exact wd_n | exact wd_i | exact wd_r | exact ct_r | exact ct_i | exact stB_0 | exact stB_1 | exact stB_2 | exact stB_3 | exact stB_4 | exact stB_5 | exact ct_2 | exact b2i_c _ | exact wd_0 | exact wd_f | omega) only [x195_0, x195_1, x195_2, x195_3, x195_6, x195_6b, x195_9, x195_10, x195_13, x195_14, x195_17, x195_17b, x195_20, x195_21, x195_24, x195_25, x195_28, x195_28b, x195_31, x195_32, x195_33, x195_34, x195_35, x195_38, x195_39, x195_40, x195_43, x195_45, x195_46, x195_47, x195_50, x195_51, x195_52, x195_55, x195_56, x195_58, x195_61, x195_62, x195_65, x195_66, x195_69, x195_69b, x195_72, x195_73, x195_74, x195_75, x195_78, x195_79, x195_80, x195_81, x195_83, x195_84, x195_86, x195_88, x195_89, x195_92, x195_94, x195_95, x195_98, x195_99, x195_101, x195_102, x195_104, x195_106, x195_107, x195_110, x195_113, x195_115, x195_117, x195_118, x195_121, x195_123, x195_124, x195_127, x195_129, x195_130, x195_133, x195_135, x195_136, x195_139, x195_140, x195_143, x195_144, x195_145, x195_147, x195_150, x195_153, x195_155, x195_156, x195_159, x195_162, x195_163, x195_166, x195_168, x195_169, x195_171, x195_174, x195_175, x195_178, x195_179, x195_180, x195_181, x195_184, x195_187, x195_192, x195_192b, x195_195, x195_197, x195_198, x195_201, x195_203, x195_204, x195_207, x195_210, x195_211, x195_214, x195_215, x195_216, x195_219, x195_221, x195_223, x195_224, x195_225, x195_226, x195_229, x195_232, x195_235, x195_236, x195_239, x195_241, x195_242, x195_243, x195_244, x195_246, x195_248, x195_249, x195_252, x195_253, x195_256, x195_258, x195_260, x195_261, x195_262, x195_265, x195_267, x195_268, x195_269, x195_272, x195_275, x195_276, x195_279, e195, XC_v, XC_s, true_and, and_true, and_self, bq_T, bq_F, yt_s, Bool.false_eq_true, Bool.true_eq_false, mm_cl, mm_1, uN_s, uN_n, uA_s, uA_n, uN_uN, mf_0, mf_1, mf_2, mf_3, mf_4, mf_5, mf_6, mf_7, mf_8, mf_9, mf_10, mf_11, mf_12, mf_13, mf_14, mf_15, mf_16, mf_17, mf_18, mf_19, mf_20, mf_21, mf_22, mf_23, mf_24, mf_25, mf_26, mf_27, mf_28, mf_29, mf_30, mf_31, mf_32, mf_33, mf_34, mf_35, mf_36, mf_37, mf_38, mf_39, mf_40, ms_3, ms_4, ms_5, ms_7, ms_9, ms_10, ms_11, ms_12, ms_14, ms_16, ms_17, ms_18, ms_24, ms_25, ms_29, ms_34, ms_35, ms_38, ma_0, ma_1, ma_2, ma_3, ma_4, ma_5, ma_6, ma_7, ma_8, ma_9, ma_10, ma_11, ma_12, ma_13, ma_14, ma_15, ma_16, ma_17, ma_18, ma_19, ma_20, ma_21, ma_22, mw_0, mw_1, mw_2, mw_3, mw_4, mw_5, mw_6, mw_7, mw_8, mw_9, mw_10, mw_11, mw_12, mw_13, mw_14, mw_15, mw_16, mw_17, mw_18, mw_19, mw_20, mw_21, mw_22, h38, ha, ha2, uA_uA]) | (refine bq_t (by omega) ?_) | (refine bq_f (by omega) ?_) | fail)
            exact nxt'
          · repeat' (first | (simp (disch := first | assumption | exact wd_n | exact wd_i | exact wd_r | exact ct_r | exact ct_i | exact stB_0 | exact stB_1 | exact stB_2 | exact stB_3 | exact stB_4 | exact stB_5 | exact ct_2 | exact b2i_c _ | exact wd_0 | exact wd_f | omega) only [x195_0, x195_1, x195_2, x195_3, x195_6, x195_6b, x195_9, x195_10, x195_13, x195_14, x195_17, x195_17b, x195_20, x195_21, x195_24, x195_25, x195_28, x195_28b, x195_31, x195_32, x195_33, x195_34, x195_35, x195_38, x195_39, x195_40, x195_43, x195_45, x195_46, x195_47, x195_50, x195_51, x195_52, x195_55, x195_56, x195_58, x195_61, x195_62, x195_65, x195_66, x195_69, x195_69b, x195_72, x195_73, x195_74, x195_75, x195_78, x195_79, x195_80, x195_81, x195_83, x195_84, x195_86, x195_88, x195_89, x195_92, x195_94, x195_95, x195_98, x195_99, x195_101, x195_102, x195_104, x195_106, x195_107, x195_110, x195_113, x195_115, x195_117, x195_118, x195_121, x195_123, x195_124, x195_127, x195_129, x195_130, x195_133, x195_135, x195_136, x195_139, x195_140, x195_143, x195_144, x195_145, x195_147, x195_150, x195_153, x195_155, x195_156, x195_159, x195_162, x195_163, x195_166, x195_168, x195_169, x195_171, x195_174, x195_175, x195_178, x195_179, x195_180, x195_181, x195_184, x195_187, x195_192, x195_192b, x195_195, x195_197, x195_198, x195_201, x195_203, x195_204, x195_207, x195_210, x195_211, x195_214, x195_215, x195_216, x195_219, x195_221, x195_223, x195_224, x195_225, x195_226, x195_229, x195_232, x195_235, x195_236, x195_239, x195_241, x195_242, x195_243, x195_244, x195_246, x195_248, x195_249, x195_252, x195_253, x195_256, x195_258, x195_260, x195_261, x195_262, x195_265, x195_267, x195_268, x195_269, x195_272, x195_275, x195_276, x195_279, e195, XC_v, XC_s, true_and, and_true, and_self, bq_T, bq_F, yt_s, Bool.false_eq_true, Bool.true_eq_false, mm_cl, mm_1, uN_s, uN_n, uA_s, uA_n, uN_uN, mf_0, mf_1, mf_2, mf_3, mf_4, mf_5, mf_6, mf_7, mf_8, mf_9, mf_10, mf_11, mf_12, mf_13, mf_14, mf_15, mf_16, mf_17, mf_18, mf_19, mf_20, mf_21, mf_22, mf_23, mf_24, mf_25, mf_26, mf_27, mf_28, mf_29, mf_30, mf_31, mf_32, mf_33, mf_34, mf_35, mf_36, mf_37, mf_38, mf_39, mf_40, ms_3, ms_4, ms_5, ms_7, ms_9, ms_10, ms_11, ms_12, ms_14, ms_16, ms_17, ms_18, ms_24, ms_25, ms_29, ms_34, ms_35, ms_38, ma_0, ma_1, ma_2, ma_3, ma_4, ma_5, ma_6, ma_7, ma_8, ma_9, ma_10, ma_11, ma_12, ma_13, ma_14, ma_15, ma_16, ma_17, ma_18, ma_19, ma_20, ma_21, ma_22, mw_0, mw_1, mw_2, mw_3, mw_4, mw_5, mw_6, mw_7, mw_8, mw_9, mw_10, mw_11, mw_12, mw_13, mw_14, mw_15, mw_16, mw_17, mw_18, mw_19, mw_20, mw_21, mw_22, h38, ha, uA_uA]) | (refine bq_t (by omega) ?_) | (refine bq_f (by omega) ?_) | fail)
            exact nxt'
        · have him : am ls place ls.length = false := by
            cases hx : am ls place ls.length with
            | false => rfl
            | true =>
              obtain ⟨i, b1, b2, c1, c2⟩ := (am_iff _).mp hx
              by_cases hi : i < (pre.length : Int)
              · have := hp1 i b1 hi
                omega
              · by_cases hi2 : i = (pre.length : Int)
                · rw [hi2, eg] at c1; omega
                · have := htail i (by omega) (by omega)
                  split at this <;> omega
          rw [him]
          repeat' (first | (simp (disch := first | assumption | exact wd_n | exact wd_i | exact wd_r | exact ct_r | exact ct_i | exact stB_0 | exact stB_1 | exact stB_2 | exact stB_3 | exact stB_4 | exact stB_5 | exact ct_2 | exact b2i_c _ | exact wd_0 | exact wd_f | omega) only [x195_0, x195_1, x195_2, x195_3, x195_6, x195_6b, x195_9, x195_10, x195_13, x195_14, x195_17, x195_17b, x195_20, x195_21, x195_24, x195_25, x195_28, x195_28b, x195_31, x195_32, x195_33, x195_34, x195_35, x195_38, x195_39, x195_40, x195_43, x195_45, x195_46, x195_47, x195_50, x195_51, x195_52, x195_55, x195_56, x195_58, x195_61, x195_62, x195_65, x195_66, x195_69, x195_69b, x195_72, x195_73, x195_74, x195_75, x195_78, x195_79, x195_80, x195_81, x195_83, x195_84, x195_86, x195_88, x195_89, x195_92, x195_94, x195_95, x195_98, x195_99, x195_101, x195_102, x195_104, x195_106, x195_107, x195_110, x195_113, x195_115, x195_117, x195_118, x195_121, x195_123, x195_124, x195_127, x195_129, x195_130, x195_133, x195_135, x195_136, x195_139, x195_140, x195_143, x195_144, x195_145, x195_147, x195_150, x195_153, x195_155, x195_156, x195_159, x195_162, x195_163, x195_166, x195_168, x195_169, x195_171, x195_174, x195_175, x195_178, x195_179, x195_180, x195_181, x195_184, x195_187, x195_192, x195_192b, x195_195, x195_197, x195_198, x195_201, x195_203, x195_204, x195_207, x195_210, x195_211, x195_214, x195_215, x195_216, x195_219, x195_221, x195_223, x195_224, x195_225, x195_226, x195_229, x195_232, x195_235, x195_236, x195_239, x195_241, x195_242, x195_243, x195_244, x195_246, x195_248, x195_249, x195_252, x195_253, x195_256, x195_258, x195_260, x195_261, x195_262, x195_265, x195_267, x195_268, x195_269, x195_272, x195_275, x195_276, x195_279, e195, XC_v, XC_s, true_and, and_true, and_self, bq_T, bq_F, yt_s, Bool.false_eq_true, Bool.true_eq_false, mm_cl, mm_1, uN_s, uN_n, uA_s, uA_n, uN_uN, mf_0, mf_1, mf_2, mf_3, mf_4, mf_5, mf_6, mf_7, mf_8, mf_9, mf_10, mf_11, mf_12, mf_13, mf_14, mf_15, mf_16, mf_17, mf_18, mf_19, mf_20, mf_21, mf_22, mf_23, mf_24, mf_25, mf_26, mf_27, mf_28, mf_29, mf_30, mf_31, mf_32, mf_33, mf_34, mf_35, mf_36, mf_37, mf_38, mf_39, mf_40, ms_3, ms_4, ms_5, ms_7, ms_9, ms_10, ms_11, ms_12, ms_14, ms_16, ms_17, ms_18, ms_24, ms_25, ms_29, ms_34, ms_35, ms_38, ma_0, ma_1, ma_2, ma_3, ma_4, ma_5, ma_6, ma_7, ma_8, ma_9, ma_10, ma_11, ma_12, ma_13, ma_14, ma_15, ma_16, ma_17, ma_18, ma_19, ma_20, ma_21, ma_22, mw_0, mw_1, mw_2, mw_3, mw_4, mw_5, mw_6, mw_7, mw_8, mw_9, mw_10, mw_11, mw_12, mw_13, mw_14, mw_15, mw_16, mw_17, mw_18, mw_19, mw_20, mw_21, mw_22, h38, ha]) | (refine bq_t (by omega) ?_) | (refine bq_f (by omega) ?_) | fail)
          exact P190 false pre (v :: l) out c E hls hot (fun i a b => by have := hp1 i a b; omega) (fun q => by omega) hE (by rw [show max (place + 1) E = place + 1 by omega]; exact ⟨by omega, a2, a3, a4⟩) (fun q => by cases q) (fun _ => ⟨by omega, hTo⟩)
end RPL
