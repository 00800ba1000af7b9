/-! the reference's walk finds what the machine finds -/
section FIN
variable (op : Int → Int × Int × Int) (fit : Int → Int → Bool) (acc : Int → Bool)
/-- in n turns the machine comes to its end: what it found, what it has visited -/
def Fin (n : Nat) (T : DT) (r : RA) (vf : List (Int × Int)) : Prop := match r with
  | none => ∃ w', dgo op fit acc n T = some ([], w', vf)
  | some q => ∃ T', dgo op fit acc n T = some T' ∧ dstep op fit acc T' = .inr (some q, vf)
variable {op : Int → Int × Int × Int} {fit : Int → Int → Bool} {acc : Int → Bool} {T T' : DT} {n : Nat} {r : RA} {vf : List (Int × Int)}
theorem Fin_step (h : dstep op fit acc T = .inl T') (hF : Fin op fit acc n T r vf) : ∃ n', n = n' + 1 ∧ Fin op fit acc n' T' r vf := by
  cases n with
  | zero =>
    exfalso
    cases r with
    | none =>
      obtain ⟨w', h1⟩ := hF
      have : T = ([], w', vf) := Option.some.inj h1
      rw [this] at h
      cases h
    | some q =>
      obtain ⟨T1, h1, h2⟩ := hF
      have : T = T1 := Option.some.inj h1
      rw [← this, h] at h2
      cases h2
  | succ n =>
    refine ⟨n, rfl, ?_⟩
    cases r with
    | none =>
      obtain ⟨w', h1⟩ := hF
      rw [dgo_s, h] at h1
      exact ⟨w', h1⟩
    | some q =>
      obtain ⟨T1, h1, h2⟩ := hF
      rw [dgo_s, h] at h1
      exact ⟨T1, h1, h2⟩
theorem Fin_dgo : ∀ (j n : Nat) (T : DT), dgo op fit acc j T = some T' → Fin op fit acc n T r vf → ∃ n', n = n' + j ∧ Fin op fit acc n' T' r vf := by
  intro j
  induction j with
  | zero => intro n T h hF; cases h; exact ⟨n, rfl, hF⟩
  | succ j ih =>
    intro n T h hF
    rw [dgo_s] at h
    cases hs : dstep op fit acc T with
    | inr q => rw [hs] at h; cases h
    | inl T1 =>
      rw [hs] at h
      obtain ⟨n1, e1, hF1⟩ := Fin_step hs hF
      obtain ⟨n2, e2, hF2⟩ := ih n1 T1 h hF1
      exact ⟨n2, by omega, hF2⟩
theorem Fin_end {q : Int × (Int → Int)} {v : List (Int × Int)} (h : dstep op fit acc T = .inr (some q, v)) (hF : Fin op fit acc n T r vf) : r = some q ∧ vf = v := by
  cases n with
  | succ n =>
    exfalso
    cases r with
    | none =>
      obtain ⟨w', h1⟩ := hF
      rw [dgo_s, h] at h1
      cases h1
    | some q =>
      obtain ⟨T1, h1, h2⟩ := hF
      rw [dgo_s, h] at h1
      cases h1
  | zero =>
    cases r with
    | none =>
      obtain ⟨w', h1⟩ := hF
      have : T = ([], w', vf) := Option.some.inj h1
      rw [this] at h
      cases h
    | some q' =>
      obtain ⟨T1, h1, h2⟩ := hF
      have : T = T1 := Option.some.inj h1
      rw [← this, h] at h2
      cases h2
      exact ⟨rfl, rfl⟩
theorem Fin_nil {w : Int → Int} {vis : List (Int × Int)} (hF : Fin op fit acc n ([], w, vis) r vf) : r = none ∧ vf = vis := by
  cases n with
  | succ n =>
    exfalso
    cases r with
    | none =>
      obtain ⟨w', h1⟩ := hF
      rw [dgo_s] at h1
      cases h1
    | some q =>
      obtain ⟨T1, h1, h2⟩ := hF
      rw [dgo_s] at h1
      cases h1
  | zero =>
    cases r with
    | none =>
      obtain ⟨w', h1⟩ := hF
      have h2 := Option.some.inj h1
      cases h2
      exact ⟨rfl, rfl⟩
    | some q' =>
      obtain ⟨T1, h1, h2⟩ := hF
      have : ([], w, vis) = T1 := Option.some.inj h1
      rw [← this] at h2
      cases h2
theorem TI_dgo {wt : Int → Int} {N : Nat} {L B : Int} (hL : L ≤ 40) (hL0 : 0 ≤ L) (hop : OpR op N) (hwt : WtOk op N wt) (hfit : ∀ s p, fit s p = true → p < L) : ∀ (j : Nat) (T : DT), TI wt N L B T → dgo op fit acc j T = some T' → TI wt N L B T' := by
  intro j
  induction j with
  | zero => intro T h1 h2; cases h2; exact h1
  | succ j ih =>
    intro T h1 h2
    rw [dgo_s] at h2
    cases hs : dstep op fit acc T with
    | inr q => rw [hs] at h2; cases h2
    | inl T1 =>
      rw [hs] at h2
      exact ih T1 (TI_step hL hL0 hop hwt hfit h1 hs) h2
end FIN
/-- what holds while a laid pattern is walked -/
def WC (A : Nat → Int → Int) (n L : Int) (N : Nat) : Prop := (0 ≤ n ∧ n ≤ 30) ∧ (1 ≤ N ∧ N ≤ 61) ∧ (0 ≤ L ∧ L ≤ 40) ∧ A 0 125 = L ∧ (∀ k, 0 ≤ k → k < 40 → 0 ≤ A 0 (126 + k) ∧ A 0 (126 + k) ≤ 65535) ∧ (∀ k, 0 ≤ k → k < n → 0 ≤ A 6 k ∧ A 6 k ≤ 65535) ∧ (∀ s, 0 ≤ s → s < (N : Int) - 1 → StL A n s) ∧ A 12 ((N : Int) - 1) = 13 ∧ OpR (opR A N) N
def accW (wh : Bool) (L p : Int) : Bool := if wh = true then (if p = L then true else false) else true
theorem lvs_n {S : MS} {a b : Int} {j : Nat} (h : j ≠ 17 ∧ j ≠ 18) : (lvs S a b).2 j = S.2 j := (uA_n h.2).trans (uA_n h.1)
theorem lvs_1 {S : MS} {a b : Int} {j : Nat} (h : j ≠ 34) : (lvs S a b).1 j = S.1 j := uN_n h
theorem fw_ok {op : Int → Int × Int × Int} {N : Int} : WtOk op N (fw op) := by
  intro s _ _
  unfold fw
  refine ⟨by split <;> omega, fun h => by rw [if_pos h]; omega⟩
section WLO
variable {X : JX} {M0 : JM} {m d : Nat} {S0 : MS} {Q : JR → JM → Prop} {n L B start : Int} {N : Nat} {wh : Bool} {r : RA} {vf : List (Int × Int)}
def WQ (M0 : JM) (m : Nat) (S0 : MS) (N : Nat) (Q : JR → JM → Prop) (r : RA) (vf : List (Int × Int)) : Prop := ∀ S', PW S0 S' → match r with
  | none => BN (S'.2 15) N vf → Q (.inl (some (.int (ii 0)))) (mm M0 m S')
  | some q => S'.1 35 = q.1 → (∀ j, 0 ≤ j → j ≤ 9 → S'.2 16 j = q.2 j) → Q (.inl (some (.int (ii 1)))) (mm M0 m S')
def WM (X : JX) (M0 : JM) (m d : Nat) (S0 : MS) (Q : JR → JM → Prop) (L B start : Int) (N : Nat) (wh : Bool) (r : RA) (vf : List (Int × Int)) (k : Nat) : Prop := ∀ (S : MS) (step place : Int) (l5 : Option Value) (K : List (Int × Int)) (w : Int → Int) (vis : List (Int × Int)), 0 ≤ step → PW S0 S → BK N S (K, w, vis) → TI (fw (opR S0.2 N)) N L B ((step, place) :: K, w, vis) → Fin (opR S0.2 N) (fitR S0.2 L) (accW wh L) k ((step, place) :: K, w, vis) r vf → XX X d 170 (70, [some (.ref m), some (.int (ii start)), some (.int (ii (b2i wh))), some (.int (ii step)), some (.int (ii place)), l5], [], mm M0 m S) Q
theorem fitR_L {A : Nat → Int → Int} {s p : Int} (h : fitR A L s p = true) : p < L := by
  unfold fitR at h
  by_cases hp : p < L
  · exact hp
  · rw [if_neg hp] at h; cases h
theorem m_wback (hd : 3 ≤ d) (hC : WC S0.2 n L N) (hB : B ≤ 9000) (hq : WQ M0 m S0 N Q r vf) {k : Nat} (hM : ∀ k', k' ≤ k → WM X M0 m d S0 Q L B start N wh r vf k') {S : MS} {l3 l4 l5 : Option Value} {K : List (Int × Int)} {w : Int → Int} {vis : List (Int × Int)} (hP : PW S0 S) (hK : BK N S (K, w, vis)) (hT : TI (fw (opR S0.2 N)) N L B (K, w, vis)) (hF : Fin (opR S0.2 N) (fitR S0.2 L) (accW wh L) k (K, w, vis) r vf) : XX X d 170 (32, [some (.ref m), some (.int (ii start)), some (.int (ii (b2i wh))), l3, l4, l5], [], mm M0 m S) Q := by
  obtain ⟨c1, c2, c3, c4, c5, c6, c7, c8, c9⟩ := hC
  have hT' := hT
  obtain ⟨t1, t2, t3, t4⟩ := hT
  simp only at t1 t4
  have hph := ph_0 (wt := fw (opR S0.2 N)) (N := N) (vis := vis) (fun s a b => (fw_ok s a b).1)
  rw [x170_32]
  repeat' (first | (simp (disch := first | assumption | exact wd_n | exact wd_i | exact wd_r | exact ct_r | exact ct_i | exact stB_0 | exact stB_1 | exact stB_2 | exact stB_3 | exact stB_4 | exact stB_5 | exact ct_2 | exact wd_0 | exact wd_f | omega) only [x170_0, x170_1, x170_2, x170_3, x170_5, x170_8, x170_9, x170_12, x170_13, x170_14, x170_15, x170_18, x170_21, x170_22, x170_23, x170_26, x170_27, x170_28, x170_29, x170_33, x170_36, x170_36b, x170_39, x170_40, x170_41, x170_44, x170_45, x170_46, x170_49, x170_50, x170_53, x170_54, x170_57, x170_58, x170_59, x170_60, x170_63, x170_64, x170_67, x170_68, x170_71, x170_74, x170_75, x170_78, x170_80, x170_81, x170_82, x170_84, x170_85, x170_86, x170_86b, x170_89, x170_90, x170_93, x170_95, x170_96, x170_97, x170_99, x170_100, x170_101, x170_102, x170_103, x170_106, x170_107, x170_108, x170_110, x170_112, x170_114, x170_117, x170_118, x170_118b, x170_121, x170_123, x170_124, x170_127, x170_129, x170_130, x170_133, x170_134, x170_136, x170_139, x170_140, x170_141, x170_143, x170_145, x170_148, x170_149, x170_150, x170_153, x170_154, x170_155, x170_157, x170_160, x170_162, x170_164, x170_167, x170_168, x170_169, x170_170, x170_173, x170_174, x170_175, x170_176, x170_177, x170_180, x170_181, x170_184, x170_185, x170_186, x170_187, x170_190, x170_191, x170_194, x170_195, x170_198, x170_199, x170_200, x170_202, x170_203, x170_205, x170_207, x170_210, x170_212, x170_214, x170_217, x170_218, x170_221, x170_222, x170_223, x170_224, x170_227, x170_229, x170_231, x170_234, x170_237, x170_240, x170_242, x170_244, x170_247, x170_248, x170_249, x170_251, x170_254, x170_254b, x170_257, x170_260, x170_263, x170_266, x170_267, x170_268, x170_271, x170_274, x170_275, e170, XC_v, XC_s, true_and, and_true, and_self, bq_T, bq_F, yt_s, Bool.false_eq_true, Bool.true_eq_false, mm_cl, mm_1, uN_s, uN_n, uA_s, uA_n, uN_uN, mf_0, mf_1, mf_2, mf_3, mf_4, mf_5, mf_6, mf_7, mf_8, mf_9, mf_10, mf_11, mf_12, mf_13, mf_14, mf_15, mf_16, mf_17, mf_18, mf_19, mf_20, mf_21, mf_22, mf_23, mf_24, mf_25, mf_26, mf_27, mf_28, mf_29, mf_30, mf_31, mf_32, mf_33, mf_34, mf_35, mf_36, mf_37, mf_38, mf_39, mf_40, ms_3, ms_4, ms_5, ms_7, ms_9, ms_10, ms_11, ms_12, ms_14, ms_16, ms_17, ms_18, ms_24, ms_25, ms_29, ms_34, ms_35, ms_38, ma_0, ma_1, ma_2, ma_3, ma_4, ma_5, ma_6, ma_7, ma_8, ma_9, ma_10, ma_11, ma_12, ma_13, ma_14, ma_15, ma_16, ma_17, ma_18, ma_19, ma_20, ma_21, ma_22, mw_0, mw_1, mw_2, mw_3, mw_4, mw_5, mw_6, mw_7, mw_8, mw_9, mw_10, mw_11, mw_12, mw_13, mw_14, mw_15, mw_16, mw_17, mw_18, mw_19, mw_20, mw_21, mw_22, e168]) | (refine bq_t (by omega) ?_) | (refine bq_f (by omega) ?_) | fail)
  refine m_turnsBack (op := opR S0.2 N) (fit := fitR S0.2 L) (acc := accW wh L) K S w hK (by omega) (fun v hv => ?_) (fun S' j K' w' hP' hB' hd' hk => ?_)
  · have := t1 v hv
    omega
  obtain ⟨k', ek, hF'⟩ := Fin_dgo j k (K, w, vis) hd' hF
  have hTn := TI_dgo c3.2 c3.1 c9 fw_ok (fun s p h => fitR_L h) j _ hT' hd'
  rcases hk with rfl | ⟨a, b, K'', rfl, ha⟩
  · rw [if_pos rfl]
    obtain ⟨rfl, rfl⟩ := Fin_nil hF'
    repeat' (first | (simp (disch := first | assumption | exact wd_n | exact wd_i | exact wd_r | exact ct_r | exact ct_i | exact stB_0 | exact stB_1 | exact stB_2 | exact stB_3 | exact stB_4 | exact stB_5 | exact ct_2 | exact wd_0 | exact wd_f | omega) only [x170_0, x170_1, x170_2, x170_3, x170_5, x170_8, x170_9, x170_12, x170_13, x170_14, x170_15, x170_18, x170_21, x170_22, x170_23, x170_26, x170_27, x170_28, x170_29, x170_33, x170_36, x170_36b, x170_39, x170_40, x170_41, x170_44, x170_45, x170_46, x170_49, x170_50, x170_53, x170_54, x170_57, x170_58, x170_59, x170_60, x170_63, x170_64, x170_67, x170_68, x170_71, x170_74, x170_75, x170_78, x170_80, x170_81, x170_82, x170_84, x170_85, x170_86, x170_86b, x170_89, x170_90, x170_93, x170_95, x170_96, x170_97, x170_99, x170_100, x170_101, x170_102, x170_103, x170_106, x170_107, x170_108, x170_110, x170_112, x170_114, x170_117, x170_118, x170_118b, x170_121, x170_123, x170_124, x170_127, x170_129, x170_130, x170_133, x170_134, x170_136, x170_139, x170_140, x170_141, x170_143, x170_145, x170_148, x170_149, x170_150, x170_153, x170_154, x170_155, x170_157, x170_160, x170_162, x170_164, x170_167, x170_168, x170_169, x170_170, x170_173, x170_174, x170_175, x170_176, x170_177, x170_180, x170_181, x170_184, x170_185, x170_186, x170_187, x170_190, x170_191, x170_194, x170_195, x170_198, x170_199, x170_200, x170_202, x170_203, x170_205, x170_207, x170_210, x170_212, x170_214, x170_217, x170_218, x170_221, x170_222, x170_223, x170_224, x170_227, x170_229, x170_231, x170_234, x170_237, x170_240, x170_242, x170_244, x170_247, x170_248, x170_249, x170_251, x170_254, x170_254b, x170_257, x170_260, x170_263, x170_266, x170_267, x170_268, x170_271, x170_274, x170_275, e170, XC_v, XC_s, true_and, and_true, and_self, bq_T, bq_F, yt_s, Bool.false_eq_true, Bool.true_eq_false, mm_cl, mm_1, uN_s, uN_n, uA_s, uA_n, uN_uN, mf_0, mf_1, mf_2, mf_3, mf_4, mf_5, mf_6, mf_7, mf_8, mf_9, mf_10, mf_11, mf_12, mf_13, mf_14, mf_15, mf_16, mf_17, mf_18, mf_19, mf_20, mf_21, mf_22, mf_23, mf_24, mf_25, mf_26, mf_27, mf_28, mf_29, mf_30, mf_31, mf_32, mf_33, mf_34, mf_35, mf_36, mf_37, mf_38, mf_39, mf_40, ms_3, ms_4, ms_5, ms_7, ms_9, ms_10, ms_11, ms_12, ms_14, ms_16, ms_17, ms_18, ms_24, ms_25, ms_29, ms_34, ms_35, ms_38, ma_0, ma_1, ma_2, ma_3, ma_4, ma_5, ma_6, ma_7, ma_8, ma_9, ma_10, ma_11, ma_12, ma_13, ma_14, ma_15, ma_16, ma_17, ma_18, ma_19, ma_20, ma_21, ma_22, mw_0, mw_1, mw_2, mw_3, mw_4, mw_5, mw_6, mw_7, mw_8, mw_9, mw_10, mw_11, mw_12, mw_13, mw_14, mw_15, mw_16, mw_17, mw_18, mw_19, mw_20, mw_21, mw_22]) | (refine bq_t (by omega) ?_) | (refine bq_f (by omega) ?_) | fail)
    exact hq S' (hP.trans hP') hB'.2.2.2
  · rw [if_neg (by simp)]
    have hp := BK_pop hB'
    obtain ⟨hp1, h34, h17, h18⟩ := hp
    obtain ⟨u1, u2, u3, u4⟩ := hTn
    have hph2 := ph_0 (wt := fw (opR S0.2 N)) (N := N) (vis := vis) (fun s a b => (fw_ok s a b).1)
    have hu1 := (u1 (a, b) (List.mem_cons_self ..)).1 ha
    simp only [List.length_cons] at u4 hu1
    have h17' : S'.2 17 (S'.1 34 - 1) = a := by rw [h34, Int.add_sub_cancel]; exact h17
    have h18' : S'.2 18 (S'.1 34 - 1) = b := by rw [h34, Int.add_sub_cancel]; exact h18
    repeat' (first | (simp (disch := first | assumption | exact wd_n | exact wd_i | exact wd_r | exact ct_r | exact ct_i | exact stB_0 | exact stB_1 | exact stB_2 | exact stB_3 | exact stB_4 | exact stB_5 | exact ct_2 | exact wd_0 | exact wd_f | omega) only [x170_0, x170_1, x170_2, x170_3, x170_5, x170_8, x170_9, x170_12, x170_13, x170_14, x170_15, x170_18, x170_21, x170_22, x170_23, x170_26, x170_27, x170_28, x170_29, x170_33, x170_36, x170_36b, x170_39, x170_40, x170_41, x170_44, x170_45, x170_46, x170_49, x170_50, x170_53, x170_54, x170_57, x170_58, x170_59, x170_60, x170_63, x170_64, x170_67, x170_68, x170_71, x170_74, x170_75, x170_78, x170_80, x170_81, x170_82, x170_84, x170_85, x170_86, x170_86b, x170_89, x170_90, x170_93, x170_95, x170_96, x170_97, x170_99, x170_100, x170_101, x170_102, x170_103, x170_106, x170_107, x170_108, x170_110, x170_112, x170_114, x170_117, x170_118, x170_118b, x170_121, x170_123, x170_124, x170_127, x170_129, x170_130, x170_133, x170_134, x170_136, x170_139, x170_140, x170_141, x170_143, x170_145, x170_148, x170_149, x170_150, x170_153, x170_154, x170_155, x170_157, x170_160, x170_162, x170_164, x170_167, x170_168, x170_169, x170_170, x170_173, x170_174, x170_175, x170_176, x170_177, x170_180, x170_181, x170_184, x170_185, x170_186, x170_187, x170_190, x170_191, x170_194, x170_195, x170_198, x170_199, x170_200, x170_202, x170_203, x170_205, x170_207, x170_210, x170_212, x170_214, x170_217, x170_218, x170_221, x170_222, x170_223, x170_224, x170_227, x170_229, x170_231, x170_234, x170_237, x170_240, x170_242, x170_244, x170_247, x170_248, x170_249, x170_251, x170_254, x170_254b, x170_257, x170_260, x170_263, x170_266, x170_267, x170_268, x170_271, x170_274, x170_275, e170, XC_v, XC_s, true_and, and_true, and_self, bq_T, bq_F, yt_s, Bool.false_eq_true, Bool.true_eq_false, mm_cl, mm_1, uN_s, uN_n, uA_s, uA_n, uN_uN, mf_0, mf_1, mf_2, mf_3, mf_4, mf_5, mf_6, mf_7, mf_8, mf_9, mf_10, mf_11, mf_12, mf_13, mf_14, mf_15, mf_16, mf_17, mf_18, mf_19, mf_20, mf_21, mf_22, mf_23, mf_24, mf_25, mf_26, mf_27, mf_28, mf_29, mf_30, mf_31, mf_32, mf_33, mf_34, mf_35, mf_36, mf_37, mf_38, mf_39, mf_40, ms_3, ms_4, ms_5, ms_7, ms_9, ms_10, ms_11, ms_12, ms_14, ms_16, ms_17, ms_18, ms_24, ms_25, ms_29, ms_34, ms_35, ms_38, ma_0, ma_1, ma_2, ma_3, ma_4, ma_5, ma_6, ma_7, ma_8, ma_9, ma_10, ma_11, ma_12, ma_13, ma_14, ma_15, ma_16, ma_17, ma_18, ma_19, ma_20, ma_21, ma_22, mw_0, mw_1, mw_2, mw_3, mw_4, mw_5, mw_6, mw_7, mw_8, mw_9, mw_10, mw_11, mw_12, mw_13, mw_14, mw_15, mw_16, mw_17, mw_18, mw_19, mw_20, mw_21, mw_22, h17', h18']) | (refine bq_t (by omega) ?_) | (refine bq_f (by omega) ?_) | fail)
    have e : ((uN S'.1 34 (S'.1 34 - 1), S'.2) : MS) = (uN S'.1 34 (K''.length : Int), S'.2) := by rw [h34, Int.add_sub_cancel]
    rw [e]
    exact hM k' (by omega) _ a b _ K'' w' vis ha (PW_n (hP.trans hP') (by omega)) hp1 ⟨u1, u2, u3, by simp only [List.length_cons]; omega⟩ hF'
end WLO
