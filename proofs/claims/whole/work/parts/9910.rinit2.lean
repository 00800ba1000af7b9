/-! the class's reader is made: its constructor -/
section RIO
variable {X : JX} {d : Nat} {M N : JM} {s : Nat} {Q : JR → JM → Prop} {n a b : Nat} {e : JE}
theorem pch_r : (pch N).2.2 N.1 = some (.inr (4, [.ref (N.1 + 1), .ref (N.1 + 3), .ref (N.1 + 5), .ref (N.1 + 7), .int (ii 0), .int (ii 0), .int (ii 0)])) := by
  unfold pch
  rw [rnew_lt (by simp only [rnew_1, mnew_1]; omega), rnew_lt (by simp only [rnew_1, mnew_1]; omega), rnew_lt (by simp only [rnew_1, mnew_1]; omega), rnew_lt (by simp only [mnew_1]; omega), mnew_eq]
theorem pch_ge (h : N.1 + 9 ≤ b) : (pch N).2.2 b = N.2.2 b := by
  unfold pch
  rw [rnew_n (by simp only [rnew_1, mnew_1]; omega) (by simp only [rnew_1, mnew_1]; omega), rnew_n (by simp only [rnew_1, mnew_1]; omega) (by simp only [rnew_1, mnew_1]; omega), rnew_n (by simp only [rnew_1, mnew_1]; omega) (by simp only [rnew_1, mnew_1]; omega), rnew_n (by simp only [mnew_1]; omega) (by simp only [mnew_1]; omega), mnew_ne (by omega)]
theorem rnew_at : (rnew M n).2.2 M.1 = some (rwo M.1 0) ∧ (rnew M n).2.2 (M.1 + 1) = some (AI n (fun _ => 0)) := by
  unfold rnew
  exact ⟨by rw [mnew_ne (by rw [mnew_1]; omega), mnew_eq], mnew_eq⟩
theorem pch_w : (pch N).2.2 (N.1 + 1) = some (rwo (N.1 + 1) 0) ∧ (pch N).2.2 (N.1 + 2) = some (AI 30 (fun _ => 0)) ∧ (pch N).2.2 (N.1 + 3) = some (rwo (N.1 + 3) 0) ∧ (pch N).2.2 (N.1 + 4) = some (AI 64 (fun _ => 0)) ∧ (pch N).2.2 (N.1 + 5) = some (rwo (N.1 + 5) 0) ∧ (pch N).2.2 (N.1 + 6) = some (AI 64 (fun _ => 0)) ∧ (pch N).2.2 (N.1 + 7) = some (rwo (N.1 + 7) 0) ∧ (pch N).2.2 (N.1 + 8) = some (AI 64 (fun _ => 0)) := by
  unfold pch
  generalize (.inr (4, [.ref (N.1 + 1), .ref (N.1 + 3), .ref (N.1 + 5), .ref (N.1 + 7), .int (ii 0), .int (ii 0), .int (ii 0)]) : JE) = e
  have h1 := rnew_at (M := mnew N 7 e) (n := 30)
  have h2 := rnew_at (M := rnew (mnew N 7 e) 30) (n := 64)
  have h3 := rnew_at (M := rnew (rnew (mnew N 7 e) 30) 64) (n := 64)
  have h4 := rnew_at (M := rnew (rnew (rnew (mnew N 7 e) 30) 64) 64) (n := 64)
  simp only [rnew_1, mnew_1, Nat.add_assoc, Nat.reduceAdd] at h1 h2 h3 h4
  refine ⟨?_, ?_, ?_, ?_, ?_, ?_, h4.1, h4.2⟩
  · rw [rnew_lt (by simp only [rnew_1, mnew_1]; omega), rnew_lt (by simp only [rnew_1, mnew_1]; omega), rnew_lt (by simp only [rnew_1, mnew_1]; omega)]; exact h1.1
  · rw [rnew_lt (by simp only [rnew_1, mnew_1]; omega), rnew_lt (by simp only [rnew_1, mnew_1]; omega), rnew_lt (by simp only [rnew_1, mnew_1]; omega)]; exact h1.2
  · rw [rnew_lt (by simp only [rnew_1, mnew_1]; omega), rnew_lt (by simp only [rnew_1, mnew_1]; omega)]; exact h2.1
  · rw [rnew_lt (by simp only [rnew_1, mnew_1]; omega), rnew_lt (by simp only [rnew_1, mnew_1]; omega)]; exact h2.2
  · rw [rnew_lt (by simp only [rnew_1, mnew_1]; omega)]; exact h3.1
  · rw [rnew_lt (by simp only [rnew_1, mnew_1]; omega)]; exact h3.2
theorem p_rinit (hd : 3 ≤ d) : CC X d 43 [.ref M.1, .ref s] (mnew M 7 (.inr (5, [.null, .null, .null, .int (ii 0), .int (ii 0), .int (ii 0), .int (ii 0)]))) Q = Q (.inl none) (pm M s M.1 P0) := by
  have hp := fun (d : Nat) (Q : JR → JM → Prop) (N : JM) (hd : 1 ≤ d) => p_pinit (X := X) (d := d) (N := N) (Q := Q) hd
  have hL := fun (d : Nat) (Q : JR → JM → Prop) (N : JM) (g f : Int) => L_init (X := X) (d := d) (M := N) (a := N.1) (v0 := .null) (g := g) (f := f) (Q := Q) rfl (Or.inl rfl)
  have y : ∀ (K : JM → JM) (fs : List Value) (j : Nat) (v : Value) (pc : Nat) (L : List (Option Value)) (st : List Value) (Q : JR → JM → Prop), (∀ e, (K (mnew M 7 e)).2.2 M.1 = some e) → (∀ e e', mset (K (mnew M 7 e)) M.1 e' = K (mnew M 7 e')) → j < fs.length → fOk (clTy 5 j) v = true → yp ((K (mnew M 7 (.inr (5, fs)))).2.2 M.1) M.1 5 j v X d 43 pc L st (K (mnew M 7 (.inr (5, fs)))) Q = XX X d 43 (pc, L, st, K (mnew M 7 (.inr (5, fs.set j v)))) Q := by
    intro K fs j v pc L st Q k1 k2 h1 h2
    rw [k1, yp_s h1 h2, k2]
  have r1 : ∀ e, (pch (mnew M 7 e)).2.2 M.1 = some e := fun e => by rw [pch_lt (by rw [mnew_1]; omega), mnew_eq]
  have m1 : ∀ e e', mset (pch (mnew M 7 e)) M.1 e' = pch (mnew M 7 e') := fun e e' => by rw [pch_set (by rw [mnew_1]; omega), mset_mnew_eq]
  have r2 : ∀ e3 e, (mnew (pch (mnew M 7 e)) 12 e3).2.2 M.1 = some e := fun e3 e => by rw [mnew_ne (by rw [pch_1, mnew_1]; omega), r1]
  have m2 : ∀ e3 e e', mset (mnew (pch (mnew M 7 e)) 12 e3) M.1 e' = mnew (pch (mnew M 7 e')) 12 e3 := fun e3 e e' => by rw [mset_mnew_ne (by rw [pch_1, mnew_1]; omega), m1]
  have hz : ∀ (z : Int), z = 0 ∨ z = 1 → fOk (clTy 5 5) (.int (ii z)) = true := fun z h => bz_ok h
  have y1 : ∀ (w0 w1 w2 w3 w4 w5 w6 : Value) (b : Nat) (pc : Nat) (L : List (Option Value)) (st : List Value) (Q : JR → JM → Prop), yp ((pch (mnew M 7 (.inr (5, [w0, w1, w2, w3, w4, w5, w6])))).2.2 M.1) M.1 5 1 (.ref b) X d 43 pc L st (pch (mnew M 7 (.inr (5, [w0, w1, w2, w3, w4, w5, w6])))) Q = XX X d 43 (pc, L, st, pch (mnew M 7 (.inr (5, [w0, .ref b, w2, w3, w4, w5, w6])))) Q := fun w0 w1 w2 w3 w4 w5 w6 b pc L s' Q => y pch [w0, w1, w2, w3, w4, w5, w6] 1 (.ref b) pc L s' Q r1 m1 (by show 1 < 7; omega) rfl
  have y2 : ∀ (e3 : JE) (w0 w1 w2 w3 w4 w5 w6 : Value) (b : Nat) (pc : Nat) (L : List (Option Value)) (st : List Value) (Q : JR → JM → Prop), yp ((mnew (pch (mnew M 7 (.inr (5, [w0, w1, w2, w3, w4, w5, w6])))) 12 e3).2.2 M.1) M.1 5 2 (.ref b) X d 43 pc L st (mnew (pch (mnew M 7 (.inr (5, [w0, w1, w2, w3, w4, w5, w6])))) 12 e3) Q = XX X d 43 (pc, L, st, mnew (pch (mnew M 7 (.inr (5, [w0, w1, .ref b, w3, w4, w5, w6])))) 12 e3) Q := fun e3 w0 w1 w2 w3 w4 w5 w6 b pc L s' Q => y (fun m => mnew (pch m) 12 e3) [w0, w1, w2, w3, w4, w5, w6] 2 (.ref b) pc L s' Q (r2 e3) (m2 e3) (by show 2 < 7; omega) rfl
  have y0 : ∀ (e3 : JE) (w0 w1 w2 w3 w4 w5 w6 : Value) (b : Nat) (pc : Nat) (L : List (Option Value)) (st : List Value) (Q : JR → JM → Prop), yp ((mnew (pch (mnew M 7 (.inr (5, [w0, w1, w2, w3, w4, w5, w6])))) 12 e3).2.2 M.1) M.1 5 0 (.ref b) X d 43 pc L st (mnew (pch (mnew M 7 (.inr (5, [w0, w1, w2, w3, w4, w5, w6])))) 12 e3) Q = XX X d 43 (pc, L, st, mnew (pch (mnew M 7 (.inr (5, [.ref b, w1, w2, w3, w4, w5, w6])))) 12 e3) Q := fun e3 w0 w1 w2 w3 w4 w5 w6 b pc L s' Q => y (fun m => mnew (pch m) 12 e3) [w0, w1, w2, w3, w4, w5, w6] 0 (.ref b) pc L s' Q (r2 e3) (m2 e3) (by show 0 < 7; omega) rfl
  have z3 : ∀ (e3 : JE) (w0 w1 w2 w3 w4 w5 w6 : Value) (z : Int) (pc : Nat) (L : List (Option Value)) (st : List Value) (Q : JR → JM → Prop), yp ((mnew (pch (mnew M 7 (.inr (5, [w0, w1, w2, w3, w4, w5, w6])))) 12 e3).2.2 M.1) M.1 5 3 (.int (ii z)) X d 43 pc L st (mnew (pch (mnew M 7 (.inr (5, [w0, w1, w2, w3, w4, w5, w6])))) 12 e3) Q = XX X d 43 (pc, L, st, mnew (pch (mnew M 7 (.inr (5, [w0, w1, w2, .int (ii z), w4, w5, w6])))) 12 e3) Q := fun e3 w0 w1 w2 w3 w4 w5 w6 z pc L s' Q => y (fun m => mnew (pch m) 12 e3) [w0, w1, w2, w3, w4, w5, w6] 3 (.int (ii z)) pc L s' Q (r2 e3) (m2 e3) (by show 3 < 7; omega) rfl
  have z4 : ∀ (e3 : JE) (w0 w1 w2 w3 w4 w5 w6 : Value) (z : Int) (pc : Nat) (L : List (Option Value)) (st : List Value) (Q : JR → JM → Prop), yp ((mnew (pch (mnew M 7 (.inr (5, [w0, w1, w2, w3, w4, w5, w6])))) 12 e3).2.2 M.1) M.1 5 4 (.int (ii z)) X d 43 pc L st (mnew (pch (mnew M 7 (.inr (5, [w0, w1, w2, w3, w4, w5, w6])))) 12 e3) Q = XX X d 43 (pc, L, st, mnew (pch (mnew M 7 (.inr (5, [w0, w1, w2, w3, .int (ii z), w5, w6])))) 12 e3) Q := fun e3 w0 w1 w2 w3 w4 w5 w6 z pc L s' Q => y (fun m => mnew (pch m) 12 e3) [w0, w1, w2, w3, w4, w5, w6] 4 (.int (ii z)) pc L s' Q (r2 e3) (m2 e3) (by show 4 < 7; omega) rfl
  have z6 : ∀ (e3 : JE) (w0 w1 w2 w3 w4 w5 w6 : Value) (z : Int) (pc : Nat) (L : List (Option Value)) (st : List Value) (Q : JR → JM → Prop), yp ((mnew (pch (mnew M 7 (.inr (5, [w0, w1, w2, w3, w4, w5, w6])))) 12 e3).2.2 M.1) M.1 5 6 (.int (ii z)) X d 43 pc L st (mnew (pch (mnew M 7 (.inr (5, [w0, w1, w2, w3, w4, w5, w6])))) 12 e3) Q = XX X d 43 (pc, L, st, mnew (pch (mnew M 7 (.inr (5, [w0, w1, w2, w3, w4, w5, .int (ii z)])))) 12 e3) Q := fun e3 w0 w1 w2 w3 w4 w5 w6 z pc L s' Q => y (fun m => mnew (pch m) 12 e3) [w0, w1, w2, w3, w4, w5, w6] 6 (.int (ii z)) pc L s' Q (r2 e3) (m2 e3) (by show 6 < 7; omega) rfl
  have z5 : ∀ (e3 : JE) (w0 w1 w2 w3 w4 w5 w6 : Value) (z : Int) (pc : Nat) (L : List (Option Value)) (st : List Value) (Q : JR → JM → Prop), z = 0 ∨ z = 1 → yp ((mnew (pch (mnew M 7 (.inr (5, [w0, w1, w2, w3, w4, w5, w6])))) 12 e3).2.2 M.1) M.1 5 5 (.int (ii z)) X d 43 pc L st (mnew (pch (mnew M 7 (.inr (5, [w0, w1, w2, w3, w4, w5, w6])))) 12 e3) Q = XX X d 43 (pc, L, st, mnew (pch (mnew M 7 (.inr (5, [w0, w1, w2, w3, w4, .int (ii z), w6])))) 12 e3) Q := fun e3 w0 w1 w2 w3 w4 w5 w6 z pc L s' Q h => y (fun m => mnew (pch m) 12 e3) [w0, w1, w2, w3, w4, w5, w6] 5 (.int (ii z)) pc L s' Q (r2 e3) (m2 e3) (by show 5 < 7; omega) (hz z h)
  refine CC_eq ?_ Q
  repeat' (first | (simp (disch := first | assumption | exact wd_n | exact wd_i | exact wd_r | exact ct_r | exact ct_i | exact stB_0 | exact stB_1 | exact stB_2 | exact stB_3 | exact stB_4 | exact stB_5 | exact ct_2 | exact b2i_c _ | exact wd_0 | exact wd_f | omega | ((simp (disch := omega) only [uN_s, uN_n, uA_s, uA_n, up_s, up_n]) <;> omega)) only [x43_0, x43_0n, x43_1, x43_4, x43_4n, x43_5, x43_8, x43_9, x43_12, x43_15, x43_15n, x43_16, x43_19, x43_20, x43_21, x43_22, x43_23, x43_26, x43_29, x43_29n, x43_30, x43_31, x43_34, x43_34n, x43_35, x43_36, x43_39, x43_39n, x43_40, x43_41, x43_44, x43_44n, x43_45, x43_46, x43_49, x43_49n, x43_50, x43_50n, x43_51, x43_54, e43, XC_v, XC_s, true_and, and_true, and_self, bq_T, bq_F, yt_s, Bool.false_eq_true, Bool.true_eq_false, rg_0, rg_1, rp_1, mset_1, mset_21, mset_eq, mset_ne, yn_I, ya_I, yw_I, mset_cl, cc_0, cf_0_0, cf_0_1, cf_0_2, cf_0_3, cf_0_4, cf_0_5, cf_0_6, cf_0_7, cf_0_8, cf_0_9, cf_0_10, cf_0_11, cf_0_12, cf_0_13, cf_0_14, cf_0_15, cs_0_4, cs_0_6, cs_0_7, cs_0_8, cc_13, cf_13_0, cf_13_1, cf_13_2, cs_13_1, cs_13_2, cc_47, cf_47_0, cf_47_1, cf_47_2, cc_53, cf_53_0, cf_53_1, cf_53_2, cf_53_3, cf_53_4, cf_53_5, cs_53_3, cs_53_4, cs_53_5, cc_5, cf_5_0, cf_5_1, cf_5_2, cs_5_1, cc_9, cf_9_0, cf_9_1, cf_9_2, cs_9_1, cc_15, cf_15_0, cf_15_1, cf_15_2, cs_15_1, cc_19, cf_19_0, cf_19_1, cf_19_2, cs_19_1, cc_23, cf_23_0, cf_23_1, cf_23_2, cs_23_1, cc_27, cf_27_0, cf_27_1, cf_27_2, cs_27_1, cc_31, cf_31_0, cf_31_1, cf_31_2, cs_31_1, cc_35, cf_35_0, cf_35_1, cf_35_2, cs_35_1, cc_39, cf_39_0, cf_39_1, cf_39_2, cs_39_1, cc_43, cf_43_0, cf_43_1, cf_43_2, cs_43_1, cc_1, cc_3, cc_7, cc_11, cc_49, cc_51, cc_54, cc_56, cc_58, cc_60, cc_62, cc_64, cc_66, cc_68, cc_17, cc_21, cc_25, cc_29, cc_33, cc_37, cc_41, cc_45, c1_size, c1_full, c1_holds, c1_at, c1_put, c1_add, c1_pop, c1_clear, c3_size, c3_full, c3_holds, c3_at, c3_put, c3_add, c3_pop, c3_clear, c7_size, c7_full, c7_holds, c7_at, c7_put, c7_add, c7_pop, c7_clear, c7_ins, c7_cut, c7_copy3, c7_copy66, c49_size, c49_full, c49_holds, c49_at, c49_put, c49_add, c49_pop, c49_clear, c51_size, c51_full, c51_holds, c51_at, c51_put, c51_add, c51_pop, c51_clear, c54_size, c54_full, c54_holds, c54_at, c54_put, c54_add, c54_pop, c54_clear, c54_copy56, c56_size, c56_full, c56_holds, c56_at, c56_put, c56_add, c56_pop, c56_clear, c58_size, c58_full, c58_holds, c58_at, c58_put, c58_add, c58_pop, c58_clear, c60_size, c60_full, c60_holds, c60_at, c60_put, c60_add, c60_pop, c60_clear, c62_size, c62_full, c62_holds, c62_at, c62_put, c62_add, c62_pop, c62_clear, c64_size, c64_full, c64_holds, c64_at, c64_put, c64_add, c64_pop, c64_clear, c66_size, c66_full, c66_holds, c66_at, c66_put, c66_add, c66_pop, c66_clear, c66_part7, c68_size, c68_full, c68_holds, c68_at, c68_put, c68_add, c68_pop, c68_clear, c68_part7, ct_ld, ct_st, ct_ln, ck_ld, ck_ln, cp_ld5, cp_ln5, uN_s, uN_n, uA_s, uA_n, uN_uN, uA_uA, pc_L, pc_0, pf_0_0, pf_0_1, pf_0_2, pf_0_3, pf_0_4, pf_0_5, pf_0_6, ps_0_3, ps_0_4, ps_0_5, ps_0_6, pc_1, pf_1_0, pf_1_1, pf_1_2, pf_1_3, pf_1_4, pf_1_5, pf_1_6, ps_1_4, ps_1_5, ps_1_6, ps_0_2, pl_0, pl_1, pl_2, pl_3, pl_4, pl_5, pl_6, pl_7, pl_8, pl_9, pl_10, pl_11, pl_s3, pl_s4, pl_s5, pl_s6, pl_s7, pl_s8, pl_s9, pl_s10, pl_s11, pc_2, pc_4, p4_size, p4_at, p4_put, p4_add, p4_ins, pc_6, p6_size, p6_at, p6_put, p6_add, p6_ins, pc_8, p8_size, p8_at, p8_put, p8_add, p8_ins, uL_s, uL_n, uL_uL, hp, hL, y1, y2, y0, z3, z4, z5, z6]) | (refine bq_t (by omega) ?_) | (refine bq_f (by omega) ?_) | fail)
  generalize hN : mnew M 7 (.inr (5, [.ref s, .ref (mnew M 7 (.inr (5, [.null, .null, .null, .int (ii 0), .int (ii 0), .int (ii 0), .int (ii 0)]))).1, _, .int (ii 0), .int (ii 0), .int (ii 1), .int (ii 0)])) = N
  have w := pch_w (N := N)
  have wr := pch_r (N := N)
  have hN1 : N.1 = M.1 + 1 := by rw [← hN]; rfl
  have hN2 : N.2.1 = M.2.1 + 7 := by rw [← hN]; rfl
  have wm : (pch N).2.2 M.1 = some (.inr (5, [.ref s, .ref (M.1 + 1), .ref (M.1 + 10), .int (ii 0), .int (ii 0), .int (ii 1), .int (ii 0)])) := by rw [← hN]; exact r1 _
  have wo : ∀ b, b ≠ M.1 → N.2.2 b = M.2.2 b := fun b h => by rw [← hN]; exact mnew_ne h
  simp only [hN1, Nat.add_assoc, Nat.reduceAdd] at w wr
  obtain ⟨w1, w2, w3, w4, w5, w6, w7, w8⟩ := w
  refine Prod.ext ?_ (Prod.ext ?_ ?_)
  · show (pch N).1 + 1 = M.1 + 10 + 1
    rw [pch_1, hN1]
  · show (pch N).2.1 + 12 = M.2.1 + 244 + 12 * 1
    rw [pch_21, hN2]
  · funext b
    by_cases h10 : b = M.1 + 10
    · rw [show b = (pch N).1 by rw [pch_1, hN1]; omega, mnew_eq, show (pch N).1 = M.1 + 10 + 0 by rw [pch_1, hN1], pm_lv (by show 0 < 1; omega)]
      rfl
    rw [mnew_ne (by rw [pch_1, hN1]; omega)]
    by_cases hlt : b < M.1
    · rw [pch_lt (by omega), wo b (by omega), pm_ne (Or.inl hlt)]
    by_cases hge : M.1 + 11 ≤ b
    · rw [pch_ge (by omega), wo b (by omega), pm_ne (Or.inr hge)]
    have hc : b = M.1 ∨ b = M.1 + 1 ∨ b = M.1 + 2 ∨ b = M.1 + 3 ∨ b = M.1 + 4 ∨ b = M.1 + 5 ∨ b = M.1 + 6 ∨ b = M.1 + 7 ∨ b = M.1 + 8 ∨ b = M.1 + 9 := by omega
    rcases hc with rfl | rfl | rfl | rfl | rfl | rfl | rfl | rfl | rfl | rfl
    · exact wm.trans (pm_at (M := M) (s := s) (r := M.1) (P := P0) (j := 0) (by decide) rfl).symm
    · exact wr.trans (pm_at (M := M) (s := s) (r := M.1) (P := P0) (j := 1) (by decide) rfl).symm
    · exact w1.trans (pm_at (M := M) (s := s) (r := M.1) (P := P0) (j := 2) (by decide) rfl).symm
    · exact w2.trans (pm_at (M := M) (s := s) (r := M.1) (P := P0) (j := 3) (by decide) rfl).symm
    · exact w3.trans (pm_at (M := M) (s := s) (r := M.1) (P := P0) (j := 4) (by decide) rfl).symm
    · exact w4.trans (pm_at (M := M) (s := s) (r := M.1) (P := P0) (j := 5) (by decide) rfl).symm
    · exact w5.trans (pm_at (M := M) (s := s) (r := M.1) (P := P0) (j := 6) (by decide) rfl).symm
    · exact w6.trans (pm_at (M := M) (s := s) (r := M.1) (P := P0) (j := 7) (by decide) rfl).symm
    · exact w7.trans (pm_at (M := M) (s := s) (r := M.1) (P := P0) (j := 8) (by decide) rfl).symm
    · exact w8.trans (pm_at (M := M) (s := s) (r := M.1) (P := P0) (j := 9) (by decide) rfl).symm
end RIO
