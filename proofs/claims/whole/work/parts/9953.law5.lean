/-! the law: the calls that never throw; the first world; ints out of a script -/
section CAS2
variable {X : JX} {d x : Nat} {M0 : JM} {C : CS} {S : MS} {Q : JR → JM → Prop} {i a b c ac bc : Int} {l6 l7 l8 : Option Value}
theorem st_3 (hd : 500 ≤ d) (hE : EV X i a b c ac bc) (hW : WA M0 x) (hR : REL (mm M0 (x + 70) S) x C S) (hK : ∀ M1 C' S' l6 l7 l8, REL (mm M1 (x + 70) S') x C' S' → WG 24 330 M0 x M1 → XX X d 0 (2632, [some (.ref X.1), some (.ref x), some (.ref (x + 70)), some (.ref (x + 94)), some (.ref (x + 95)), some (.int (ii i)), l6, l7, l8], [], cm (mm M1 (x + 70) S') x C') Q) : XX X d 0 (394, [some (.ref X.1), some (.ref x), some (.ref (x + 70)), some (.ref (x + 94)), some (.ref (x + 95)), some (.int (ii i)), l6, l7, l8], [], cm (mm M0 (x + 70) S) x C) Q := by
  obtain ⟨r1, r2, r3, v1, v2, v3, a1, a2, a3, c1, c2, cr1, cr2⟩ := hE
  have hC := hR.2.1
  have hS := hR.1.1
  have hx := hR.1.2.1
  have g0 := WG_0 hW
  have p7 := hR.2.2.2.2.1.2.1
  have ptc := fun k k0 k1 => (hR.2.2.2.2.1.2.2 k k0 k1).2
  have p4 := hR.2.2.2.1.1
  have p14 := hR.2.2.2.1.2.1
  have p9 := hR.2.2.2.2.2.1.2.1
  have p3 := hR.2.2.1.1
  obtain ⟨f1, f2, f3⟩ := hR.2.2.2.2.2.2.1
  obtain ⟨n1, n2, n3⟩ := hR.2.2.2.2.2.2.2
  have kk := hC.1
  have kk0 := kk.1
  have kk4 := kk.2.1
  have kt0 := kk.2.2.2.1
  have kt1 := kk.2.2.2.2.1
  obtain ⟨⟨o1, ho1⟩, ⟨o2, ho2⟩⟩ := id hW
  have hm : ∀ (d : Nat) (Q : JR → JM → Prop), CC X d 179 [.ref (x + 70)] (cm (mm M0 (x + 70) S) x C) Q = Q (rt (S.2 0 0)) (cm (mm M0 (x + 70) (uN S.1 5 0, S.2)) x C) := fun d Q => by
    rw [cm_mm (by omega), m_patternCount rfl, ← cm_mm (by omega)]
  have hk1 := fun (d : Nat) (Q : JR → JM → Prop) (hd : 1 ≤ d) => k_patternCount (X := X) (d := d) (Q := Q) hd hC
  unfold rt at hm hk1
  repeat' (first | (simp (disch := first | assumption | exact wd_n | exact wd_i | exact wd_r | exact ct_r | exact ct_i | exact stB_0 | exact stB_1 | exact stB_2 | exact stB_3 | exact stB_4 | exact stB_5 | exact ct_2 | exact b2i_c _ | exact wd_0 | exact wd_f | omega | ((simp (disch := omega) only [uN_s, uN_n, uA_s, uA_n, up_s, up_n]) <;> omega)) only [x0_394, x0_395, x0_398, x0_399, x0_402, x0_405, x0_406, XC_v, XC_s, true_and, and_true, and_self, bq_T, bq_F, yt_s, Bool.false_eq_true, Bool.true_eq_false, cm_1, mm_1, mm_cl, cc_0, mset_1, mset_21, mset_eq, mset_ne, mset_cm, mset_mm, cm_ne, mm_ne, mcl_wc, mcl_wm, yw_L, ya_L, yw_D, ya_D, lcmp_r, if_true, m_thrown, hm, hk1]) | (refine bq_t (by omega) ?_) | (refine bq_f (by omega) ?_) | fail)
  exact hK _ _ _ _ _ _ (REL_b (REL_q hR (QF.refl hS) (RF_n (RF.refl S) (by omega)).q) (BX_mm g0.1)) (WG_w g0 (by omega) (by omega))
theorem st_17 (hd : 500 ≤ d) (hE : EV X i a b c ac bc) (hW : WA M0 x) (hR : REL (mm M0 (x + 70) S) x C S) (hK : ∀ M1 C' S' l6 l7 l8, REL (mm M1 (x + 70) S') x C' S' → WG 24 330 M0 x M1 → XX X d 0 (2632, [some (.ref X.1), some (.ref x), some (.ref (x + 70)), some (.ref (x + 94)), some (.ref (x + 95)), some (.int (ii i)), l6, l7, l8], [], cm (mm M1 (x + 70) S') x C') Q) : XX X d 0 (1096, [some (.ref X.1), some (.ref x), some (.ref (x + 70)), some (.ref (x + 94)), some (.ref (x + 95)), some (.int (ii i)), l6, l7, l8], [], cm (mm M0 (x + 70) S) x C) Q := by
  obtain ⟨r1, r2, r3, v1, v2, v3, a1, a2, a3, c1, c2, cr1, cr2⟩ := hE
  have hC := hR.2.1
  have hS := hR.1.1
  have hx := hR.1.2.1
  have g0 := WG_0 hW
  have p7 := hR.2.2.2.2.1.2.1
  have ptc := fun k k0 k1 => (hR.2.2.2.2.1.2.2 k k0 k1).2
  have p4 := hR.2.2.2.1.1
  have p14 := hR.2.2.2.1.2.1
  have p9 := hR.2.2.2.2.2.1.2.1
  have p3 := hR.2.2.1.1
  obtain ⟨f1, f2, f3⟩ := hR.2.2.2.2.2.2.1
  obtain ⟨n1, n2, n3⟩ := hR.2.2.2.2.2.2.2
  have kk := hC.1
  have kk0 := kk.1
  have kk4 := kk.2.1
  have kt0 := kk.2.2.2.1
  have kt1 := kk.2.2.2.2.1
  obtain ⟨⟨o1, ho1⟩, ⟨o2, ho2⟩⟩ := id hW
  have hm : ∀ (d : Nat) (Q : JR → JM → Prop), CC X d 196 [.ref (x + 70)] (cm (mm M0 (x + 70) S) x C) Q = Q (rt (S.2 0 125)) (cm (mm M0 (x + 70) (uN S.1 5 0, S.2)) x C) := fun d Q => by
    rw [cm_mm (by omega), m_textLength rfl, ← cm_mm (by omega)]
  have hk1 := fun (d : Nat) (Q : JR → JM → Prop) (hd : 1 ≤ d) => k_textLength (X := X) (d := d) (Q := Q) hd hC
  unfold rt at hm hk1
  repeat' (first | (simp (disch := first | assumption | exact wd_n | exact wd_i | exact wd_r | exact ct_r | exact ct_i | exact stB_0 | exact stB_1 | exact stB_2 | exact stB_3 | exact stB_4 | exact stB_5 | exact ct_2 | exact b2i_c _ | exact wd_0 | exact wd_f | omega | ((simp (disch := omega) only [uN_s, uN_n, uA_s, uA_n, up_s, up_n]) <;> omega)) only [x0_1096, x0_1097, x0_1100, x0_1101, x0_1104, x0_1107, x0_1108, XC_v, XC_s, true_and, and_true, and_self, bq_T, bq_F, yt_s, Bool.false_eq_true, Bool.true_eq_false, cm_1, mm_1, mm_cl, cc_0, mset_1, mset_21, mset_eq, mset_ne, mset_cm, mset_mm, cm_ne, mm_ne, mcl_wc, mcl_wm, yw_L, ya_L, yw_D, ya_D, lcmp_r, if_true, m_thrown, hm, hk1]) | (refine bq_t (by omega) ?_) | (refine bq_f (by omega) ?_) | fail)
  exact hK _ _ _ _ _ _ (REL_b (REL_q hR (QF.refl hS) (RF_n (RF.refl S) (by omega)).q) (BX_mm g0.1)) (WG_w g0 (by omega) (by omega))
theorem st_41 (hd : 500 ≤ d) (hE : EV X i a b c ac bc) (hW : WA M0 x) (hR : REL (mm M0 (x + 70) S) x C S) (hK : ∀ M1 C' S' l6 l7 l8, REL (mm M1 (x + 70) S') x C' S' → WG 24 330 M0 x M1 → XX X d 0 (2632, [some (.ref X.1), some (.ref x), some (.ref (x + 70)), some (.ref (x + 94)), some (.ref (x + 95)), some (.int (ii i)), l6, l7, l8], [], cm (mm M1 (x + 70) S') x C') Q) : XX X d 0 (2562, [some (.ref X.1), some (.ref x), some (.ref (x + 70)), some (.ref (x + 94)), some (.ref (x + 95)), some (.int (ii i)), l6, l7, l8], [], cm (mm M0 (x + 70) S) x C) Q := by
  obtain ⟨r1, r2, r3, v1, v2, v3, a1, a2, a3, c1, c2, cr1, cr2⟩ := hE
  have hC := hR.2.1
  have hS := hR.1.1
  have hx := hR.1.2.1
  have g0 := WG_0 hW
  have p7 := hR.2.2.2.2.1.2.1
  have ptc := fun k k0 k1 => (hR.2.2.2.2.1.2.2 k k0 k1).2
  have p4 := hR.2.2.2.1.1
  have p14 := hR.2.2.2.1.2.1
  have p9 := hR.2.2.2.2.2.1.2.1
  have p3 := hR.2.2.1.1
  obtain ⟨f1, f2, f3⟩ := hR.2.2.2.2.2.2.1
  obtain ⟨n1, n2, n3⟩ := hR.2.2.2.2.2.2.2
  have kk := hC.1
  have kk0 := kk.1
  have kk4 := kk.2.1
  have kt0 := kk.2.2.2.1
  have kt1 := kk.2.2.2.2.1
  obtain ⟨⟨o1, ho1⟩, ⟨o2, ho2⟩⟩ := id hW
  have hm : ∀ (d : Nat) (Q : JR → JM → Prop), CC X d 230 [.ref (x + 70)] (cm (mm M0 (x + 70) S) x C) Q = Q (rt (S.1 4)) (cm (mm M0 (x + 70) (uN S.1 5 0, S.2)) x C) := fun d Q => by
    rw [cm_mm (by omega), m_undoCount, ← cm_mm (by omega)]
  have hk1 := fun (d : Nat) (Q : JR → JM → Prop) (hd : 1 ≤ d) => k_undoCount (X := X) (d := d) (M0 := mm M0 (x + 70) S) (x := x) (C := C) (Q := Q) hd
  unfold rt at hm hk1
  repeat' (first | (simp (disch := first | assumption | exact wd_n | exact wd_i | exact wd_r | exact ct_r | exact ct_i | exact stB_0 | exact stB_1 | exact stB_2 | exact stB_3 | exact stB_4 | exact stB_5 | exact ct_2 | exact b2i_c _ | exact wd_0 | exact wd_f | omega | ((simp (disch := omega) only [uN_s, uN_n, uA_s, uA_n, up_s, up_n]) <;> omega)) only [x0_2562, x0_2563, x0_2566, x0_2567, x0_2570, x0_2573, x0_2574, XC_v, XC_s, true_and, and_true, and_self, bq_T, bq_F, yt_s, Bool.false_eq_true, Bool.true_eq_false, cm_1, mm_1, mm_cl, cc_0, mset_1, mset_21, mset_eq, mset_ne, mset_cm, mset_mm, cm_ne, mm_ne, mcl_wc, mcl_wm, yw_L, ya_L, yw_D, ya_D, lcmp_r, if_true, m_thrown, hm, hk1, p14]) | (refine bq_t (by omega) ?_) | (refine bq_f (by omega) ?_) | fail)
  exact hK _ _ _ _ _ _ (REL_b (REL_q hR (QF.refl hS) (RF_n (RF.refl S) (by omega)).q) (BX_mm g0.1)) (WG_w g0 (by omega) (by omega))
theorem st_13 (hd : 500 ≤ d) (hE : EV X i a b c ac bc) (hW : WA M0 x) (hR : REL (mm M0 (x + 70) S) x C S) (hK : ∀ M1 C' S' l6 l7 l8, REL (mm M1 (x + 70) S') x C' S' → WG 24 330 M0 x M1 → XX X d 0 (2632, [some (.ref X.1), some (.ref x), some (.ref (x + 70)), some (.ref (x + 94)), some (.ref (x + 95)), some (.int (ii i)), l6, l7, l8], [], cm (mm M1 (x + 70) S') x C') Q) : XX X d 0 (889, [some (.ref X.1), some (.ref x), some (.ref (x + 70)), some (.ref (x + 94)), some (.ref (x + 95)), some (.int (ii i)), l6, l7, l8], [], cm (mm M0 (x + 70) S) x C) Q := by
  obtain ⟨r1, r2, r3, v1, v2, v3, a1, a2, a3, c1, c2, cr1, cr2⟩ := hE
  have hC := hR.2.1
  have hS := hR.1.1
  have hx := hR.1.2.1
  have g0 := WG_0 hW
  have p7 := hR.2.2.2.2.1.2.1
  have ptc := fun k k0 k1 => (hR.2.2.2.2.1.2.2 k k0 k1).2
  have p4 := hR.2.2.2.1.1
  have p14 := hR.2.2.2.1.2.1
  have p9 := hR.2.2.2.2.2.1.2.1
  have p3 := hR.2.2.1.1
  obtain ⟨f1, f2, f3⟩ := hR.2.2.2.2.2.2.1
  obtain ⟨n1, n2, n3⟩ := hR.2.2.2.2.2.2.2
  have kk := hC.1
  have kk0 := kk.1
  have kk4 := kk.2.1
  have kt0 := kk.2.2.2.1
  have kt1 := kk.2.2.2.2.1
  obtain ⟨⟨o1, ho1⟩, ⟨o2, ho2⟩⟩ := id hW
  repeat' (first | (simp (disch := first | assumption | exact wd_n | exact wd_i | exact wd_r | exact ct_r | exact ct_i | exact stB_0 | exact stB_1 | exact stB_2 | exact stB_3 | exact stB_4 | exact stB_5 | exact ct_2 | exact b2i_c _ | exact wd_0 | exact wd_f | omega | ((simp (disch := omega) only [uN_s, uN_n, uA_s, uA_n, up_s, up_n]) <;> omega)) only [x0_889, x0_890, x0_893, x0_894, x0_897, x0_900, x0_901, XC_v, XC_s, true_and, and_true, and_self, bq_T, bq_F, yt_s, Bool.false_eq_true, Bool.true_eq_false, cm_1, mm_1, mm_cl, cc_0, mset_1, mset_21, mset_eq, mset_ne, mset_cm, mset_mm, cm_ne, mm_ne, mcl_wc, mcl_wm, yw_L, ya_L, yw_D, ya_D, lcmp_r, if_true, m_thrown]) | (refine bq_t (by omega) ?_) | (refine bq_f (by omega) ?_) | fail)
  refine s_setText (by omega) hR (fun C' hrel => ?_)
  rw [cm_mm (by omega)]
  unfold rt
  repeat' (first | (simp (disch := first | assumption | exact wd_n | exact wd_i | exact wd_r | exact ct_r | exact ct_i | exact stB_0 | exact stB_1 | exact stB_2 | exact stB_3 | exact stB_4 | exact stB_5 | exact ct_2 | exact b2i_c _ | exact wd_0 | exact wd_f | omega | ((simp (disch := omega) only [uN_s, uN_n, uA_s, uA_n, up_s, up_n]) <;> omega)) only [x0_889, x0_890, x0_893, x0_894, x0_897, x0_900, x0_901, XC_v, XC_s, true_and, and_true, and_self, bq_T, bq_F, yt_s, Bool.false_eq_true, Bool.true_eq_false, cm_1, mm_1, mm_cl, cc_0, mset_1, mset_21, mset_eq, mset_ne, mset_cm, mset_mm, cm_ne, mm_ne, mcl_wc, mcl_wm, yw_L, ya_L, yw_D, ya_D, lcmp_r, if_true, m_thrown]) | (refine bq_t (by omega) ?_) | (refine bq_f (by omega) ?_) | fail)
  refine m_setText (by omega) rfl p9 p4 (fun S' he h5 f9 hkb f125 ft fj => ?_)
  unfold rt
  repeat' (first | (simp (disch := first | assumption | exact wd_n | exact wd_i | exact wd_r | exact ct_r | exact ct_i | exact stB_0 | exact stB_1 | exact stB_2 | exact stB_3 | exact stB_4 | exact stB_5 | exact ct_2 | exact b2i_c _ | exact wd_0 | exact wd_f | omega | ((simp (disch := omega) only [uN_s, uN_n, uA_s, uA_n, up_s, up_n]) <;> omega)) only [x0_889, x0_890, x0_893, x0_894, x0_897, x0_900, x0_901, XC_v, XC_s, true_and, and_true, and_self, bq_T, bq_F, yt_s, Bool.false_eq_true, Bool.true_eq_false, cm_1, mm_1, mm_cl, cc_0, mset_1, mset_21, mset_eq, mset_ne, mset_cm, mset_mm, cm_ne, mm_ne, mcl_wc, mcl_wm, yw_L, ya_L, yw_D, ya_D, lcmp_r, if_true, m_thrown]) | (refine bq_t (by omega) ?_) | (refine bq_f (by omega) ?_) | fail)
  rw [← cm_mm (by omega)]
  exact hK _ _ _ _ _ _ (REL_b (hrel S' he f9 hkb f125 ft fj) (BX_mm g0.1)) (WG_w g0 (by omega) (by omega))
theorem st_36 (hd : 500 ≤ d) (hE : EV X i a b c ac bc) (hW : WA M0 x) (hR : REL (mm M0 (x + 70) S) x C S) (hK : ∀ M1 C' S' l6 l7 l8, REL (mm M1 (x + 70) S') x C' S' → WG 24 330 M0 x M1 → XX X d 0 (2632, [some (.ref X.1), some (.ref x), some (.ref (x + 70)), some (.ref (x + 94)), some (.ref (x + 95)), some (.int (ii i)), l6, l7, l8], [], cm (mm M1 (x + 70) S') x C') Q) : XX X d 0 (2325, [some (.ref X.1), some (.ref x), some (.ref (x + 70)), some (.ref (x + 94)), some (.ref (x + 95)), some (.int (ii i)), l6, l7, l8], [], cm (mm M0 (x + 70) S) x C) Q := by
  obtain ⟨r1, r2, r3, v1, v2, v3, a1, a2, a3, c1, c2, cr1, cr2⟩ := hE
  have hC := hR.2.1
  have hS := hR.1.1
  have hx := hR.1.2.1
  have g0 := WG_0 hW
  have p7 := hR.2.2.2.2.1.2.1
  have ptc := fun k k0 k1 => (hR.2.2.2.2.1.2.2 k k0 k1).2
  have p4 := hR.2.2.2.1.1
  have p14 := hR.2.2.2.1.2.1
  have p9 := hR.2.2.2.2.2.1.2.1
  have p3 := hR.2.2.1.1
  obtain ⟨f1, f2, f3⟩ := hR.2.2.2.2.2.2.1
  obtain ⟨n1, n2, n3⟩ := hR.2.2.2.2.2.2.2
  have kk := hC.1
  have kk0 := kk.1
  have kk4 := kk.2.1
  have kt0 := kk.2.2.2.1
  have kt1 := kk.2.2.2.2.1
  obtain ⟨⟨o1, ho1⟩, ⟨o2, ho2⟩⟩ := id hW
  have hm := fun (d : Nat) (M1 : JM) (Q : JR → JM → Prop) => m_isConsistent (X := X) (d := d) (M0 := M1) (m := x + 70) (S := S) (Q := Q)
  repeat' (first | (simp (disch := first | assumption | exact wd_n | exact wd_i | exact wd_r | exact ct_r | exact ct_i | exact stB_0 | exact stB_1 | exact stB_2 | exact stB_3 | exact stB_4 | exact stB_5 | exact ct_2 | exact b2i_c _ | exact wd_0 | exact wd_f | omega | ((simp (disch := omega) only [uN_s, uN_n, uA_s, uA_n, up_s, up_n]) <;> omega)) only [x0_2325, x0_2326, x0_2329, x0_2330, x0_2333, x0_2336, x0_2337, XC_v, XC_s, true_and, and_true, and_self, bq_T, bq_F, yt_s, Bool.false_eq_true, Bool.true_eq_false, cm_1, mm_1, mm_cl, cc_0, mset_1, mset_21, mset_eq, mset_ne, mset_cm, mset_mm, cm_ne, mm_ne, mcl_wc, mcl_wm, yw_L, ya_L, yw_D, ya_D, lcmp_r, if_true, m_thrown]) | (refine bq_t (by omega) ?_) | (refine bq_f (by omega) ?_) | fail)
  refine k_isConsistent (by omega) hC hS (fun C' hq => ?_)
  rw [cm_mm (by omega)]
  unfold rt at hm ⊢
  repeat' (first | (simp (disch := first | assumption | exact wd_n | exact wd_i | exact wd_r | exact ct_r | exact ct_i | exact stB_0 | exact stB_1 | exact stB_2 | exact stB_3 | exact stB_4 | exact stB_5 | exact ct_2 | exact b2i_c _ | exact wd_0 | exact wd_f | omega | ((simp (disch := omega) only [uN_s, uN_n, uA_s, uA_n, up_s, up_n]) <;> omega)) only [x0_2325, x0_2326, x0_2329, x0_2330, x0_2333, x0_2336, x0_2337, XC_v, XC_s, true_and, and_true, and_self, bq_T, bq_F, yt_s, Bool.false_eq_true, Bool.true_eq_false, cm_1, mm_1, mm_cl, cc_0, mset_1, mset_21, mset_eq, mset_ne, mset_cm, mset_mm, cm_ne, mm_ne, mcl_wc, mcl_wm, yw_L, ya_L, yw_D, ya_D, lcmp_r, if_true, m_thrown, hm]) | (refine bq_t (by omega) ?_) | (refine bq_f (by omega) ?_) | fail)
  rw [← cm_mm (by omega)]
  exact hK _ _ _ _ _ _ (REL_b (REL_q hR hq (RF_n (RF.refl S) (by omega)).q) (BX_mm g0.1)) (WG_w g0 (by omega) (by omega))
theorem st_42 (hd : 500 ≤ d) (hE : EV X i a b c ac bc) (hW : WA M0 x) (hR : REL (mm M0 (x + 70) S) x C S) (hK : ∀ M1 C' S' l6 l7 l8, REL (mm M1 (x + 70) S') x C' S' → WG 24 330 M0 x M1 → XX X d 0 (2632, [some (.ref X.1), some (.ref x), some (.ref (x + 70)), some (.ref (x + 94)), some (.ref (x + 95)), some (.int (ii i)), l6, l7, l8], [], cm (mm M1 (x + 70) S') x C') Q) : XX X d 0 (2575, [some (.ref X.1), some (.ref x), some (.ref (x + 70)), some (.ref (x + 94)), some (.ref (x + 95)), some (.int (ii i)), l6, l7, l8], [], cm (mm M0 (x + 70) S) x C) Q := by
  obtain ⟨r1, r2, r3, v1, v2, v3, a1, a2, a3, c1, c2, cr1, cr2⟩ := hE
  have hC := hR.2.1
  have hS := hR.1.1
  have hx := hR.1.2.1
  have g0 := WG_0 hW
  have p7 := hR.2.2.2.2.1.2.1
  have ptc := fun k k0 k1 => (hR.2.2.2.2.1.2.2 k k0 k1).2
  have p4 := hR.2.2.2.1.1
  have p14 := hR.2.2.2.1.2.1
  have p9 := hR.2.2.2.2.2.1.2.1
  have p3 := hR.2.2.1.1
  obtain ⟨f1, f2, f3⟩ := hR.2.2.2.2.2.2.1
  obtain ⟨n1, n2, n3⟩ := hR.2.2.2.2.2.2.2
  have kk := hC.1
  have kk0 := kk.1
  have kk4 := kk.2.1
  have kt0 := kk.2.2.2.1
  have kt1 := kk.2.2.2.2.1
  obtain ⟨⟨o1, ho1⟩, ⟨o2, ho2⟩⟩ := id hW
  repeat' (first | (simp (disch := first | assumption | exact wd_n | exact wd_i | exact wd_r | exact ct_r | exact ct_i | exact stB_0 | exact stB_1 | exact stB_2 | exact stB_3 | exact stB_4 | exact stB_5 | exact ct_2 | exact b2i_c _ | exact wd_0 | exact wd_f | omega | ((simp (disch := omega) only [uN_s, uN_n, uA_s, uA_n, up_s, up_n]) <;> omega)) only [x0_2575, x0_2576, x0_2579, x0_2580, x0_2583, x0_2586, x0_2587, XC_v, XC_s, true_and, and_true, and_self, bq_T, bq_F, yt_s, Bool.false_eq_true, Bool.true_eq_false, cm_1, mm_1, mm_cl, cc_0, mset_1, mset_21, mset_eq, mset_ne, mset_cm, mset_mm, cm_ne, mm_ne, mcl_wc, mcl_wm, yw_L, ya_L, yw_D, ya_D, lcmp_r, if_true, m_thrown]) | (refine bq_t (by omega) ?_) | (refine bq_f (by omega) ?_) | fail)
  refine s_saveSnapshot (by omega) hR (fun C' hrel => ?_)
  rw [cm_mm (by omega)]
  unfold rt
  repeat' (first | (simp (disch := first | assumption | exact wd_n | exact wd_i | exact wd_r | exact ct_r | exact ct_i | exact stB_0 | exact stB_1 | exact stB_2 | exact stB_3 | exact stB_4 | exact stB_5 | exact ct_2 | exact b2i_c _ | exact wd_0 | exact wd_f | omega | ((simp (disch := omega) only [uN_s, uN_n, uA_s, uA_n, up_s, up_n]) <;> omega)) only [x0_2575, x0_2576, x0_2579, x0_2580, x0_2583, x0_2586, x0_2587, XC_v, XC_s, true_and, and_true, and_self, bq_T, bq_F, yt_s, Bool.false_eq_true, Bool.true_eq_false, cm_1, mm_1, mm_cl, cc_0, mset_1, mset_21, mset_eq, mset_ne, mset_cm, mset_mm, cm_ne, mm_ne, mcl_wc, mcl_wm, yw_L, ya_L, yw_D, ya_D, lcmp_r, if_true, m_thrown]) | (refine bq_t (by omega) ?_) | (refine bq_f (by omega) ?_) | fail)
  refine m_saveSnapshot (by omega) rfl (fun S' he h5 f3 fg => ?_)
  unfold rt
  repeat' (first | (simp (disch := first | assumption | exact wd_n | exact wd_i | exact wd_r | exact ct_r | exact ct_i | exact stB_0 | exact stB_1 | exact stB_2 | exact stB_3 | exact stB_4 | exact stB_5 | exact ct_2 | exact b2i_c _ | exact wd_0 | exact wd_f | omega | ((simp (disch := omega) only [uN_s, uN_n, uA_s, uA_n, up_s, up_n]) <;> omega)) only [x0_2575, x0_2576, x0_2579, x0_2580, x0_2583, x0_2586, x0_2587, XC_v, XC_s, true_and, and_true, and_self, bq_T, bq_F, yt_s, Bool.false_eq_true, Bool.true_eq_false, cm_1, mm_1, mm_cl, cc_0, mset_1, mset_21, mset_eq, mset_ne, mset_cm, mset_mm, cm_ne, mm_ne, mcl_wc, mcl_wm, yw_L, ya_L, yw_D, ya_D, lcmp_r, if_true, m_thrown]) | (refine bq_t (by omega) ?_) | (refine bq_f (by omega) ?_) | fail)
  rw [← cm_mm (by omega)]
  exact hK _ _ _ _ _ _ (REL_b (hrel S' he f3 fg) (BX_mm g0.1)) (WG_w g0 (by omega) (by omega))
end CAS2
theorem REL_0 {B : JM} {x : Nat} (h : x + 96 ≤ B.1) : REL B x CI0 MI0 := by
  refine ⟨⟨⟨by decide, by decide, by decide, by decide, by decide, by decide, by decide, by decide, by decide⟩, h, by decide, fun o ho => ?_⟩, ⟨⟨by decide, by decide, fun p p0 p1 => ?_, by decide, by decide, fun k _ _ => by show (0 : Int) ≤ 0 ∧ (0 : Int) ≤ 65535; omega⟩, rfl, rfl, fun k k0 k1 => rfl, fun p p0 p1 => ?_⟩, ⟨Or.inl rfl, rfl, fun q => ?_⟩, ⟨by decide, rfl, fun i i0 i1 => ?_⟩, ⟨rfl, by decide, fun k k0 k1 => ?_⟩, ⟨rfl, by decide, fun k k0 k1 => ?_⟩, ⟨rfl, by decide, fun q => ?_⟩, ⟨rfl, by decide, fun k k0 k1 => ?_⟩⟩
  · show 0 ≤ (if o + 2 = 71 ∨ o + 2 = 72 ∨ o + 2 = 73 ∨ o + 2 = 74 ∨ o + 2 = 75 then (-1 : Int) else 0) ∧ (if o + 2 = 71 ∨ o + 2 = 72 ∨ o + 2 = 73 ∨ o + 2 = 74 ∨ o + 2 = 75 then (-1 : Int) else 0) ≤ 40
    unfold isC at ho
    rw [if_neg (by omega)]
    omega
  · have : p < 0 := p1
    omega
  · have : p < 0 := p1
    omega
  · have : (0 : Int) = 1 := q
    omega
  · have : i < 0 := i1
    omega
  · have : k < 0 := k1
    omega
  · have : k < 0 := k1
    omega
  · have : (0 : Int) ≤ -1 := q
    omega
  · have : k < 0 := k1
    omega
theorem ch_ex (z : Int32) : ∃ c, (z.toUInt32 % 65536).toInt32 = ii c ∧ 0 ≤ c ∧ c ≤ 65535 := by
  refine ⟨_, ii_eq _, ?_⟩
  have e : ((z.toUInt32 % 65536).toInt32).toInt = (z.toBitVec % 65536#32).toInt := rfl
  have hn : (z.toBitVec % 65536#32).toNat < 65536 := by
    rw [BitVec.toNat_umod]
    exact Nat.mod_lt _ (by decide)
  rw [e, BitVec.toInt_eq_toNat_of_lt (by omega)]
  omega
theorem an_ex (z : Int32) : ∃ c, z &&& ii 63 = ii c ∧ 0 ≤ c ∧ c ≤ 63 := by
  refine ⟨_, ii_eq _, ?_⟩
  have e : (z &&& ii 63).toInt = (z.toBitVec &&& 63#32).toInt := rfl
  have hn : (z.toBitVec &&& 63#32).toNat ≤ 63 := by
    rw [BitVec.toNat_and]
    exact Nat.and_le_right
  rw [e, BitVec.toInt_eq_toNat_of_lt (by omega)]
  omega
theorem EV_ex {X : JX} {i : Nat} (h : i + 3 < X.2.1) (hL : X.2.1 ≤ 2048) : ∃ a b c ac bc, EV X i a b c ac bc := by
  obtain ⟨ac, h1, h2⟩ := ch_ex (X.2.2 (ii ((i : Int) + 1)).toNatClampNeg)
  obtain ⟨bc, h3, h4⟩ := ch_ex (X.2.2 (ii ((i : Int) + 2)).toNatClampNeg)
  refine ⟨_, _, _, ac, bc, ⟨rfl, ix_ok (by omega)⟩, ⟨rfl, ix_ok (by omega)⟩, ⟨rfl, ix_ok (by omega)⟩, ii_eq _, ii_eq _, ii_eq _, ii_rg _, ii_rg _, ii_rg _, ?_, ?_, h2, h4⟩
  · rw [← ii_eq]
    exact h1
  · rw [← ii_eq]
    exact h3
