/-! the law's loop -/
section LLP
variable {X : JX} {d x : Nat} {Q : JR → JM → Prop} {K1 K2 : Nat}
def LTB (k : Int) : Option Nat := if k < 0 ∨ 43 < k then some 2632 else ([236, 294, 338, 394, 407, 463, 531, 587, 643, 699, 743, 787, 831, 889, 902, 958, 1026, 1096, 1109, 1165, 1228, 1291, 1359, 1427, 1495, 1563, 1650, 1730, 1810, 1866, 1934, 2002, 2058, 2114, 2170, 2247, 2325, 2338, 2406, 2462, 2518, 2562, 2575, 2588] : List Nat)[(k - 0).toNat]?
theorem law_d (hd : 500 ≤ d) {M0 : JM} {C : CS} {S : MS} {i a b c ac bc k : Int} {l6 l7 l8 : Option Value} (hk : 0 ≤ k ∧ k ≤ 63) (hE : EV X i a b c ac bc) (hW : WA M0 x) (hR : REL (mm M0 (x + 70) S) x C S) (hK : ∀ M1 C' S' l6 l7 l8, REL (mm M1 (x + 70) S') x C' S' → WG 24 330 M0 x M1 → XX X d 0 (2632, [some (.ref X.1), some (.ref x), some (.ref (x + 70)), some (.ref (x + 94)), some (.ref (x + 95)), some (.int (ii i)), l6, l7, l8], [], cm (mm M1 (x + 70) S') x C') Q) : yt (LTB k) X d 0 [some (.ref X.1), some (.ref x), some (.ref (x + 70)), some (.ref (x + 94)), some (.ref (x + 95)), some (.int (ii i)), l6, l7, l8] [] (cm (mm M0 (x + 70) S) x C) Q := by
  by_cases h43 : 43 < k
  · have e : LTB k = some 2632 := if_pos (Or.inr h43)
    rw [e, yt_s]
    exact hK _ _ _ _ _ _ hR (WG_w (WG_0 hW) (by omega) (by omega))
  · have hc : k = 0 ∨ k = 1 ∨ k = 2 ∨ k = 3 ∨ k = 4 ∨ k = 5 ∨ k = 6 ∨ k = 7 ∨ k = 8 ∨ k = 9 ∨ k = 10 ∨ k = 11 ∨ k = 12 ∨ k = 13 ∨ k = 14 ∨ k = 15 ∨ k = 16 ∨ k = 17 ∨ k = 18 ∨ k = 19 ∨ k = 20 ∨ k = 21 ∨ k = 22 ∨ k = 23 ∨ k = 24 ∨ k = 25 ∨ k = 26 ∨ k = 27 ∨ k = 28 ∨ k = 29 ∨ k = 30 ∨ k = 31 ∨ k = 32 ∨ k = 33 ∨ k = 34 ∨ k = 35 ∨ k = 36 ∨ k = 37 ∨ k = 38 ∨ k = 39 ∨ k = 40 ∨ k = 41 ∨ k = 42 ∨ k = 43 := by omega
    rcases hc with rfl | rfl | rfl | rfl | rfl | rfl | rfl | rfl | rfl | rfl | rfl | rfl | rfl | rfl | rfl | rfl | rfl | rfl | rfl | rfl | rfl | rfl | rfl | rfl | rfl | rfl | rfl | rfl | rfl | rfl | rfl | rfl | rfl | rfl | rfl | rfl | rfl | rfl | rfl | rfl | rfl | rfl | rfl | rfl
    · rw [show LTB 0 = some 236 from rfl, yt_s]
      exact st_0 hd hE hW hR hK
    · rw [show LTB 1 = some 294 from rfl, yt_s]
      exact st_1 hd hE hW hR hK
    · rw [show LTB 2 = some 338 from rfl, yt_s]
      exact st_2 hd hE hW hR hK
    · rw [show LTB 3 = some 394 from rfl, yt_s]
      exact st_3 hd hE hW hR hK
    · rw [show LTB 4 = some 407 from rfl, yt_s]
      exact st_4 hd hE hW hR hK
    · rw [show LTB 5 = some 463 from rfl, yt_s]
      exact st_5 hd hE hW hR hK
    · rw [show LTB 6 = some 531 from rfl, yt_s]
      exact st_6 hd hE hW hR hK
    · rw [show LTB 7 = some 587 from rfl, yt_s]
      exact st_7 hd hE hW hR hK
    · rw [show LTB 8 = some 643 from rfl, yt_s]
      exact st_8 hd hE hW hR hK
    · rw [show LTB 9 = some 699 from rfl, yt_s]
      exact st_9 hd hE hW hR hK
    · rw [show LTB 10 = some 743 from rfl, yt_s]
      exact st_10 hd hE hW hR hK
    · rw [show LTB 11 = some 787 from rfl, yt_s]
      exact st_11 hd hE hW hR hK
    · rw [show LTB 12 = some 831 from rfl, yt_s]
      exact st_12 hd hE hW hR hK
    · rw [show LTB 13 = some 889 from rfl, yt_s]
      exact st_13 hd hE hW hR hK
    · rw [show LTB 14 = some 902 from rfl, yt_s]
      exact st_14 hd hE hW hR hK
    · rw [show LTB 15 = some 958 from rfl, yt_s]
      exact st_15 hd hE hW hR hK
    · rw [show LTB 16 = some 1026 from rfl, yt_s]
      exact st_16 hd hE hW hR hK
    · rw [show LTB 17 = some 1096 from rfl, yt_s]
      exact st_17 hd hE hW hR hK
    · rw [show LTB 18 = some 1109 from rfl, yt_s]
      exact st_18 hd hE hW hR hK
    · rw [show LTB 19 = some 1165 from rfl, yt_s]
      exact st_19 hd hE hW hR hK
    · rw [show LTB 20 = some 1228 from rfl, yt_s]
      exact st_20 hd hE hW hR hK
    · rw [show LTB 21 = some 1291 from rfl, yt_s]
      exact st_21 hd hE hW hR hK
    · rw [show LTB 22 = some 1359 from rfl, yt_s]
      exact st_22 hd hE hW hR hK
    · rw [show LTB 23 = some 1427 from rfl, yt_s]
      exact st_23 hd hE hW hR hK
    · rw [show LTB 24 = some 1495 from rfl, yt_s]
      exact st_24 hd hE hW hR hK
    · rw [show LTB 25 = some 1563 from rfl, yt_s]
      exact st_25 hd hE hW hR hK
    · rw [show LTB 26 = some 1650 from rfl, yt_s]
      exact st_26 hd hE hW hR hK
    · rw [show LTB 27 = some 1730 from rfl, yt_s]
      exact st_27 hd hE hW hR hK
    · rw [show LTB 28 = some 1810 from rfl, yt_s]
      exact st_28 hd hE hW hR hK
    · rw [show LTB 29 = some 1866 from rfl, yt_s]
      exact st_29 hd hE hW hR hK
    · rw [show LTB 30 = some 1934 from rfl, yt_s]
      exact st_30 hd hE hW hR hK
    · rw [show LTB 31 = some 2002 from rfl, yt_s]
      exact st_31 hd hE hW hR hK
    · rw [show LTB 32 = some 2058 from rfl, yt_s]
      exact st_32 hd hE hW hR hK
    · rw [show LTB 33 = some 2114 from rfl, yt_s]
      exact st_33 hd hE hW hR hK
    · rw [show LTB 34 = some 2170 from rfl, yt_s]
      exact st_34 hd hE hW hR hK
    · rw [show LTB 35 = some 2247 from rfl, yt_s]
      exact st_35 hd hE hW hR hK
    · rw [show LTB 36 = some 2325 from rfl, yt_s]
      exact st_36 hd hE hW hR hK
    · rw [show LTB 37 = some 2338 from rfl, yt_s]
      exact st_37 hd hE hW hR hK
    · rw [show LTB 38 = some 2406 from rfl, yt_s]
      exact st_38 hd hE hW hR hK
    · rw [show LTB 39 = some 2462 from rfl, yt_s]
      exact st_39 hd hE hW hR hK
    · rw [show LTB 40 = some 2518 from rfl, yt_s]
      exact st_40 hd hE hW hR hK
    · rw [show LTB 41 = some 2562 from rfl, yt_s]
      exact st_41 hd hE hW hR hK
    · rw [show LTB 42 = some 2575 from rfl, yt_s]
      exact st_42 hd hE hW hR hK
    · rw [show LTB 43 = some 2588 from rfl, yt_s]
      exact st_43 hd hE hW hR hK
set_option maxRecDepth 20000 in
theorem law_L (hd : 500 ≤ d) (hL : X.2.1 ≤ 2048) (hq : ∀ M, M.1 ≤ K1 + 6 * (X.2.1 + 4) → M.2.1 ≤ K2 + 83 * (X.2.1 + 4) → Q (rt 1) M) : ∀ (u i : Nat) (M0 : JM) (C : CS) (S : MS) (l6 l7 l8 : Option Value), X.2.1 < i + 4 * u + 4 → i ≤ X.2.1 + 4 → REL (mm M0 (x + 70) S) x C S → WA M0 x → M0.1 ≤ K1 + 6 * i → M0.2.1 ≤ K2 + 83 * i → XX X d 0 (28, [some (.ref X.1), some (.ref x), some (.ref (x + 70)), some (.ref (x + 94)), some (.ref (x + 95)), some (.int (ii (i : Int))), l6, l7, l8], [], cm (mm M0 (x + 70) S) x C) Q := by
  intro u
  induction u with
  | zero =>
    intro i M0 C S l6 l7 l8 hu hi hR hW h1 h2
    have hq := hq (cm (mm M0 (x + 70) S) x C) (by show M0.1 ≤ _; omega) (by show M0.2.1 ≤ _; omega)
    have e0 : Int32.ofNat X.2.1 = ii (X.2.1 : Int) := (ii_nat _)
    unfold rt at hq
    rw [x0_28]
    repeat' (first | (simp (disch := first | assumption | exact wd_n | exact wd_i | exact wd_r | exact ct_r | exact ct_i | exact stB_0 | exact stB_1 | exact stB_2 | exact stB_3 | exact stB_4 | exact stB_5 | exact ct_2 | exact b2i_c _ | exact wd_0 | exact wd_f | omega | ((simp (disch := omega) only [uN_s, uN_n, uA_s, uA_n, up_s, up_n]) <;> omega)) only [x0_30, x0_31, x0_32, x0_33, x0_34, x0_37, x0_38, x0_40, x0_41, x0_43, x0_44, x0_2638, x0_2639, XC_v, XC_s, true_and, and_true, and_self, bq_T, bq_F, yt_s, Bool.false_eq_true, Bool.true_eq_false, cm_1, mm_1, mm_cl, cc_0, mset_1, mset_21, mset_eq, mset_ne, mset_cm, mset_mm, cm_ne, mm_ne, mcl_wc, mcl_wm, yw_L, ya_L, yw_D, ya_D, lcmp_r, if_true, m_thrown, e0]) | (refine bq_t (by omega) ?_) | (refine bq_f (by omega) ?_) | fail)
    exact hq
  | succ u ih =>
    intro i M0 C S l6 l7 l8 hu hi hR hW h1 h2
    have e0 : Int32.ofNat X.2.1 = ii (X.2.1 : Int) := (ii_nat _)
    by_cases hlen : (i : Int) ≤ (X.2.1 : Int) - 4
    · have r0 : X.1 = X.1 ∧ ¬ (ii (i : Int) < 0 ∨ X.2.1 ≤ (ii (i : Int)).toNatClampNeg) := ⟨rfl, ix_ok (by omega)⟩
      obtain ⟨k, hk1, hk2⟩ := an_ex (X.2.2 (ii (i : Int)).toNatClampNeg)
      obtain ⟨a, b, c, ac, bc, hE⟩ := EV_ex (X := X) (i := i) (by omega) hL
      rw [x0_28]
      repeat' (first | (simp (disch := first | assumption | exact wd_n | exact wd_i | exact wd_r | exact ct_r | exact ct_i | exact stB_0 | exact stB_1 | exact stB_2 | exact stB_3 | exact stB_4 | exact stB_5 | exact ct_2 | exact b2i_c _ | exact wd_0 | exact wd_f | omega | ((simp (disch := omega) only [uN_s, uN_n, uA_s, uA_n, up_s, up_n]) <;> omega)) only [x0_30, x0_31, x0_32, x0_33, x0_34, x0_37, x0_38, x0_40, x0_41, x0_43, x0_44, x0_2638, x0_2639, XC_v, XC_s, true_and, and_true, and_self, bq_T, bq_F, yt_s, Bool.false_eq_true, Bool.true_eq_false, cm_1, mm_1, mm_cl, cc_0, mset_1, mset_21, mset_eq, mset_ne, mset_cm, mset_mm, cm_ne, mm_ne, mcl_wc, mcl_wm, yw_L, ya_L, yw_D, ya_D, lcmp_r, if_true, m_thrown, e0, hk1]) | (refine bq_t (by omega) ?_) | (refine bq_f (by omega) ?_) | fail)
      refine law_d hd hk2 hE hW hR (fun M1 C' S' l6 l7 l8 hR1 hg => ?_)
      repeat' (first | (simp (disch := first | assumption | exact wd_n | exact wd_i | exact wd_r | exact ct_r | exact ct_i | exact stB_0 | exact stB_1 | exact stB_2 | exact stB_3 | exact stB_4 | exact stB_5 | exact ct_2 | exact b2i_c _ | exact wd_0 | exact wd_f | omega | ((simp (disch := omega) only [uN_s, uN_n, uA_s, uA_n, up_s, up_n]) <;> omega)) only [x0_2632, x0_2635, XC_v, XC_s, true_and, and_true, and_self, bq_T, bq_F, yt_s, Bool.false_eq_true, Bool.true_eq_false, cm_1, mm_1, mm_cl, cc_0, mset_1, mset_21, mset_eq, mset_ne, mset_cm, mset_mm, cm_ne, mm_ne, mcl_wc, mcl_wm, yw_L, ya_L, yw_D, ya_D, lcmp_r, if_true, m_thrown]) | (refine bq_t (by omega) ?_) | (refine bq_f (by omega) ?_) | fail)
      obtain ⟨g1, g2, g3, g4⟩ := hg
      have b1 : M1.1 ≤ K1 + 6 * (i + 4) := by omega
      have b2 : M1.2.1 ≤ K2 + 83 * (i + 4) := by omega
      exact ih (i + 4) M1 C' S' l6 l7 l8 (by omega) (by omega) hR1 g2 b1 b2
    · have hq := hq (cm (mm M0 (x + 70) S) x C) (by show M0.1 ≤ _; omega) (by show M0.2.1 ≤ _; omega)
      unfold rt at hq
      rw [x0_28]
      repeat' (first | (simp (disch := first | assumption | exact wd_n | exact wd_i | exact wd_r | exact ct_r | exact ct_i | exact stB_0 | exact stB_1 | exact stB_2 | exact stB_3 | exact stB_4 | exact stB_5 | exact ct_2 | exact b2i_c _ | exact wd_0 | exact wd_f | omega | ((simp (disch := omega) only [uN_s, uN_n, uA_s, uA_n, up_s, up_n]) <;> omega)) only [x0_30, x0_31, x0_32, x0_33, x0_34, x0_37, x0_38, x0_40, x0_41, x0_43, x0_44, x0_2638, x0_2639, XC_v, XC_s, true_and, and_true, and_self, bq_T, bq_F, yt_s, Bool.false_eq_true, Bool.true_eq_false, cm_1, mm_1, mm_cl, cc_0, mset_1, mset_21, mset_eq, mset_ne, mset_cm, mset_mm, cm_ne, mm_ne, mcl_wc, mcl_wm, yw_L, ya_L, yw_D, ya_D, lcmp_r, if_true, m_thrown, e0]) | (refine bq_t (by omega) ?_) | (refine bq_f (by omega) ?_) | fail)
      exact hq
theorem mnew_mm {M0 : JM} {m k : Nat} {S : MS} {e : JE} (h : m + 24 ≤ M0.1) : mnew (mm M0 m S) k e = mm (mnew M0 k e) m S := by
  unfold mnew mm
  simp only
  congr 2
  funext b
  by_cases hb : b = M0.1
  · subst hb
    rw [va_up_self, if_neg (by omega), if_neg (by omega), va_up_self]
  · rw [va_up_ne _ _ hb]
    by_cases h1 : b = m
    · rw [if_pos h1, if_pos h1]
    · rw [if_neg h1, if_neg h1]
      by_cases h2 : m < b ∧ b ≤ m + 23
      · rw [if_pos h2, if_pos h2]
      · rw [if_neg h2, if_neg h2, va_up_ne _ _ hb]
set_option maxRecDepth 20000 in
/-- the law's run from its entry -/
theorem law_all (hd : 600 ≤ d) (hL : X.2.1 ≤ 2048) {M : JM} : XX X d 0 (0, [some (.ref X.1), none, none, none, none, none, none, none, none], [], M) (fun r M' => r = rt 1 ∧ M'.1 ≤ M.1 + 20000 ∧ M'.2.1 ≤ M.2.1 + 300000) := by
  have hc := fun (d : Nat) (Q : JR → JM → Prop) (M : JM) (hd : 4 ≤ d) => i_cls (X := X) (d := d) (M := M) (Q := Q) hd
  have hm := fun (d : Nat) (Q : JR → JM → Prop) (M : JM) => m_init (X := X) (d := d) (M := M) (Q := Q)
  repeat' (first | (simp (disch := first | assumption | exact wd_n | exact wd_i | exact wd_r | exact ct_r | exact ct_i | exact stB_0 | exact stB_1 | exact stB_2 | exact stB_3 | exact stB_4 | exact stB_5 | exact ct_2 | exact b2i_c _ | exact wd_0 | exact wd_f | omega | ((simp (disch := omega) only [uN_s, uN_n, uA_s, uA_n, up_s, up_n]) <;> omega)) only [x0_0, x0_3, x0_4, x0_7, x0_8, x0_11, x0_12, x0_15, x0_16, x0_17, x0_19, x0_20, x0_21, x0_23, x0_25, x0_26, XC_v, XC_s, true_and, and_true, and_self, bq_T, bq_F, yt_s, Bool.false_eq_true, Bool.true_eq_false, bp9_0, bp9_1, bp9_2, bp9_6, bp9_8, bp9_13, bp9_15, bp9_19, bp9_20, bp9_21, bp9_22, bp9_23, bp9_26, bp9_27, bp9_28, bp9_30, bp9_31, bp9_32, bp9_33, bp9_36, bp9_37, bp9_39, bp9_40, bp9_10, bp8_0, bp8_1, bp8_2, bp8_3, bp8_5, bp8_9, bp8_10, bp8_11, bp8_12, bp8_13, bp8_14, bp8_15, bp8_6, bp8_7, bp8_8, bp8_4, bp1_0, bp1_2, bp1_1, bp2_0, bp2_1, bp2_2, bp0_0, bp0_1, bp0_2, bp7_0, bp7_1, bp7_2, bp7_4, bp7_5, bp7_3, List.cons_append, List.nil_append, tN, hc, hm]) | (refine bq_t (by omega) ?_) | (refine bq_f (by omega) ?_) | fail)
  show XX X d 0 (28, [some (.ref X.1), some (.ref M.1), some (.ref (M.1 + 70)), some (.ref (M.1 + 94)), some (.ref (M.1 + 95)), some (.int (ii 0)), none, none, none], [], mnew (mnew (mm (cm (M.1 + 94, M.2.1 + 2408 + 29629, M.2.2) M.1 CI0) (M.1 + 70) MI0) 1 (AL 1 (fun _ => 0))) 1 (AD 1 (fun _ => 0))) _
  generalize hM0 : ((M.1 + 94, M.2.1 + 2408 + 29629, M.2.2) : JM) = A
  have hA : A.1 = M.1 + 94 := by rw [← hM0]
  have hA2 : A.2.1 = M.2.1 + 2408 + 29629 := by rw [← hM0]
  have hB : (mnew A 1 (AL 1 (fun _ => 0))).1 = M.1 + 95 := by rw [mnew_1, hA]
  rw [← cm_mm (by omega), mnew_cm (by show M.1 + 70 ≤ A.1; omega), mnew_mm (by omega), mnew_cm (by show M.1 + 70 ≤ (mnew A 1 (AL 1 (fun _ => 0))).1; omega), mnew_mm (by omega)]
  have hw1 : (mnew (mnew A 1 (AL 1 (fun _ => 0))) 1 (AD 1 (fun _ => 0))).2.2 (M.1 + 94) = some (AL 1 (fun _ => 0)) := by
    rw [mnew_ne (by omega), ← hA, mnew_eq]
  have hw2 : (mnew (mnew A 1 (AL 1 (fun _ => 0))) 1 (AD 1 (fun _ => 0))).2.2 (M.1 + 95) = some (AD 1 (fun _ => 0)) := by
    rw [← hB, mnew_eq]
  have hn1 : (mnew (mnew A 1 (AL 1 (fun _ => 0))) 1 (AD 1 (fun _ => 0))).1 = M.1 + 96 := by rw [mnew_1, hB]
  have hn2 : (mnew (mnew A 1 (AL 1 (fun _ => 0))) 1 (AD 1 (fun _ => 0))).2.1 = A.2.1 + 1 + 1 := rfl
  generalize mnew (mnew A 1 (AL 1 (fun _ => 0))) 1 (AD 1 (fun _ => 0)) = M0 at *
  refine law_L (K1 := M.1 + 96) (K2 := M.2.1 + 33000) (by omega) hL (fun M' q1 q2 => ⟨rfl, by omega, by omega⟩) 513 0 M0 CI0 MI0 none none none (by omega) (by omega) (REL_0 (by show M.1 + 96 ≤ M0.1; omega)) ⟨⟨_, hw1⟩, ⟨_, hw2⟩⟩ (by omega) (by omega)
end LLP
