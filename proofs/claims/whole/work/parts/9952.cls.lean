/-! the class is made -/
def cont (a : Nat) : List JE := [.inr (1, [.ref (a + 1), .int (ii 0), .ref (a + 2)]), AR 5 4 (fun _ => .null), rwo (a + 2) 0, AI 40 (fun _ => 0)]
def back (a : Nat) : List JE := [.inr (0, [.ref (a + 1), .ref (a + 2), .ref (a + 4)]), AL 41 (fun _ => 0), rwo (a + 2) 0, AI 1231 (fun _ => 0), rwo (a + 4) 0, AI 12 (fun _ => 0)]
def thds (a : Nat) : List JE := [.inr (7, [.ref (a + 1), .ref (a + 3), .ref (a + 5), .long (Int64.ofInt 0), .int (ii (-1)), .int (ii (-1))]), rwo (a + 1) 0, AI 64 (fun _ => 0), rwo (a + 3) 0, AI 64 (fun _ => 0), rwo (a + 5) 0, AI 128 (fun _ => 0)]
def cts (a : Nat) : Nat → List JE
  | 0 => []
  | n + 1 => cts a n ++ cont (a + 2 + 4 * n)
def kpf (a : Nat) (i : Int) : Int → Value := fun j => if 0 ≤ j ∧ j < i then .ref (a + 2 + 4 * j.toNat) else .null
def hist (a : Nat) : List JE := .inr (2, [.ref (a + 1), .int (ii 0), .int (ii 0)]) :: AR 6 8 (kpf a 8) :: cts a 8
section CLI
variable {X : JX} {d : Nat} {M : JM} {Q : JR → JM → Prop} {n k w : Nat} {l : List JE} {v0 : Value}
theorem bl_rnew : rnew (bl M n l) w = bl M (n + (2 + w)) (l ++ [rwo (bl M n l).1 0, AI w (fun _ => 0)]) := by rw [bl_r, bl_bl]
theorem R_iz (N : JM) (w : Nat) (z : Int) (hz : z = (w : Int)) (hw : 0 < w ∧ w ≤ 2000) : CC X d 57 [.ref N.1, .int (ii z)] (mnew N 2 (.inr (6, [.null, .int (ii 0)]))) Q = Q (.inl none) (rnew N w) := by
  rw [hz]
  exact R_init hw
theorem i_cont (hd : 1 ≤ d) : CC X d 15 [.ref M.1] (mnew M 3 (.inr (1, [.null, .int (ii 0), .null]))) Q = Q (.inl none) (bl M 49 (cont M.1)) := by
  have hR := fun (d : Nat) (Q : JR → JM → Prop) (N : JM) => R_iz (X := X) (d := d) (Q := Q) N 40 40 rfl (by omega)
  rw [mnew_bl]
  refine CC_eq ?_ Q
  repeat' (first | (simp (disch := first | assumption | exact wd_n | exact wd_i | exact wd_r | exact ct_r | exact ct_i | exact stB_0 | exact stB_1 | exact stB_2 | exact stB_3 | exact stB_4 | exact stB_5 | exact ct_2 | exact b2i_c _ | exact wd_0 | exact wd_f | omega | ((simp (disch := omega) only [uN_s, uN_n, uA_s, uA_n, up_s, up_n]) <;> omega)) only [x15_0, x15_0n, x15_1, x15_4, x15_4n, x15_5, x15_6, x15_9, x15_12, x15_12n, x15_13, x15_14, x15_17, x15_17n, x15_18, x15_21, x15_22, x15_24, x15_27, x15_30, e15, XC_v, XC_s, true_and, and_true, and_self, bq_T, bq_F, yt_s, Bool.false_eq_true, Bool.true_eq_false, bp9_0, bp9_1, bp9_2, bp9_6, bp9_8, bp9_13, bp9_15, bp9_19, bp9_20, bp9_21, bp9_22, bp9_23, bp9_26, bp9_27, bp9_28, bp9_30, bp9_31, bp9_32, bp9_33, bp9_36, bp9_37, bp9_39, bp9_40, bp9_10, bp8_0, bp8_1, bp8_2, bp8_3, bp8_5, bp8_9, bp8_10, bp8_11, bp8_12, bp8_13, bp8_14, bp8_15, bp8_6, bp8_7, bp8_8, bp8_4, bp1_0, bp1_2, bp1_1, bp2_0, bp2_1, bp2_2, bp0_0, bp0_1, bp0_2, bp7_0, bp7_1, bp7_2, bp7_4, bp7_5, bp7_3, List.cons_append, List.nil_append, tN, bl_nR, hR, bl_rnew]) | (refine bq_t (by omega) ?_) | (refine bq_f (by omega) ?_) | fail)
  rfl
theorem i_back (hd : 1 ≤ d) : CC X d 1 [.ref M.1] (mnew M 3 (.inr (0, [.null, .null, .null]))) Q = Q (.inl none) (bl M 1291 (back M.1)) := by
  have hR := fun (d : Nat) (Q : JR → JM → Prop) (N : JM) => R_iz (X := X) (d := d) (Q := Q) N 1231 1231 rfl (by omega)
  have hR2 := fun (d : Nat) (Q : JR → JM → Prop) (N : JM) => R_iz (X := X) (d := d) (Q := Q) N 12 12 rfl (by omega)
  rw [mnew_bl]
  refine CC_eq ?_ Q
  repeat' (first | (simp (disch := first | assumption | exact wd_n | exact wd_i | exact wd_r | exact ct_r | exact ct_i | exact stB_0 | exact stB_1 | exact stB_2 | exact stB_3 | exact stB_4 | exact stB_5 | exact ct_2 | exact b2i_c _ | exact wd_0 | exact wd_f | omega | ((simp (disch := omega) only [uN_s, uN_n, uA_s, uA_n, up_s, up_n]) <;> omega)) only [x1_0, x1_0n, x1_1, x1_4, x1_4n, x1_5, x1_7, x1_9, x1_12, x1_12n, x1_13, x1_16, x1_17, x1_20, x1_23, x1_26, x1_26n, x1_27, x1_30, x1_31, x1_33, x1_36, x1_39, e1, XC_v, XC_s, true_and, and_true, and_self, bq_T, bq_F, yt_s, Bool.false_eq_true, Bool.true_eq_false, bp9_0, bp9_1, bp9_2, bp9_6, bp9_8, bp9_13, bp9_15, bp9_19, bp9_20, bp9_21, bp9_22, bp9_23, bp9_26, bp9_27, bp9_28, bp9_30, bp9_31, bp9_32, bp9_33, bp9_36, bp9_37, bp9_39, bp9_40, bp9_10, bp8_0, bp8_1, bp8_2, bp8_3, bp8_5, bp8_9, bp8_10, bp8_11, bp8_12, bp8_13, bp8_14, bp8_15, bp8_6, bp8_7, bp8_8, bp8_4, bp1_0, bp1_2, bp1_1, bp2_0, bp2_1, bp2_2, bp0_0, bp0_1, bp0_2, bp7_0, bp7_1, bp7_2, bp7_4, bp7_5, bp7_3, List.cons_append, List.nil_append, tN, bl_nL, hR, hR2, bl_rnew]) | (refine bq_t (by omega) ?_) | (refine bq_f (by omega) ?_) | fail)
  rfl
theorem i_thds (hd : 1 ≤ d) : CC X d 70 [.ref M.1] (mnew M 6 (.inr (7, [.null, .null, .null, .long 0, .int (ii 0), .int (ii 0)]))) Q = Q (.inl none) (bl M 268 (thds M.1)) := by
  have hR := fun (d : Nat) (Q : JR → JM → Prop) (N : JM) => R_iz (X := X) (d := d) (Q := Q) N 64 64 rfl (by omega)
  have hR2 := fun (d : Nat) (Q : JR → JM → Prop) (N : JM) => R_iz (X := X) (d := d) (Q := Q) N 128 128 rfl (by omega)
  rw [mnew_bl]
  refine CC_eq ?_ Q
  repeat' (first | (simp (disch := first | assumption | exact wd_n | exact wd_i | exact wd_r | exact ct_r | exact ct_i | exact stB_0 | exact stB_1 | exact stB_2 | exact stB_3 | exact stB_4 | exact stB_5 | exact ct_2 | exact b2i_c _ | exact wd_0 | exact wd_f | omega | ((simp (disch := omega) only [uN_s, uN_n, uA_s, uA_n, up_s, up_n]) <;> omega)) only [x70_0, x70_0n, x70_1, x70_4, x70_4n, x70_5, x70_8, x70_9, x70_11, x70_14, x70_17, x70_17n, x70_18, x70_21, x70_22, x70_24, x70_27, x70_30, x70_30n, x70_31, x70_34, x70_35, x70_38, x70_41, x70_44, x70_44n, x70_45, x70_46, x70_49, x70_49n, x70_50, x70_51, x70_54, x70_54n, x70_55, x70_56, x70_59, e70, XC_v, XC_s, true_and, and_true, and_self, bq_T, bq_F, yt_s, Bool.false_eq_true, Bool.true_eq_false, bp9_0, bp9_1, bp9_2, bp9_6, bp9_8, bp9_13, bp9_15, bp9_19, bp9_20, bp9_21, bp9_22, bp9_23, bp9_26, bp9_27, bp9_28, bp9_30, bp9_31, bp9_32, bp9_33, bp9_36, bp9_37, bp9_39, bp9_40, bp9_10, bp8_0, bp8_1, bp8_2, bp8_3, bp8_5, bp8_9, bp8_10, bp8_11, bp8_12, bp8_13, bp8_14, bp8_15, bp8_6, bp8_7, bp8_8, bp8_4, bp1_0, bp1_2, bp1_1, bp2_0, bp2_1, bp2_2, bp0_0, bp0_1, bp0_2, bp7_0, bp7_1, bp7_2, bp7_4, bp7_5, bp7_3, List.cons_append, List.nil_append, tN, hR, hR2, bl_rnew]) | (refine bq_t (by omega) ?_) | (refine bq_f (by omega) ?_) | fail)
  rfl
theorem cts_l (a n : Nat) : (cts a n).length = 4 * n := by
  induction n with
  | zero => rfl
  | succ n ih =>
    show (cts a n ++ cont (a + 2 + 4 * n)).length = _
    rw [List.length_append, ih]
    show 4 * n + 4 = _
    omega
theorem i_hL (hd : 2 ≤ d) {o : JE} {fs : List Value} (ho : o = .inr (2, [.ref (M.1 + 1), .int (ii 0), .int (ii 0)])) (hq : XX X d 22 (53, [some (.ref M.1), some (.int (ii 8))], [], bl M 403 (o :: AR 6 8 (kpf M.1 8) :: cts M.1 8)) Q) : ∀ (u i : Nat), 8 - i = u → i ≤ 8 → XX X d 22 (25, [some (.ref M.1), some (.int (ii i))], [], bl M (11 + 49 * i) (o :: AR 6 8 (kpf M.1 i) :: cts M.1 i)) Q := by
  have h1 : ∀ (n : Nat) (l : List JE) (mid pc d : Nat) (L : List (Option Value)) (st : List Value) (Q : JR → JM → Prop), yg ((bl M n (o :: l)).2.2 M.1) 2 0 X d mid pc L st (bl M n (o :: l)) Q = XX X d mid (pc, L, .ref (M.1 + 1) :: st, bl M n (o :: l)) Q := by
    intro n l mid pc d L st Q
    rw [bl_0 (by simp), ho]
    exact yg_s rfl
  have h2 : ∀ (n : Nat) (l : List JE) (f : Int → Value) (mid pc d : Nat) (L : List (Option Value)) (st : List Value) (Q : JR → JM → Prop), yn ((bl M n (o :: AR 6 8 f :: l)).2.2 (M.1 + 1)) X d mid pc L st (bl M n (o :: AR 6 8 f :: l)) Q = XX X d mid (pc, L, .int (ii 8) :: st, bl M n (o :: AR 6 8 f :: l)) Q := by
    intro n l f mid pc d L st Q
    rw [bl_at (by simp)]
    rfl
  intro u
  induction u with
  | zero =>
    intro i hu hi
    have e : i = 8 := by omega
    subst e
    rw [x22_25]
    repeat' (first | (simp (disch := first | assumption | exact wd_n | exact wd_i | exact wd_r | exact ct_r | exact ct_i | exact stB_0 | exact stB_1 | exact stB_2 | exact stB_3 | exact stB_4 | exact stB_5 | exact ct_2 | exact b2i_c _ | exact wd_0 | exact wd_f | omega | ((simp (disch := omega) only [uN_s, uN_n, uA_s, uA_n, up_s, up_n]) <;> omega)) only [x22_0, x22_0n, x22_1, x22_4, x22_4n, x22_5, x22_7, x22_10, x22_13, x22_13n, x22_14, x22_15, x22_18, x22_18n, x22_19, x22_20, x22_23, x22_24, x22_26, x22_26n, x22_27, x22_30, x22_31, x22_34, x22_34n, x22_35, x22_38, x22_39, x22_42, x22_43, x22_46, x22_47, x22_50, e22, XC_v, XC_s, true_and, and_true, and_self, bq_T, bq_F, yt_s, Bool.false_eq_true, Bool.true_eq_false, bp9_0, bp9_1, bp9_2, bp9_6, bp9_8, bp9_13, bp9_15, bp9_19, bp9_20, bp9_21, bp9_22, bp9_23, bp9_26, bp9_27, bp9_28, bp9_30, bp9_31, bp9_32, bp9_33, bp9_36, bp9_37, bp9_39, bp9_40, bp9_10, bp8_0, bp8_1, bp8_2, bp8_3, bp8_5, bp8_9, bp8_10, bp8_11, bp8_12, bp8_13, bp8_14, bp8_15, bp8_6, bp8_7, bp8_8, bp8_4, bp1_0, bp1_2, bp1_1, bp2_0, bp2_1, bp2_2, bp0_0, bp0_1, bp0_2, bp7_0, bp7_1, bp7_2, bp7_4, bp7_5, bp7_3, List.cons_append, List.nil_append, tN, h1, h2]) | (refine bq_t (by omega) ?_) | (refine bq_f (by omega) ?_) | fail)
    exact hq
  | succ u ih =>
    intro i hu hi
    have hci := fun (d : Nat) (Q : JR → JM → Prop) (N : JM) (hd : 1 ≤ d) => i_cont (X := X) (d := d) (M := N) (Q := Q) hd
    generalize hN : bl M (11 + 49 * i) (o :: AR 6 8 (kpf M.1 i) :: cts M.1 i) = N
    have hN1 : N.1 = M.1 + 2 + 4 * i := by
      rw [← hN, bl_1, List.length_cons, List.length_cons, cts_l]
      omega
    have g1 : ∀ (mid pc d : Nat) (L : List (Option Value)) (st : List Value) (Q : JR → JM → Prop), yg (N.2.2 M.1) 2 0 X d mid pc L st N Q = XX X d mid (pc, L, .ref (M.1 + 1) :: st, N) Q := by
      rw [← hN]
      exact h1 _ _
    have g2 : ∀ (mid pc d : Nat) (L : List (Option Value)) (st : List Value) (Q : JR → JM → Prop), yn (N.2.2 (M.1 + 1)) X d mid pc L st N Q = XX X d mid (pc, L, .int (ii 8) :: st, N) Q := by
      rw [← hN]
      exact h2 _ _ _
    have g3 : ∀ (mid pc d : Nat) (L : List (Option Value)) (st : List Value) (Q : JR → JM → Prop), yw ((bl N 49 (cont N.1)).2.2 (M.1 + 1)) (M.1 + 1) .aastore (.ref N.1) (ii i) X d mid pc L st (bl N 49 (cont N.1)) Q = XX X d mid (pc, L, st, bl M (11 + 49 * (i + 1 : Nat)) (o :: AR 6 8 (kpf M.1 (i + 1 : Nat)) :: cts M.1 (i + 1))) Q := by
      intro mid pc d L st Q
      have hc : mcl (bl N 49 (cont N.1)) N.1 = some 1 := by
        unfold mcl
        rw [bl_0 (by show 0 < 4; omega)]
        rfl
      have e : astV .aastore 6 (.ref N.1) (mcl (bl N 49 (cont N.1))) = some (.ref N.1) := by
        unfold astV
        exact if_pos (Or.inr ⟨rfl, hc⟩)
      have e3 : bl N 49 (cont N.1) = bl M (11 + 49 * i + 49) (o :: AR 6 8 (kpf M.1 i) :: (cts M.1 i ++ cont N.1)) := by
        rw [← hN, bl_bl]
        rfl
      have e4 : (bl N 49 (cont N.1)).2.2 (M.1 + 1) = some (AR 6 8 (kpf M.1 i)) := by
        rw [e3, bl_at (by simp)]
        rfl
      have e5 : upv (kpf M.1 i) (i : Int) (.ref N.1) = kpf M.1 (i + 1 : Nat) := by
        funext j
        unfold upv kpf
        by_cases hj : j = i
        · rw [if_pos hj, if_pos (by omega), hN1, hj, tN]
        · rw [if_neg hj]
          by_cases hj2 : 0 ≤ j ∧ j < i
          · rw [if_pos hj2, if_pos (by omega)]
          · rw [if_neg hj2, if_neg (by omega)]
      rw [e4]
      unfold yw AR
      rw [xw_s e (ix_ok (by omega)), ii_tn (by omega), vup_fun (by omega) (kpf M.1 i)]
      refine congrArg (fun m => XX X d mid (pc, L, st, m) Q) ?_
      show mset (bl N 49 (cont N.1)) (M.1 + 1) (AR 6 8 (upv (kpf M.1 i) (i : Int) (.ref N.1))) = _
      rw [e5, e3, bl_set (by simp), hN1, show 11 + 49 * i + 49 = 11 + 49 * (i + 1) by omega]
      rfl
    have ih := ih (i + 1) (by omega) (by omega)
    rw [x22_25]
    repeat' (first | (simp (disch := first | assumption | exact wd_n | exact wd_i | exact wd_r | exact ct_r | exact ct_i | exact stB_0 | exact stB_1 | exact stB_2 | exact stB_3 | exact stB_4 | exact stB_5 | exact ct_2 | exact b2i_c _ | exact wd_0 | exact wd_f | omega | ((simp (disch := omega) only [uN_s, uN_n, uA_s, uA_n, up_s, up_n]) <;> omega)) only [x22_0, x22_0n, x22_1, x22_4, x22_4n, x22_5, x22_7, x22_10, x22_13, x22_13n, x22_14, x22_15, x22_18, x22_18n, x22_19, x22_20, x22_23, x22_24, x22_26, x22_26n, x22_27, x22_30, x22_31, x22_34, x22_34n, x22_35, x22_38, x22_39, x22_42, x22_43, x22_46, x22_47, x22_50, e22, XC_v, XC_s, true_and, and_true, and_self, bq_T, bq_F, yt_s, Bool.false_eq_true, Bool.true_eq_false, bp9_0, bp9_1, bp9_2, bp9_6, bp9_8, bp9_13, bp9_15, bp9_19, bp9_20, bp9_21, bp9_22, bp9_23, bp9_26, bp9_27, bp9_28, bp9_30, bp9_31, bp9_32, bp9_33, bp9_36, bp9_37, bp9_39, bp9_40, bp9_10, bp8_0, bp8_1, bp8_2, bp8_3, bp8_5, bp8_9, bp8_10, bp8_11, bp8_12, bp8_13, bp8_14, bp8_15, bp8_6, bp8_7, bp8_8, bp8_4, bp1_0, bp1_2, bp1_1, bp2_0, bp2_1, bp2_2, bp0_0, bp0_1, bp0_2, bp7_0, bp7_1, bp7_2, bp7_4, bp7_5, bp7_3, List.cons_append, List.nil_append, tN, g1, g2, hci, g3]) | (refine bq_t (by omega) ?_) | (refine bq_f (by omega) ?_) | fail)
    exact ih
theorem i_hist (hd : 2 ≤ d) : CC X d 22 [.ref M.1] (mnew M 3 (.inr (2, [.null, .int (ii 0), .int (ii 0)]))) Q = Q (.inl none) (bl M 403 (hist M.1)) := by
  refine CC_eqQ (fun Q hq => ?_) Q
  rw [mnew_bl]
  repeat' (first | (simp (disch := first | assumption | exact wd_n | exact wd_i | exact wd_r | exact ct_r | exact ct_i | exact stB_0 | exact stB_1 | exact stB_2 | exact stB_3 | exact stB_4 | exact stB_5 | exact ct_2 | exact b2i_c _ | exact wd_0 | exact wd_f | omega | ((simp (disch := omega) only [uN_s, uN_n, uA_s, uA_n, up_s, up_n]) <;> omega)) only [x22_0, x22_0n, x22_1, x22_4, x22_4n, x22_5, x22_7, x22_10, x22_13, x22_13n, x22_14, x22_15, x22_18, x22_18n, x22_19, x22_20, x22_23, x22_24, x22_26, x22_26n, x22_27, x22_30, x22_31, x22_34, x22_34n, x22_35, x22_38, x22_39, x22_42, x22_43, x22_46, x22_47, x22_50, x22_53, e22, XC_v, XC_s, true_and, and_true, and_self, bq_T, bq_F, yt_s, Bool.false_eq_true, Bool.true_eq_false, bp9_0, bp9_1, bp9_2, bp9_6, bp9_8, bp9_13, bp9_15, bp9_19, bp9_20, bp9_21, bp9_22, bp9_23, bp9_26, bp9_27, bp9_28, bp9_30, bp9_31, bp9_32, bp9_33, bp9_36, bp9_37, bp9_39, bp9_40, bp9_10, bp8_0, bp8_1, bp8_2, bp8_3, bp8_5, bp8_9, bp8_10, bp8_11, bp8_12, bp8_13, bp8_14, bp8_15, bp8_6, bp8_7, bp8_8, bp8_4, bp1_0, bp1_2, bp1_1, bp2_0, bp2_1, bp2_2, bp0_0, bp0_1, bp0_2, bp7_0, bp7_1, bp7_2, bp7_4, bp7_5, bp7_3, List.cons_append, List.nil_append, tN, bl_nR]) | (refine bq_t (by omega) ?_) | (refine bq_f (by omega) ?_) | fail)
  have h := i_hL (X := X) (M := M) (Q := Q) (fs := []) hd rfl ?_ 8 0 (by omega) (by omega)
  · have e : kpf M.1 (0 : Nat) = fun _ => .null := by
      funext j
      unfold kpf
      rw [if_neg (by omega)]
    rw [e] at h
    exact h
  · repeat' (first | (simp (disch := first | assumption | exact wd_n | exact wd_i | exact wd_r | exact ct_r | exact ct_i | exact stB_0 | exact stB_1 | exact stB_2 | exact stB_3 | exact stB_4 | exact stB_5 | exact ct_2 | exact b2i_c _ | exact wd_0 | exact wd_f | omega | ((simp (disch := omega) only [uN_s, uN_n, uA_s, uA_n, up_s, up_n]) <;> omega)) only [x22_0, x22_0n, x22_1, x22_4, x22_4n, x22_5, x22_7, x22_10, x22_13, x22_13n, x22_14, x22_15, x22_18, x22_18n, x22_19, x22_20, x22_23, x22_24, x22_26, x22_26n, x22_27, x22_30, x22_31, x22_34, x22_34n, x22_35, x22_38, x22_39, x22_42, x22_43, x22_46, x22_47, x22_50, x22_53, e22, XC_v, XC_s, true_and, and_true, and_self, bq_T, bq_F, yt_s, Bool.false_eq_true, Bool.true_eq_false, bp9_0, bp9_1, bp9_2, bp9_6, bp9_8, bp9_13, bp9_15, bp9_19, bp9_20, bp9_21, bp9_22, bp9_23, bp9_26, bp9_27, bp9_28, bp9_30, bp9_31, bp9_32, bp9_33, bp9_36, bp9_37, bp9_39, bp9_40, bp9_10, bp8_0, bp8_1, bp8_2, bp8_3, bp8_5, bp8_9, bp8_10, bp8_11, bp8_12, bp8_13, bp8_14, bp8_15, bp8_6, bp8_7, bp8_8, bp8_4, bp1_0, bp1_2, bp1_1, bp2_0, bp2_1, bp2_2, bp0_0, bp0_1, bp0_2, bp7_0, bp7_1, bp7_2, bp7_4, bp7_5, bp7_3, List.cons_append, List.nil_append, tN]) | (refine bq_t (by omega) ?_) | (refine bq_f (by omega) ?_) | fail)
    exact hq
def CI0 : CS := (fun k => if k = 71 ∨ k = 72 ∨ k = 73 ∨ k = 74 ∨ k = 75 then -1 else 0, fun _ _ => 0, fun _ _ => .null, fun _ => 0, Int64.ofInt 0)
theorem bl_cm {C : CS} : bl M n (cel M.1 C) = cm (M.1 + 70, M.2.1 + n, M.2.2) M.1 C := by
  unfold bl cm
  have hl : (cel M.1 C).length = 70 := rfl
  simp only [hl]
theorem i_cls (hd : 4 ≤ d) : CC X d 78 [.ref M.1] (mnew M 16 (.inr (8, [.null, .null, .null, .null, .int (ii 0), .null, .int (ii 0), .int (ii 0), .int (ii 0), .null, .null, .null, .null, .null, .null, .null]))) Q = Q (.inl none) (cm (M.1 + 70, M.2.1 + 2408, M.2.2) M.1 CI0) := by
  have h30 := fun (d : Nat) (Q : JR → JM → Prop) (N : JM) => R_iz (X := X) (d := d) (Q := Q) N 30 30 rfl (by omega)
  have h40 := fun (d : Nat) (Q : JR → JM → Prop) (N : JM) => R_iz (X := X) (d := d) (Q := Q) N 40 40 rfl (by omega)
  have h41 := fun (d : Nat) (Q : JR → JM → Prop) (N : JM) => R_iz (X := X) (d := d) (Q := Q) N 41 41 rfl (by omega)
  have h4 := fun (d : Nat) (Q : JR → JM → Prop) (N : JM) => R_iz (X := X) (d := d) (Q := Q) N 4 4 rfl (by omega)
  have h122 := fun (d : Nat) (Q : JR → JM → Prop) (N : JM) => R_iz (X := X) (d := d) (Q := Q) N 122 122 rfl (by omega)
  have hci := fun (d : Nat) (Q : JR → JM → Prop) (N : JM) (hd : 1 ≤ d) => i_cont (X := X) (d := d) (M := N) (Q := Q) hd
  have hhi := fun (d : Nat) (Q : JR → JM → Prop) (N : JM) (hd : 2 ≤ d) => i_hist (X := X) (d := d) (M := N) (Q := Q) hd
  have hba := fun (d : Nat) (Q : JR → JM → Prop) (N : JM) (hd : 1 ≤ d) => i_back (X := X) (d := d) (M := N) (Q := Q) hd
  have hth := fun (d : Nat) (Q : JR → JM → Prop) (N : JM) (hd : 1 ≤ d) => i_thds (X := X) (d := d) (M := N) (Q := Q) hd
  rw [← bl_cm]
  refine CC_eqQ (fun Q hq => ?_) Q
  rw [mnew_bl]
  repeat' (first | (simp (disch := first | assumption | exact wd_n | exact wd_i | exact wd_r | exact ct_r | exact ct_i | exact stB_0 | exact stB_1 | exact stB_2 | exact stB_3 | exact stB_4 | exact stB_5 | exact ct_2 | exact b2i_c _ | exact wd_0 | exact wd_f | omega | ((simp (disch := omega) only [uN_s, uN_n, uA_s, uA_n, up_s, up_n]) <;> omega)) only [x78_0, x78_0n, x78_1, x78_4, x78_4n, x78_5, x78_8, x78_9, x78_11, x78_14, x78_17, x78_17n, x78_18, x78_21, x78_22, x78_24, x78_27, x78_30, x78_30n, x78_31, x78_34, x78_35, x78_38, x78_41, x78_41n, x78_42, x78_45, x78_46, x78_49, x78_52, x78_52n, x78_53, x78_54, x78_57, x78_57n, x78_58, x78_61, x78_62, x78_65, x78_68, x78_68n, x78_69, x78_70, x78_73, x78_73n, x78_74, x78_75, x78_78, x78_78n, x78_79, x78_80, x78_83, x78_83n, x78_84, x78_87, x78_88, x78_91, x78_94, x78_94n, x78_95, x78_98, x78_99, x78_102, x78_105, x78_105n, x78_106, x78_109, x78_110, x78_112, x78_115, x78_118, x78_118n, x78_119, x78_122, x78_123, x78_125, x78_128, x78_131, x78_131n, x78_132, x78_135, x78_136, x78_137, x78_140, x78_143, x78_143n, x78_144, x78_147, x78_148, x78_150, x78_153, x78_156, x78_156n, x78_157, x78_160, x78_161, x78_163, x78_166, x78_169, e78, XC_v, XC_s, true_and, and_true, and_self, bq_T, bq_F, yt_s, Bool.false_eq_true, Bool.true_eq_false, bp9_0, bp9_1, bp9_2, bp9_6, bp9_8, bp9_13, bp9_15, bp9_19, bp9_20, bp9_21, bp9_22, bp9_23, bp9_26, bp9_27, bp9_28, bp9_30, bp9_31, bp9_32, bp9_33, bp9_36, bp9_37, bp9_39, bp9_40, bp9_10, bp8_0, bp8_1, bp8_2, bp8_3, bp8_5, bp8_9, bp8_10, bp8_11, bp8_12, bp8_13, bp8_14, bp8_15, bp8_6, bp8_7, bp8_8, bp8_4, bp1_0, bp1_2, bp1_1, bp2_0, bp2_1, bp2_2, bp0_0, bp0_1, bp0_2, bp7_0, bp7_1, bp7_2, bp7_4, bp7_5, bp7_3, List.cons_append, List.nil_append, tN, h30, h40, h41, h4, h122, hci, hhi, hba, hth, bl_rnew, bl_bl]) | (refine bq_t (by omega) ?_) | (refine bq_f (by omega) ?_) | fail)
  exact hq
end CLI
