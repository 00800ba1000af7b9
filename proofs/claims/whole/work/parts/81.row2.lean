/-! the class's rows: insert, cut, parts, copies, new rows -/
def ins (c : Int → Int) (s i v : Int) : Int → Int := fun j => if j = i then v else if i < j ∧ j ≤ s then c (j - 1) else c j
def ctf (c : Int → Int) (s a b : Int) : Int → Int := fun j => if a ≤ j ∧ j < s - (b - a) then c (j + (b - a)) else c j
def apn (c : Int → Int) (s : Int) (c2 : Int → Int) (a l : Int) : Int → Int := fun j => if s ≤ j ∧ j < s + l then c2 (a + (j - s)) else c j
def rnew (M : JM) (n : Nat) : JM := mnew (mnew M 2 (rwo M.1 0)) n (AI n (fun _ => 0))
section RWT
variable {X : JX} {d r n r2 n2 : Nat} {M : JM} {Q : JR → JM → Prop} {s i v a b s2 : Int} {c c2 : Int → Int}
theorem R_insL (hd : 2 ≤ d) (hi : 0 ≤ i) : ∀ (f : Nat) (M1 : JM) (c1 : Int → Int) (k : Int), RW M1 r n (s + 1) c1 → i ≤ k → k ≤ s → k - i = f → (∀ c', (∀ j, i < j → j ≤ k → c' j = c1 (j - 1)) → (∀ j, j ≤ i ∨ k < j → c' j = c1 j) → XX X d 65 (55, [some (.ref r), some (.int (ii i)), some (.int (ii v)), some (.int (ii i))], [], rset M1 r n (s + 1) c') Q) → XX X d 65 (32, [some (.ref r), some (.int (ii i)), some (.int (ii v)), some (.int (ii k))], [], M1) Q := by
  intro f
  induction f with
  | zero =>
    intro M1 c1 k h h0 h1 hf hq
    obtain ⟨g1, g2, g3, g4⟩ := id h
    have hk : k = i := by omega
    subst hk
    rw [x65_32]
    repeat' (first | (simp (disch := first | assumption | exact wd_n | exact wd_i | exact wd_r | exact ct_r | exact ct_i | exact stB_0 | exact stB_1 | exact stB_2 | exact stB_3 | exact stB_4 | exact stB_5 | exact ct_2 | exact b2i_c _ | exact wd_0 | exact wd_f | omega) only [x65_0, x65_1, x65_4, x65_5, x65_5n, x65_6, x65_9, x65_12, x65_12n, x65_13, x65_16, x65_16b, x65_19, x65_20, x65_20n, x65_21, x65_22, x65_25, x65_25n, x65_26, x65_29, x65_30, x65_31, x65_33, x65_34, x65_37, x65_37n, x65_38, x65_39, x65_39n, x65_40, x65_41, x65_42, x65_43, x65_46, x65_49, x65_52, x65_56, x65_57, x65_58, x65_61, e65, XC_v, XC_s, true_and, and_true, and_self, bq_T, bq_F, yt_s, Bool.false_eq_true, Bool.true_eq_false, rg_0, rg_1, rp_1, mset_1, mset_21, mset_eq, mset_ne, yn_I, ya_I, yw_I, mset_cl]) | (refine bq_t (by omega) ?_) | (refine bq_f (by omega) ?_) | fail)
    have := hq c1 (fun j a b => by omega) (fun _ _ => rfl)
    rw [rset_id h] at this
    exact this
  | succ f ih =>
    intro M1 c1 k h h0 h1 hf hq
    obtain ⟨g1, g2, g3, g4⟩ := id h
    have hcl := h.cl
    have ha := fun (d : Nat) (Q : JR → JM → Prop) => R_at (X := X) (d := d) (Q := Q) h (i := k - 1) (by unfold I32; omega)
    rw [if_pos (by omega)] at ha
    have hp := fun (d : Nat) (Q : JR → JM → Prop) (v : Int) => R_put (X := X) (d := d) (Q := Q) (v := v) h (i := k) (by omega)
    unfold rt at ha
    rw [x65_32]
    repeat' (first | (simp (disch := first | assumption | exact wd_n | exact wd_i | exact wd_r | exact ct_r | exact ct_i | exact stB_0 | exact stB_1 | exact stB_2 | exact stB_3 | exact stB_4 | exact stB_5 | exact ct_2 | exact b2i_c _ | exact wd_0 | exact wd_f | omega) only [x65_0, x65_1, x65_4, x65_5, x65_5n, x65_6, x65_9, x65_12, x65_12n, x65_13, x65_16, x65_16b, x65_19, x65_20, x65_20n, x65_21, x65_22, x65_25, x65_25n, x65_26, x65_29, x65_30, x65_31, x65_33, x65_34, x65_37, x65_37n, x65_38, x65_39, x65_39n, x65_40, x65_41, x65_42, x65_43, x65_46, x65_49, x65_52, x65_56, x65_57, x65_58, x65_61, e65, XC_v, XC_s, true_and, and_true, and_self, bq_T, bq_F, yt_s, Bool.false_eq_true, Bool.true_eq_false, rg_0, rg_1, rp_1, mset_1, mset_21, mset_eq, mset_ne, yn_I, ya_I, yw_I, mset_cl, ha, hp, hcl]) | (refine bq_t (by omega) ?_) | (refine bq_f (by omega) ?_) | fail)
    rw [show k + -1 = k - 1 by omega]
    refine ih _ _ (k - 1) (RW_rset (c' := up c1 k (c1 (k - 1))) h (by omega)) (by omega) (by omega) (by omega) (fun c' q1 q2 => ?_)
    rw [rset_rset]
    refine hq c' (fun j b1 b2 => ?_) (fun j b1 => ?_)
    · by_cases hj : j = k
      · rw [hj, q2 k (by omega)]
        simp (disch := omega) only [uN_s, uN_n, uA_s, uA_n, up_s, up_n, uN_uN, uA_uA]
      · rw [q1 j b1 (by omega)]
        simp (disch := omega) only [uN_s, uN_n, uA_s, uA_n, up_s, up_n, uN_uN, uA_uA]
    · rw [q2 j (by omega)]
      simp (disch := omega) only [uN_s, uN_n, uA_s, uA_n, up_s, up_n, uN_uN, uA_uA]
theorem R_insert (hd : 4 ≤ d) (h : RW M r n s c) (hi : 0 ≤ i ∧ i ≤ s) (hs : s < n) : CC X d 65 [.ref r, .int (ii i), .int (ii v)] M Q = Q (.inl none) (rset M r n (s + 1) (ins c s i v)) := by
  have hcl := h.cl
  obtain ⟨g1, g2, g3, g4⟩ := id h
  have hf := fun (d : Nat) (Q : JR → JM → Prop) => R_isFull (X := X) (d := d) (Q := Q) h
  rw [decide_eq_false (by omega)] at hf
  have ha := fun (d : Nat) (Q : JR → JM → Prop) => R_add (X := X) (d := d) (Q := Q) (v := v) h hs
  have h1 := RW_rset (s' := s + 1) (c' := up c s v) h (by omega)
  have hcl1 := h1.cl
  obtain ⟨k1, k2, k3, k4⟩ := id h1
  unfold rt at hf
  refine CC_eq ?_ Q
  repeat' (first | (simp (disch := first | assumption | exact wd_n | exact wd_i | exact wd_r | exact ct_r | exact ct_i | exact stB_0 | exact stB_1 | exact stB_2 | exact stB_3 | exact stB_4 | exact stB_5 | exact ct_2 | exact b2i_c _ | exact wd_0 | exact wd_f | omega) only [x65_0, x65_1, x65_4, x65_5, x65_5n, x65_6, x65_9, x65_12, x65_12n, x65_13, x65_16, x65_16b, x65_19, x65_20, x65_20n, x65_21, x65_22, x65_25, x65_25n, x65_26, x65_29, x65_30, x65_31, x65_33, x65_34, x65_37, x65_37n, x65_38, x65_39, x65_39n, x65_40, x65_41, x65_42, x65_43, x65_46, x65_49, x65_52, x65_55, x65_55n, x65_56, x65_57, x65_58, x65_61, e65, XC_v, XC_s, true_and, and_true, and_self, bq_T, bq_F, yt_s, Bool.false_eq_true, Bool.true_eq_false, rg_0, rg_1, rp_1, mset_1, mset_21, mset_eq, mset_ne, yn_I, ya_I, yw_I, mset_cl, g1, g2, hf, ha, hcl, hcl1, k1, Int.add_sub_cancel]) | (refine bq_t (by omega) ?_) | (refine bq_f (by omega) ?_) | fail)
  refine R_insL (by omega) hi.1 (s - i).toNat _ (up c s v) s h1 hi.2 (Int.le_refl _) (by omega) (fun c' q1 q2 => ?_)
  have h2 := RW_rset (s' := s + 1) (c' := c') h1 (by omega)
  rw [rset_rset] at h2
  have hcl2 := h2.cl
  have hp := fun (d : Nat) (Q : JR → JM → Prop) => R_put (X := X) (d := d) (Q := Q) (v := v) h2 (i := i) (by omega)
  repeat' (first | (simp (disch := first | assumption | exact wd_n | exact wd_i | exact wd_r | exact ct_r | exact ct_i | exact stB_0 | exact stB_1 | exact stB_2 | exact stB_3 | exact stB_4 | exact stB_5 | exact ct_2 | exact b2i_c _ | exact wd_0 | exact wd_f | omega) only [x65_0, x65_1, x65_4, x65_5, x65_5n, x65_6, x65_9, x65_12, x65_12n, x65_13, x65_16, x65_16b, x65_19, x65_20, x65_20n, x65_21, x65_22, x65_25, x65_25n, x65_26, x65_29, x65_30, x65_31, x65_33, x65_34, x65_37, x65_37n, x65_38, x65_39, x65_39n, x65_40, x65_41, x65_42, x65_43, x65_46, x65_49, x65_52, x65_55, x65_55n, x65_56, x65_57, x65_58, x65_61, e65, XC_v, XC_s, true_and, and_true, and_self, bq_T, bq_F, yt_s, Bool.false_eq_true, Bool.true_eq_false, rg_0, rg_1, rp_1, mset_1, mset_21, mset_eq, mset_ne, yn_I, ya_I, yw_I, mset_cl, hp, hcl2, rset_rset]) | (refine bq_t (by omega) ?_) | (refine bq_f (by omega) ?_) | fail)
  refine congrArg _ ?_
  funext j
  unfold ins
  by_cases hj : j = i
  · rw [hj, up_s, if_pos rfl]
  · rw [up_n hj, if_neg hj]
    by_cases hj2 : i < j ∧ j ≤ s
    · rw [if_pos hj2, q1 j hj2.1 hj2.2, up_n (by omega)]
    · rw [if_neg hj2]
      by_cases hj3 : j < i
      · rw [q2 j (by omega), up_n (by omega)]
      · rw [q2 j (by omega), up_n (by omega)]
theorem R_cutL (hd : 2 ≤ d) (hab : 0 ≤ a ∧ a ≤ b ∧ b ≤ s) : ∀ (f : Nat) (M1 : JM) (c1 : Int → Int) (k : Int), RW M1 r n s c1 → b ≤ k → k ≤ s → s - k = f → (∀ c', (∀ j, k ≤ j → j < s → c' (a + j - b) = c1 j) → (∀ j, j < a + k - b ∨ a + s - b ≤ j → c' j = c1 j) → XX X d 66 (48, [some (.ref r), some (.int (ii a)), some (.int (ii b)), some (.int (ii s))], [], rset M1 r n s c') Q) → XX X d 66 (20, [some (.ref r), some (.int (ii a)), some (.int (ii b)), some (.int (ii k))], [], M1) Q := by
  intro f
  induction f with
  | zero =>
    intro M1 c1 k h h0 h1 hf hq
    obtain ⟨g1, g2, g3, g4⟩ := id h
    have hk : k = s := by omega
    subst hk
    rw [x66_20]
    repeat' (first | (simp (disch := first | assumption | exact wd_n | exact wd_i | exact wd_r | exact ct_r | exact ct_i | exact stB_0 | exact stB_1 | exact stB_2 | exact stB_3 | exact stB_4 | exact stB_5 | exact ct_2 | exact b2i_c _ | exact wd_0 | exact wd_f | omega) only [x66_0, x66_1, x66_4, x66_5, x66_6, x66_9, x66_10, x66_10n, x66_11, x66_14, x66_17, x66_18, x66_19, x66_21, x66_21n, x66_22, x66_25, x66_28, x66_28n, x66_29, x66_30, x66_31, x66_32, x66_33, x66_34, x66_34n, x66_35, x66_36, x66_39, x66_42, x66_45, x66_49, x66_50, x66_53, x66_54, x66_55, x66_56, x66_57, x66_60, e66, XC_v, XC_s, true_and, and_true, and_self, bq_T, bq_F, yt_s, Bool.false_eq_true, Bool.true_eq_false, rg_0, rg_1, rp_1, mset_1, mset_21, mset_eq, mset_ne, yn_I, ya_I, yw_I, mset_cl, g1]) | (refine bq_t (by omega) ?_) | (refine bq_f (by omega) ?_) | fail)
    have := hq c1 (fun j a b => by omega) (fun _ _ => rfl)
    rw [rset_id h] at this
    exact this
  | succ f ih =>
    intro M1 c1 k h h0 h1 hf hq
    obtain ⟨g1, g2, g3, g4⟩ := id h
    have hcl := h.cl
    have ha := fun (d : Nat) (Q : JR → JM → Prop) => R_at (X := X) (d := d) (Q := Q) h (i := k) (by unfold I32; omega)
    rw [if_pos (by omega)] at ha
    have hp := fun (d : Nat) (Q : JR → JM → Prop) (v : Int) => R_put (X := X) (d := d) (Q := Q) (v := v) h (i := a + k - b) (by omega)
    unfold rt at ha
    rw [x66_20]
    repeat' (first | (simp (disch := first | assumption | exact wd_n | exact wd_i | exact wd_r | exact ct_r | exact ct_i | exact stB_0 | exact stB_1 | exact stB_2 | exact stB_3 | exact stB_4 | exact stB_5 | exact ct_2 | exact b2i_c _ | exact wd_0 | exact wd_f | omega) only [x66_0, x66_1, x66_4, x66_5, x66_6, x66_9, x66_10, x66_10n, x66_11, x66_14, x66_17, x66_18, x66_19, x66_21, x66_21n, x66_22, x66_25, x66_28, x66_28n, x66_29, x66_30, x66_31, x66_32, x66_33, x66_34, x66_34n, x66_35, x66_36, x66_39, x66_42, x66_45, x66_49, x66_50, x66_53, x66_54, x66_55, x66_56, x66_57, x66_60, e66, XC_v, XC_s, true_and, and_true, and_self, bq_T, bq_F, yt_s, Bool.false_eq_true, Bool.true_eq_false, rg_0, rg_1, rp_1, mset_1, mset_21, mset_eq, mset_ne, yn_I, ya_I, yw_I, mset_cl, g1, ha, hp, hcl]) | (refine bq_t (by omega) ?_) | (refine bq_f (by omega) ?_) | fail)
    refine ih _ _ (k + 1) (RW_rset (c' := up c1 (a + k - b) (c1 k)) h (by omega)) (by omega) (by omega) (by omega) (fun c' q1 q2 => ?_)
    rw [rset_rset]
    refine hq c' (fun j b1 b2 => ?_) (fun j b1 => ?_)
    · by_cases hj : j = k
      · rw [hj, q2 _ (by omega)]
        simp (disch := omega) only [uN_s, uN_n, uA_s, uA_n, up_s, up_n, uN_uN, uA_uA]
      · rw [q1 j (by omega) b2]
        simp (disch := omega) only [uN_s, uN_n, uA_s, uA_n, up_s, up_n, uN_uN, uA_uA]
    · rw [q2 j (by omega)]
      simp (disch := omega) only [uN_s, uN_n, uA_s, uA_n, up_s, up_n, uN_uN, uA_uA]
theorem R_cut (hd : 3 ≤ d) (h : RW M r n s c) (hab : 0 ≤ a ∧ a ≤ b ∧ b ≤ s) : CC X d 66 [.ref r, .int (ii a), .int (ii b)] M Q = Q (.inl none) (rset M r n (s - (b - a)) (ctf c s a b)) := by
  obtain ⟨g1, g2, g3, g4⟩ := id h
  refine CC_eq ?_ Q
  repeat' (first | (simp (disch := first | assumption | exact wd_n | exact wd_i | exact wd_r | exact ct_r | exact ct_i | exact stB_0 | exact stB_1 | exact stB_2 | exact stB_3 | exact stB_4 | exact stB_5 | exact ct_2 | exact b2i_c _ | exact wd_0 | exact wd_f | omega) only [x66_0, x66_1, x66_4, x66_5, x66_6, x66_9, x66_10, x66_10n, x66_11, x66_14, x66_17, x66_18, x66_19, x66_21, x66_21n, x66_22, x66_25, x66_28, x66_28n, x66_29, x66_30, x66_31, x66_32, x66_33, x66_34, x66_34n, x66_35, x66_36, x66_39, x66_42, x66_45, x66_48, x66_48n, x66_49, x66_50, x66_53, x66_54, x66_55, x66_56, x66_57, x66_60, e66, XC_v, XC_s, true_and, and_true, and_self, bq_T, bq_F, yt_s, Bool.false_eq_true, Bool.true_eq_false, rg_0, rg_1, rp_1, mset_1, mset_21, mset_eq, mset_ne, yn_I, ya_I, yw_I, mset_cl, g1, g2]) | (refine bq_t (by omega) ?_) | (refine bq_f (by omega) ?_) | fail)
  refine R_cutL (by omega) hab (s - b).toNat M c b h (Int.le_refl _) hab.2.2 (by omega) (fun c' q1 q2 => ?_)
  have h2 := RW_rset (s' := s) (c' := c') h (by omega)
  obtain ⟨k1, k2, k3, k4⟩ := id h2
  have e := rset_s (s' := s - (b - a)) h2
  repeat' (first | (simp (disch := first | assumption | exact wd_n | exact wd_i | exact wd_r | exact ct_r | exact ct_i | exact stB_0 | exact stB_1 | exact stB_2 | exact stB_3 | exact stB_4 | exact stB_5 | exact ct_2 | exact b2i_c _ | exact wd_0 | exact wd_f | omega) only [x66_0, x66_1, x66_4, x66_5, x66_6, x66_9, x66_10, x66_10n, x66_11, x66_14, x66_17, x66_18, x66_19, x66_21, x66_21n, x66_22, x66_25, x66_28, x66_28n, x66_29, x66_30, x66_31, x66_32, x66_33, x66_34, x66_34n, x66_35, x66_36, x66_39, x66_42, x66_45, x66_48, x66_48n, x66_49, x66_50, x66_53, x66_54, x66_55, x66_56, x66_57, x66_60, e66, XC_v, XC_s, true_and, and_true, and_self, bq_T, bq_F, yt_s, Bool.false_eq_true, Bool.true_eq_false, rg_0, rg_1, rp_1, mset_1, mset_21, mset_eq, mset_ne, yn_I, ya_I, yw_I, mset_cl, k1]) | (refine bq_t (by omega) ?_) | (refine bq_f (by omega) ?_) | fail)
  rw [e, rset_rset]
  refine congrArg _ ?_
  funext j
  unfold ctf
  by_cases hj : a ≤ j ∧ j < s - (b - a)
  · rw [if_pos hj]
    have := q1 (j + (b - a)) (by omega) (by omega)
    rw [show a + (j + (b - a)) - b = j by omega] at this
    exact this
  · rw [if_neg hj, q2 j (by omega)]
theorem R_addL (hd : 2 ≤ d) (n1 : r ≠ r2) (n3 : r ≠ r2 + 1) (n4 : r + 1 ≠ r2) (hb : I32 b) {e : Int} (he : e = min b s2) : ∀ (f : Nat) (M1 : JM) (s1 : Int) (c1 : Int → Int) (k : Int), RW M1 r n s1 c1 → RW M1 r2 n2 s2 c2 → 0 ≤ k → e - k = f → s1 + (e - k) ≤ n → XX X d 68 (34, [some (.ref r), some (.ref r2), some (.int (ii a)), some (.int (ii b)), some (.int (ii e))], [], rset M1 r n (s1 + (e - k)) (apn c1 s1 c2 k (e - k))) Q → XX X d 68 (3, [some (.ref r), some (.ref r2), some (.int (ii a)), some (.int (ii b)), some (.int (ii k))], [], M1) Q := by
  unfold I32 at hb
  intro f
  induction f with
  | zero =>
    intro M1 s1 c1 k h h2 h0 hf hn hq
    obtain ⟨g1, g2, g3, g4⟩ := id h2
    have ek : e = k := by omega
    have e0 : rset M1 r n (s1 + (e - k)) (apn c1 s1 c2 k (e - k)) = M1 := by
      rw [show s1 + (e - k) = s1 by omega]
      have : apn c1 s1 c2 k (e - k) = c1 := by
        funext j
        unfold apn
        rw [if_neg (by omega)]
      rw [this]
      exact rset_id h
    rw [e0, ek] at hq
    rw [x68_3]
    by_cases hx : k < b
    · repeat' (first | (simp (disch := first | assumption | exact wd_n | exact wd_i | exact wd_r | exact ct_r | exact ct_i | exact stB_0 | exact stB_1 | exact stB_2 | exact stB_3 | exact stB_4 | exact stB_5 | exact ct_2 | exact b2i_c _ | exact wd_0 | exact wd_f | omega) only [x68_0, x68_1, x68_5, x68_6, x68_9, x68_11, x68_11n, x68_12, x68_15, x68_18, x68_18n, x68_19, x68_19n, x68_20, x68_22, x68_25, x68_28, x68_31, e68, XC_v, XC_s, true_and, and_true, and_self, bq_T, bq_F, yt_s, Bool.false_eq_true, Bool.true_eq_false, rg_0, rg_1, rp_1, mset_1, mset_21, mset_eq, mset_ne, yn_I, ya_I, yw_I, mset_cl, g1]) | (refine bq_t (by omega) ?_) | (refine bq_f (by omega) ?_) | fail)
      exact hq
    · repeat' (first | (simp (disch := first | assumption | exact wd_n | exact wd_i | exact wd_r | exact ct_r | exact ct_i | exact stB_0 | exact stB_1 | exact stB_2 | exact stB_3 | exact stB_4 | exact stB_5 | exact ct_2 | exact b2i_c _ | exact wd_0 | exact wd_f | omega) only [x68_0, x68_1, x68_5, x68_6, x68_9, x68_11, x68_11n, x68_12, x68_15, x68_18, x68_18n, x68_19, x68_19n, x68_20, x68_22, x68_25, x68_28, x68_31, e68, XC_v, XC_s, true_and, and_true, and_self, bq_T, bq_F, yt_s, Bool.false_eq_true, Bool.true_eq_false, rg_0, rg_1, rp_1, mset_1, mset_21, mset_eq, mset_ne, yn_I, ya_I, yw_I, mset_cl, g1]) | (refine bq_t (by omega) ?_) | (refine bq_f (by omega) ?_) | fail)
      exact hq
  | succ f ih =>
    intro M1 s1 c1 k h h2 h0 hf hn hq
    obtain ⟨g1, g2, g3, g4⟩ := id h2
    have g4' := h.2.2.2
    have hcl := h.cl
    have hcl2 := h2.cl
    have ha := fun (d : Nat) (Q : JR → JM → Prop) => R_at (X := X) (d := d) (Q := Q) h2 (i := k) (by unfold I32; omega)
    rw [if_pos (by omega)] at ha
    have hp := fun (d : Nat) (Q : JR → JM → Prop) (v : Int) => R_add (X := X) (d := d) (Q := Q) (v := v) h (by omega)
    unfold rt at ha
    rw [x68_3]
    repeat' (first | (simp (disch := first | assumption | exact wd_n | exact wd_i | exact wd_r | exact ct_r | exact ct_i | exact stB_0 | exact stB_1 | exact stB_2 | exact stB_3 | exact stB_4 | exact stB_5 | exact ct_2 | exact b2i_c _ | exact wd_0 | exact wd_f | omega) only [x68_0, x68_1, x68_5, x68_6, x68_9, x68_11, x68_11n, x68_12, x68_15, x68_18, x68_18n, x68_19, x68_19n, x68_20, x68_22, x68_25, x68_28, x68_31, e68, XC_v, XC_s, true_and, and_true, and_self, bq_T, bq_F, yt_s, Bool.false_eq_true, Bool.true_eq_false, rg_0, rg_1, rp_1, mset_1, mset_21, mset_eq, mset_ne, yn_I, ya_I, yw_I, mset_cl, g1, ha, hp, hcl, hcl2]) | (refine bq_t (by omega) ?_) | (refine bq_f (by omega) ?_) | fail)
    refine ih _ _ _ (k + 1) (RW_rset (s' := s1 + 1) (c' := up c1 s1 (c2 k)) h (by omega)) (RW_o h2 n1 n3 n4) (by omega) (by omega) (by omega) ?_
    rw [rset_rset]
    have e1 : s1 + 1 + (e - (k + 1)) = s1 + (e - k) := by omega
    have e2 : apn (up c1 s1 (c2 k)) (s1 + 1) c2 (k + 1) (e - (k + 1)) = apn c1 s1 c2 k (e - k) := by
      funext j
      unfold apn
      by_cases hj : j = s1
      · rw [hj, if_neg (by omega), if_pos (by omega), up_s, show k + (s1 - s1) = k by omega]
      · by_cases hj2 : s1 + 1 ≤ j ∧ j < s1 + 1 + (e - (k + 1))
        · rw [if_pos hj2, if_pos (by omega), show k + 1 + (j - (s1 + 1)) = k + (j - s1) by omega]
        · rw [if_neg hj2, if_neg (by omega), up_n hj]
    rw [e1, e2]
    exact hq
theorem R_addPart (hd : 3 ≤ d) (h : RW M r n s c) (h2 : RW M r2 n2 s2 c2) (n1 : r ≠ r2) (n3 : r ≠ r2 + 1) (n4 : r + 1 ≠ r2) (ha : 0 ≤ a ∧ a ≤ b ∧ b ≤ s2) (hn : s + (b - a) ≤ n) : CC X d 68 [.ref r, .ref r2, .int (ii a), .int (ii b)] M Q = Q (.inl none) (rset M r n (s + (b - a)) (apn c s c2 a (b - a))) := by
  have g := h2.2.2
  refine CC_eq ?_ Q
  repeat' (first | (simp (disch := first | assumption | exact wd_n | exact wd_i | exact wd_r | exact ct_r | exact ct_i | exact stB_0 | exact stB_1 | exact stB_2 | exact stB_3 | exact stB_4 | exact stB_5 | exact ct_2 | exact b2i_c _ | exact wd_0 | exact wd_f | omega) only [x68_0, x68_1, x68_5, x68_6, x68_9, x68_11, x68_11n, x68_12, x68_15, x68_18, x68_18n, x68_19, x68_19n, x68_20, x68_22, x68_25, x68_28, x68_31, x68_34, e68, XC_v, XC_s, true_and, and_true, and_self, bq_T, bq_F, yt_s, Bool.false_eq_true, Bool.true_eq_false, rg_0, rg_1, rp_1, mset_1, mset_21, mset_eq, mset_ne, yn_I, ya_I, yw_I, mset_cl]) | (refine bq_t (by omega) ?_) | (refine bq_f (by omega) ?_) | fail)
  refine R_addL (by omega) n1 n3 n4 (by unfold I32; omega) (e := b) (by omega) (b - a).toNat M s c a h h2 ha.1 (by omega) hn ?_
  repeat' (first | (simp (disch := first | assumption | exact wd_n | exact wd_i | exact wd_r | exact ct_r | exact ct_i | exact stB_0 | exact stB_1 | exact stB_2 | exact stB_3 | exact stB_4 | exact stB_5 | exact ct_2 | exact b2i_c _ | exact wd_0 | exact wd_f | omega) only [x68_0, x68_1, x68_5, x68_6, x68_9, x68_11, x68_11n, x68_12, x68_15, x68_18, x68_18n, x68_19, x68_19n, x68_20, x68_22, x68_25, x68_28, x68_31, x68_34, e68, XC_v, XC_s, true_and, and_true, and_self, bq_T, bq_F, yt_s, Bool.false_eq_true, Bool.true_eq_false, rg_0, rg_1, rp_1, mset_1, mset_21, mset_eq, mset_ne, yn_I, ya_I, yw_I, mset_cl]) | (refine bq_t (by omega) ?_) | (refine bq_f (by omega) ?_) | fail)
theorem R_copyFrom (hd : 4 ≤ d) (h : RW M r n s c) (h2 : RW M r2 n2 s2 c2) (n1 : r ≠ r2) (n3 : r ≠ r2 + 1) (n4 : r + 1 ≠ r2) (hn : s2 ≤ n) : CC X d 69 [.ref r, .ref r2] M Q = Q (.inl none) (rset M r n s2 (apn c 0 c2 0 s2)) := by
  obtain ⟨g1, g2, g3, g4⟩ := id h2
  have hcl := h.cl
  have hc := fun (d : Nat) (Q : JR → JM → Prop) => R_clear (X := X) (d := d) (Q := Q) h
  have h' := RW_rset (s' := 0) (c' := c) h (by omega)
  have h2' : RW (rset M r n 0 c) r2 n2 s2 c2 := RW_o h2 n1 n3 n4
  have hcl' := h'.cl
  obtain ⟨k1, k2, k3, k4⟩ := id h2'
  have hp := fun (d : Nat) (Q : JR → JM → Prop) (hd : 3 ≤ d) => R_addPart (X := X) (d := d) (Q := Q) (a := 0) (b := s2) hd h' h2' n1 n3 n4 (by omega) (by omega)
  have e : (0 : Int) + (s2 - 0) = s2 := by omega
  have e' : s2 - 0 = s2 := by omega
  rw [e, e'] at hp
  refine CC_eq ?_ Q
  repeat' (first | (simp (disch := first | assumption | exact wd_n | exact wd_i | exact wd_r | exact ct_r | exact ct_i | exact stB_0 | exact stB_1 | exact stB_2 | exact stB_3 | exact stB_4 | exact stB_5 | exact ct_2 | exact b2i_c _ | exact wd_0 | exact wd_f | omega) only [x69_0, x69_0n, x69_1, x69_4, x69_4n, x69_5, x69_5n, x69_6, x69_7, x69_7n, x69_8, x69_11, x69_14, e69, XC_v, XC_s, true_and, and_true, and_self, bq_T, bq_F, yt_s, Bool.false_eq_true, Bool.true_eq_false, rg_0, rg_1, rp_1, mset_1, mset_21, mset_eq, mset_ne, yn_I, ya_I, yw_I, mset_cl, hcl, hc, hcl', k1, hp, rset_rset]) | (refine bq_t (by omega) ?_) | (refine bq_f (by omega) ?_) | fail)
theorem mset_mnew_ne {k a : Nat} {e e' : JE} (h : a ≠ M.1) : mset (mnew M k e) a e' = mnew (mset M a e') k e := by
  unfold mset mnew
  simp only
  congr 2
  funext j
  by_cases h1 : j = a
  · subst h1
    rw [va_up_self, va_up_ne _ _ h, va_up_self]
  · by_cases h2 : j = M.1
    · subst h2
      rw [va_up_ne _ _ h1, va_up_self, va_up_self]
    · rw [va_up_ne _ _ h1, va_up_ne _ _ h2, va_up_ne _ _ h2, va_up_ne _ _ h1]
theorem mset_mnew_eq {k : Nat} {e e' : JE} : mset (mnew M k e) M.1 e' = mnew M k e' := by
  unfold mset mnew
  simp only
  congr 2
  funext j
  by_cases h1 : j = M.1
  · rw [h1, va_up_self, va_up_self]
  · rw [va_up_ne _ _ h1, va_up_ne _ _ h1, va_up_ne _ _ h1]
theorem RW_rnew (hn : n ≤ 2000) : RW (rnew M n) M.1 n 0 (fun _ => 0) := by
  unfold rnew
  refine ⟨?_, ?_, hn, by omega⟩
  · rw [mnew_ne (by rw [mnew_1]; omega), mnew_eq]; rfl
  · exact mnew_eq
theorem rnew_1 : (rnew M n).1 = M.1 + 2 := rfl
theorem rnew_21 : (rnew M n).2.1 = M.2.1 + 2 + n := rfl
theorem rnew_n {k : Nat} (h : k ≠ M.1) (h2 : k ≠ M.1 + 1) : (rnew M n).2.2 k = M.2.2 k := by
  unfold rnew
  rw [mnew_ne (by rw [mnew_1]; exact h2), mnew_ne h]
theorem R_init (hn : 0 < n ∧ n ≤ 2000) : CC X d 57 [.ref M.1, .int (ii n)] (mnew M 2 (.inr (6, [.null, .int (ii 0)]))) Q = Q (.inl none) (rnew M n) := by
  have e1 : (mnew M 2 (.inr (6, [.null, .int (ii 0)]))).2.2 M.1 = some (.inr (6, [.null, .int (ii 0)])) := mnew_eq
  refine CC_eq ?_ Q
  have e2 : (mnew (mnew M 2 (.inr (6, [.null, .int (ii 0)]))) n (AI n fun _ => 0)).2.2 M.1 = some (.inr (6, [.null, .int (ii 0)])) := by rw [mnew_ne (by rw [mnew_1]; omega)]; exact e1
  repeat' (first | (simp (disch := first | assumption | exact wd_n | exact wd_i | exact wd_r | exact ct_r | exact ct_i | exact stB_0 | exact stB_1 | exact stB_2 | exact stB_3 | exact stB_4 | exact stB_5 | exact ct_2 | exact b2i_c _ | exact wd_0 | exact wd_f | omega) only [x57_0, x57_0n, x57_1, x57_4, x57_4n, x57_5, x57_6, x57_9, x57_9n, x57_10, x57_11, x57_14, x57_15, x57_18, x57_19, x57_21, x57_24, e57, XC_v, XC_s, true_and, and_true, and_self, bq_T, bq_F, yt_s, Bool.false_eq_true, Bool.true_eq_false, rg_0, rg_1, rp_1, mset_1, mset_21, mset_eq, mset_ne, yn_I, ya_I, yw_I, mset_cl, e1, mset_mnew_eq, mnew_1, Int.toNat_natCast, e2, rp_0]) | (refine bq_t (by omega) ?_) | (refine bq_f (by omega) ?_) | fail)
  rw [mset_mnew_ne (by rw [mnew_1]; omega), mset_mnew_eq]
  rfl
end RWT
