/-! the class's rows, anywhere in the memory -/
def rwo (r : Nat) (s : Int) : JE := .inr (6, [.ref (r + 1), .int (ii s)])
/-- a row of room n lies at r: its size, its cells -/
def RW (M : JM) (r n : Nat) (s : Int) (c : Int → Int) : Prop := M.2.2 r = some (.inr (6, [.ref (r + 1), .int (ii s)])) ∧ M.2.2 (r + 1) = some (AI n c) ∧ n ≤ 2000 ∧ 0 ≤ s ∧ s ≤ n
def rset (M : JM) (r n : Nat) (s : Int) (c : Int → Int) : JM := mset (mset M (r + 1) (AI n c)) r (rwo r s)
section RWX
variable {X : JX} {d mid pc a b : Nat} {L : List (Option Value)} {st : List Value} {M : JM} {Q : JR → JM → Prop} {v0 v1 : Value} {z x : Int} {n : Nat} {c : Int → Int} {e : JE}
theorem rg_0 : yg (some (.inr (6, [v0, v1]))) 6 0 X d mid pc L st M Q = XX X d mid (pc, L, v0 :: st, M) Q := yg_s rfl
theorem rg_1 : yg (some (.inr (6, [v0, v1]))) 6 1 X d mid pc L st M Q = XX X d mid (pc, L, v1 :: st, M) Q := yg_s rfl
theorem rp_1 : yp (some (.inr (6, [v0, v1]))) a 6 1 (.int (ii z)) X d mid pc L st M Q = XX X d mid (pc, L, st, mset M a (.inr (6, [v0, .int (ii z)]))) Q := yp_s (by show 1 < 2; omega) rfl
theorem rp_0 : yp (some (.inr (6, [v0, v1]))) a 6 0 (.ref b) X d mid pc L st M Q = XX X d mid (pc, L, st, mset M a (.inr (6, [.ref b, v1]))) Q := yp_s (by show 0 < 2; omega) rfl
theorem mset_id (h : M.2.2 a = some e) : mset M a e = M := by
  obtain ⟨k, l, f⟩ := M
  unfold mset
  simp only at h ⊢
  congr 2
  funext j
  by_cases hj : j = a
  · rw [hj, va_up_self, h]
  · rw [va_up_ne _ _ hj]
theorem mset_mset {e' : JE} : mset (mset M a e) a e' = mset M a e' := by
  unfold mset
  simp only
  congr 2
  funext j
  by_cases hj : j = a
  · rw [hj, va_up_self, va_up_self]
  · rw [va_up_ne _ _ hj, va_up_ne _ _ hj, va_up_ne _ _ hj]
theorem mset_comm {e' : JE} (h : a ≠ b) : mset (mset M a e) b e' = mset (mset M b e') a e := by
  unfold mset
  simp only
  congr 2
  funext j
  by_cases h1 : j = a
  · subst h1
    rw [va_up_ne _ _ h, va_up_self, va_up_self]
  · by_cases h2 : j = b
    · subst h2
      rw [va_up_self, va_up_ne _ _ h1, va_up_self]
    · rw [va_up_ne _ _ h2, va_up_ne _ _ h1, va_up_ne _ _ h1, va_up_ne _ _ h2]
theorem mset_cl {k : Nat} {fs : List Value} : mcl (mset M a (.inr (k, fs))) a = some k := by
  unfold mcl
  rw [mset_eq]
theorem mcl_ne {k : Nat} (h : b ≠ a) (hc : mcl M b = some k) : mcl (mset M a e) b = some k := by
  unfold mcl at hc ⊢
  rw [mset_ne h]
  exact hc
end RWX
section RWS
variable {X : JX} {d r n : Nat} {M : JM} {Q : JR → JM → Prop} {s i v : Int} {c : Int → Int}
theorem RW.cl (h : RW M r n s c) : mcl M r = some 6 := by
  unfold mcl
  rw [h.1]
theorem RW_rset {s' : Int} {c' : Int → Int} (h : RW M r n s c) (hs : 0 ≤ s' ∧ s' ≤ n) : RW (rset M r n s' c') r n s' c' := by
  refine ⟨mset_eq, ?_, h.2.2.1, hs⟩
  unfold rset
  rw [mset_ne (by omega), mset_eq]
theorem RW_fr {r' n' : Nat} {s' : Int} {c' : Int → Int} {a : Nat} {e : JE} (h : RW M r n s c) (h1 : a ≠ r) (h2 : a ≠ r + 1) : RW (mset M a e) r n s c := by
  obtain ⟨a1, a2, a3⟩ := h
  exact ⟨by rw [mset_ne (by omega)]; exact a1, by rw [mset_ne (by omega)]; exact a2, a3⟩
theorem RW_o {r' n' : Nat} {s' : Int} {c' : Int → Int} (h : RW M r n s c) (h1 : r' ≠ r) (h2 : r' ≠ r + 1) (h3 : r' + 1 ≠ r) : RW (rset M r' n' s' c') r n s c := RW_fr (r' := 0) (n' := 0) (s' := 0) (c' := c) (RW_fr (r' := 0) (n' := 0) (s' := 0) (c' := c) h h3 (by omega)) h1 h2
theorem rset_rset {s' s2 : Int} {c' c2 : Int → Int} : rset (rset M r n s' c') r n s2 c2 = rset M r n s2 c2 := by
  unfold rset
  rw [mset_comm (show r + 1 ≠ r by omega), mset_mset, mset_comm (show r + 1 ≠ r by omega), mset_mset, mset_comm (show r + 1 ≠ r by omega)]
theorem rset_c {c' : Int → Int} (h : RW M r n s c) : mset M (r + 1) (AI n c') = rset M r n s c' := by
  unfold rset
  refine (mset_id ?_).symm
  rw [mset_ne (by omega)]
  exact h.1
theorem rset_s {s' : Int} (h : RW M r n s c) : mset M r (.inr (6, [.ref (r + 1), .int (ii s')])) = rset M r n s' c := by
  unfold rset
  rw [mset_id h.2.1]
  rfl
theorem rset_id (h : RW M r n s c) : rset M r n s c = M := by
  unfold rset
  rw [mset_id h.2.1]
  exact mset_id h.1
theorem R_size (h : RW M r n s c) : CC X d 58 [.ref r] M Q = Q (rt s) M := by
  obtain ⟨h1, h2, h3, h4⟩ := h
  unfold rt
  refine CC_eq ?_ Q
  repeat' (first | (simp (disch := first | assumption | exact wd_n | exact wd_i | exact wd_r | exact ct_r | exact ct_i | exact stB_0 | exact stB_1 | exact stB_2 | exact stB_3 | exact stB_4 | exact stB_5 | exact ct_2 | exact b2i_c _ | exact wd_0 | exact wd_f | omega) only [x58_0, x58_0n, x58_1, x58_4, e58, XC_v, XC_s, true_and, and_true, and_self, bq_T, bq_F, yt_s, Bool.false_eq_true, Bool.true_eq_false, rg_0, rg_1, rp_1, mset_1, mset_21, mset_eq, mset_ne, yn_I, ya_I, yw_I, mset_cl, h1, h2]) | (refine bq_t (by omega) ?_) | (refine bq_f (by omega) ?_) | fail)
theorem R_isFull (h : RW M r n s c) : CC X d 59 [.ref r] M Q = Q (rt (b2i (decide ((n : Int) ≤ s)))) M := by
  obtain ⟨h1, h2, h3, h4⟩ := h
  unfold rt
  refine CC_eq ?_ Q
  by_cases hc : (n : Int) ≤ s
  · rw [decide_eq_true hc]
    repeat' (first | (simp (disch := first | assumption | exact wd_n | exact wd_i | exact wd_r | exact ct_r | exact ct_i | exact stB_0 | exact stB_1 | exact stB_2 | exact stB_3 | exact stB_4 | exact stB_5 | exact ct_2 | exact b2i_c _ | exact wd_0 | exact wd_f | omega) only [x59_0, x59_0n, x59_1, x59_4, x59_4n, x59_5, x59_8, x59_9, x59_12, x59_13, x59_16, x59_17, e59, XC_v, XC_s, true_and, and_true, and_self, bq_T, bq_F, yt_s, Bool.false_eq_true, Bool.true_eq_false, rg_0, rg_1, rp_1, mset_1, mset_21, mset_eq, mset_ne, yn_I, ya_I, yw_I, mset_cl, h1, h2]) | (refine bq_t (by omega) ?_) | (refine bq_f (by omega) ?_) | fail)
    rfl
  · rw [decide_eq_false hc]
    repeat' (first | (simp (disch := first | assumption | exact wd_n | exact wd_i | exact wd_r | exact ct_r | exact ct_i | exact stB_0 | exact stB_1 | exact stB_2 | exact stB_3 | exact stB_4 | exact stB_5 | exact ct_2 | exact b2i_c _ | exact wd_0 | exact wd_f | omega) only [x59_0, x59_0n, x59_1, x59_4, x59_4n, x59_5, x59_8, x59_9, x59_12, x59_13, x59_16, x59_17, e59, XC_v, XC_s, true_and, and_true, and_self, bq_T, bq_F, yt_s, Bool.false_eq_true, Bool.true_eq_false, rg_0, rg_1, rp_1, mset_1, mset_21, mset_eq, mset_ne, yn_I, ya_I, yw_I, mset_cl, h1, h2]) | (refine bq_t (by omega) ?_) | (refine bq_f (by omega) ?_) | fail)
    rfl
theorem R_holds (h : RW M r n s c) (hi : I32 i) : CC X d 60 [.ref r, .int (ii i)] M Q = Q (rt (b2i (decide (0 ≤ i ∧ i < s)))) M := by
  obtain ⟨h1, h2, h3, h4⟩ := h
  unfold I32 at hi
  unfold rt
  refine CC_eq ?_ Q
  by_cases hc : 0 ≤ i ∧ i < s
  · rw [decide_eq_true hc]
    repeat' (first | (simp (disch := first | assumption | exact wd_n | exact wd_i | exact wd_r | exact ct_r | exact ct_i | exact stB_0 | exact stB_1 | exact stB_2 | exact stB_3 | exact stB_4 | exact stB_5 | exact ct_2 | exact b2i_c _ | exact wd_0 | exact wd_f | omega) only [x60_0, x60_1, x60_4, x60_5, x60_5n, x60_6, x60_9, x60_12, x60_13, x60_16, x60_17, e60, XC_v, XC_s, true_and, and_true, and_self, bq_T, bq_F, yt_s, Bool.false_eq_true, Bool.true_eq_false, rg_0, rg_1, rp_1, mset_1, mset_21, mset_eq, mset_ne, yn_I, ya_I, yw_I, mset_cl, h1, h2]) | (refine bq_t (by omega) ?_) | (refine bq_f (by omega) ?_) | fail)
    rfl
  · rw [decide_eq_false hc]
    repeat' (first | (simp (disch := first | assumption | exact wd_n | exact wd_i | exact wd_r | exact ct_r | exact ct_i | exact stB_0 | exact stB_1 | exact stB_2 | exact stB_3 | exact stB_4 | exact stB_5 | exact ct_2 | exact b2i_c _ | exact wd_0 | exact wd_f | omega) only [x60_0, x60_1, x60_4, x60_5, x60_5n, x60_6, x60_9, x60_12, x60_13, x60_16, x60_17, e60, XC_v, XC_s, true_and, and_true, and_self, bq_T, bq_F, yt_s, Bool.false_eq_true, Bool.true_eq_false, rg_0, rg_1, rp_1, mset_1, mset_21, mset_eq, mset_ne, yn_I, ya_I, yw_I, mset_cl, h1, h2]) | (refine bq_t (by omega) ?_) | (refine bq_f (by omega) ?_) | (refine bq_i (fun h => ?_) (fun h => ?_)) | fail)
    all_goals first | rfl | omega
theorem R_at (h : RW M r n s c) (hi : I32 i) : CC X d 61 [.ref r, .int (ii i)] M Q = Q (rt (if 0 ≤ i ∧ i < s then c i else 0)) M := by
  obtain ⟨h1, h2, h3, h4⟩ := h
  unfold I32 at hi
  unfold rt
  refine CC_eq ?_ Q
  by_cases hc : 0 ≤ i ∧ i < s
  · rw [if_pos hc]
    repeat' (first | (simp (disch := first | assumption | exact wd_n | exact wd_i | exact wd_r | exact ct_r | exact ct_i | exact stB_0 | exact stB_1 | exact stB_2 | exact stB_3 | exact stB_4 | exact stB_5 | exact ct_2 | exact b2i_c _ | exact wd_0 | exact wd_f | omega) only [x61_0, x61_1, x61_4, x61_5, x61_5n, x61_6, x61_9, x61_12, x61_13, x61_13n, x61_14, x61_17, x61_18, x61_21, x61_22, x61_23, x61_23n, x61_24, x61_27, x61_28, x61_29, e61, XC_v, XC_s, true_and, and_true, and_self, bq_T, bq_F, yt_s, Bool.false_eq_true, Bool.true_eq_false, rg_0, rg_1, rp_1, mset_1, mset_21, mset_eq, mset_ne, yn_I, ya_I, yw_I, mset_cl, h1, h2]) | (refine bq_t (by omega) ?_) | (refine bq_f (by omega) ?_) | fail)
  · rw [if_neg hc]
    repeat' (first | (simp (disch := first | assumption | exact wd_n | exact wd_i | exact wd_r | exact ct_r | exact ct_i | exact stB_0 | exact stB_1 | exact stB_2 | exact stB_3 | exact stB_4 | exact stB_5 | exact ct_2 | exact b2i_c _ | exact wd_0 | exact wd_f | omega) only [x61_0, x61_1, x61_4, x61_5, x61_5n, x61_6, x61_9, x61_12, x61_13, x61_13n, x61_14, x61_17, x61_18, x61_21, x61_22, x61_23, x61_23n, x61_24, x61_27, x61_28, x61_29, e61, XC_v, XC_s, true_and, and_true, and_self, bq_T, bq_F, yt_s, Bool.false_eq_true, Bool.true_eq_false, rg_0, rg_1, rp_1, mset_1, mset_21, mset_eq, mset_ne, yn_I, ya_I, yw_I, mset_cl, h1, h2]) | (refine bq_t (by omega) ?_) | (refine bq_f (by omega) ?_) | (refine bq_i (fun h => ?_) (fun h => ?_)) | fail)
    all_goals omega
theorem R_put (h : RW M r n s c) (hi : 0 ≤ i ∧ i < s) : CC X d 62 [.ref r, .int (ii i), .int (ii v)] M Q = Q (.inl none) (rset M r n s (up c i v)) := by
  have e := rset_c (c' := up c i v) h
  obtain ⟨h1, h2, h3, h4⟩ := h
  refine CC_eq ?_ Q
  repeat' (first | (simp (disch := first | assumption | exact wd_n | exact wd_i | exact wd_r | exact ct_r | exact ct_i | exact stB_0 | exact stB_1 | exact stB_2 | exact stB_3 | exact stB_4 | exact stB_5 | exact ct_2 | exact b2i_c _ | exact wd_0 | exact wd_f | omega) only [x62_0, x62_1, x62_4, x62_5, x62_5n, x62_6, x62_9, x62_12, x62_13, x62_13n, x62_14, x62_17, x62_18, x62_21, x62_21n, x62_22, x62_25, x62_26, x62_27, x62_28, e62, XC_v, XC_s, true_and, and_true, and_self, bq_T, bq_F, yt_s, Bool.false_eq_true, Bool.true_eq_false, rg_0, rg_1, rp_1, mset_1, mset_21, mset_eq, mset_ne, yn_I, ya_I, yw_I, mset_cl, h1, h2]) | (refine bq_t (by omega) ?_) | (refine bq_f (by omega) ?_) | fail)
  exact e
theorem R_add (h : RW M r n s c) (hs : s < n) : CC X d 63 [.ref r, .int (ii v)] M Q = Q (.inl none) (rset M r n (s + 1) (up c s v)) := by
  obtain ⟨h1, h2, h3, h4⟩ := h
  refine CC_eq ?_ Q
  repeat' (first | (simp (disch := first | assumption | exact wd_n | exact wd_i | exact wd_r | exact ct_r | exact ct_i | exact stB_0 | exact stB_1 | exact stB_2 | exact stB_3 | exact stB_4 | exact stB_5 | exact ct_2 | exact b2i_c _ | exact wd_0 | exact wd_f | omega) only [x63_0, x63_0n, x63_1, x63_4, x63_5, x63_6, x63_9, x63_10, x63_10n, x63_11, x63_14, x63_15, x63_18, x63_18n, x63_19, x63_22, x63_23, x63_24, x63_25, x63_25n, x63_26, x63_27, x63_28, x63_29, x63_32, e63, XC_v, XC_s, true_and, and_true, and_self, bq_T, bq_F, yt_s, Bool.false_eq_true, Bool.true_eq_false, rg_0, rg_1, rp_1, mset_1, mset_21, mset_eq, mset_ne, yn_I, ya_I, yw_I, mset_cl, h1, h2]) | (refine bq_t (by omega) ?_) | (refine bq_f (by omega) ?_) | fail)
  rfl
theorem R_removeLast (hd : 1 ≤ d) (h : RW M r n s c) (hs : 0 < s) : CC X d 64 [.ref r] M Q = Q (rt (c (s - 1))) (rset M r n (s - 1) c) := by
  have e := rset_s (s' := s - 1) h
  have ha := fun (d : Nat) (Q : JR → JM → Prop) => R_at (X := X) (d := d) (Q := Q) h (i := s - 1) (by obtain ⟨h1, h2, h3, h4⟩ := h; unfold I32; omega)
  have hcl := h.cl
  rw [if_pos (by omega)] at ha
  obtain ⟨h1, h2, h3, h4⟩ := h
  unfold rt at ha ⊢
  refine CC_eq ?_ Q
  repeat' (first | (simp (disch := first | assumption | exact wd_n | exact wd_i | exact wd_r | exact ct_r | exact ct_i | exact stB_0 | exact stB_1 | exact stB_2 | exact stB_3 | exact stB_4 | exact stB_5 | exact ct_2 | exact b2i_c _ | exact wd_0 | exact wd_f | omega) only [x64_0, x64_0n, x64_1, x64_4, x64_7, x64_8, x64_9, x64_9n, x64_10, x64_10n, x64_11, x64_14, x64_15, x64_16, x64_19, x64_20, x64_20n, x64_21, x64_22, x64_25, x64_26, x64_27, x64_30, x64_31, e64, XC_v, XC_s, true_and, and_true, and_self, bq_T, bq_F, yt_s, Bool.false_eq_true, Bool.true_eq_false, rg_0, rg_1, rp_1, mset_1, mset_21, mset_eq, mset_ne, yn_I, ya_I, yw_I, mset_cl, h1, h2, ha, hcl]) | (refine bq_t (by omega) ?_) | (refine bq_f (by omega) ?_) | fail)
  exact e
theorem R_clear (h : RW M r n s c) : CC X d 67 [.ref r] M Q = Q (.inl none) (rset M r n 0 c) := by
  have e := rset_s (s' := 0) h
  obtain ⟨h1, h2, h3, h4⟩ := h
  refine CC_eq ?_ Q
  repeat' (first | (simp (disch := first | assumption | exact wd_n | exact wd_i | exact wd_r | exact ct_r | exact ct_i | exact stB_0 | exact stB_1 | exact stB_2 | exact stB_3 | exact stB_4 | exact stB_5 | exact ct_2 | exact b2i_c _ | exact wd_0 | exact wd_f | omega) only [x67_0, x67_0n, x67_1, x67_2, x67_5, e67, XC_v, XC_s, true_and, and_true, and_self, bq_T, bq_F, yt_s, Bool.false_eq_true, Bool.true_eq_false, rg_0, rg_1, rp_1, mset_1, mset_21, mset_eq, mset_ne, yn_I, ya_I, yw_I, mset_cl, h1, h2]) | (refine bq_t (by omega) ?_) | (refine bq_f (by omega) ?_) | fail)
  exact e
end RWS
