/-! seeking: what is found from a position on -/
def kW (wh : Bool) (L : Int) : RK := fun p w => if accW wh L p = true then some (p, w) else none
/-- the match at a position -/
def mRt (c tx : Int → Int) (L : Int) (t : RT) (wh : Bool) (start : Int) : RA := mt (lfT c tx L) t start (fun _ => -1) (kW wh L)
def fstS (R : Int → RA) : Nat → Int → Option (Int × Int × (Int → Int))
  | 0, _ => none
  | f + 1, s => match R s with
    | some q => some (s, q)
    | none => fstS R f (s + 1)
/-- the match found from a position on -/
def skR (R : Int → RA) (L fr : Int) : Option (Int × Int × (Int → Int)) := fstS R (L + 1 - fr).toNat fr
theorem opR_pw {S S' : MS} (h : PW S S') (N : Int) : opR S'.2 N = opR S.2 N := by
  funext s
  unfold opR
  rw [h.2 12 (by omega), h.2 13 (by omega), h.2 14 (by omega)]
theorem fitR_pw {S S' : MS} (h : PW S S') (L : Int) : fitR S'.2 L = fitR S.2 L := by
  funext s p
  unfold fitR
  rw [h.2 12 (by omega), h.2 13 (by omega), h.2 14 (by omega), h.2 6 (by omega), h.2 0 (by omega)]
theorem WC_pw {S S' : MS} (h : PW S S') {n L : Int} {N : Nat} (hC : WC S.2 n L N) : WC S'.2 n L N := by
  unfold WC StL at hC ⊢
  rw [opR_pw h, h.2 12 (by omega), h.2 13 (by omega), h.2 14 (by omega), h.2 6 (by omega), h.2 0 (by omega)]
  exact hC
/-- the text's cells -/
def TXok (G : Int → Int) : Prop := 0 ≤ G 125 ∧ G 125 ≤ 40 ∧ (∀ k, 0 ≤ k → k < 40 → 0 ≤ G (126 + k) ∧ G (126 + k) ≤ 65535)
theorem LD_op {S : MS} {n g L : Int} {t : RT} (hD : LD S n g t) (hW : TW n t) : OpR (opR S.2 (tsz t + 1)) (tsz t + 1) := by
  obtain ⟨d1, d2, d3, d4, d5, d6, d7, d8, d9, d10, d11, d12⟩ := hD
  have hLR := LC_LR (N := tsz t + 1) (L := L) t 0 hW d5 (by omega)
  have ho := (LR_op t 0 hW hLR).1
  intro s h0 h1
  by_cases hs : s = tsz t
  · rw [hs, opR_13 d6]
    exact ⟨by omega, by omega, fun q => by omega, fun q => by omega, fun q => by omega, fun q => by omega⟩
  · have := ho s h0 (by omega)
    unfold OpI at this
    refine ⟨by omega, by omega, fun q => by omega, fun q => by omega, fun q => by omega, fun q => by omega⟩
theorem LD_WC {S : MS} {n g : Int} {t : RT} (hn : 0 ≤ n ∧ n ≤ 30) (hD : LD S n g t) (hW : TW n t) (hx : TXok (S.2 0)) (hc : ∀ k, 0 ≤ k → k < n → 0 ≤ S.2 6 k ∧ S.2 6 k ≤ 65535) : WC S.2 n (S.2 0 125) (tsz t + 1).toNat := by
  have ho := LD_op (L := 0) hD hW
  obtain ⟨d1, d2, d3, d4, d5, d6, d7, d8, d9, d10, d11, d12⟩ := hD
  have e : ((tsz t + 1).toNat : Int) = tsz t + 1 := by omega
  unfold WC
  rw [e]
  refine ⟨hn, by omega, ⟨hx.1, hx.2.1⟩, rfl, hx.2.2, hc, fun s a b => LC_st t 0 hW d5 s a (by omega), by rw [Int.add_sub_cancel]; exact d6, ho⟩
theorem LD_Tm {S : MS} {n g : Int} {t : RT} (hD : LD S n g t) (hW : TW n t) (hx : TXok (S.2 0)) (wh : Bool) {start : Int} (hs : 0 ≤ start ∧ start ≤ S.2 0 125) : Tm (opR S.2 ((tsz t + 1).toNat : Int)) (fitR S.2 (S.2 0 125)) (accW wh (S.2 0 125)) 0 start (fun _ => -1) (mRt (S.2 6) (fun k => S.2 0 (126 + k)) (S.2 0 125) t wh start) := by
  obtain ⟨d1, d2, d3, d4, d5, d6, d7, d8, d9, d10, d11, d12⟩ := hD
  have e : ((tsz t + 1).toNat : Int) = tsz t + 1 := by omega
  rw [e]
  have hLR := LC_LR (N := tsz t + 1) (L := S.2 0 125) t 0 hW d5 (by omega)
  refine LR_Tm hx.2.1 (fun t p h => lfT_L h) t 0 start _ _ hW hLR hs.1 hs.2 (fun p' w' a b => ?_)
  rw [Int.zero_add]
  exact Tm_a (by rw [opR_13 d6])
section SKS
variable {X : JX} {M0 : JM} {m d : Nat} {S : MS} {Q : JR → JM → Prop} {n g : Int} {t : RT}
def SKQ (M0 : JM) (m : Nat) (S : MS) (Q : JR → JM → Prop) (r : Option (Int × Int × (Int → Int))) : Prop := ∀ S', PW S S' → match r with
  | none => Q (.inl (some (.int (ii (-1))))) (mm M0 m S')
  | some q => S'.1 35 = q.2.1 → (∀ j, 0 ≤ j → j ≤ 9 → S'.2 16 j = q.2.2 j) → Q (.inl (some (.int (ii q.1)))) (mm M0 m S')
theorem m_seeksL (hd : 6 ≤ d) (hn : 0 ≤ n ∧ n ≤ 30) (hD : LD S n g t) (hW : TW n t) (hx : TXok (S.2 0)) (hc : ∀ k, 0 ≤ k → k < n → 0 ≤ S.2 6 k ∧ S.2 6 k ≤ 65535) {fr : Int} : ∀ (f : Nat) (S1 : MS) (k : Int), PW S S1 → 0 ≤ k → S.2 0 125 + 1 - k = f → VF S.2 (S.2 0 125) (tsz t + 1).toNat false (S1.2 15) → SKQ M0 m S Q (fstS (mRt (S.2 6) (fun k => S.2 0 (126 + k)) (S.2 0 125) t false) f k) → XX X d 171 (6, [some (.ref m), some (.int (ii fr)), some (.int (ii k))], [], mm M0 m S1) Q := by
  intro f
  induction f with
  | zero =>
    intro S1 k hP h0 hf hV hq
    have hL : S1.2 0 125 = S.2 0 125 := by rw [hP.2 0 (by omega)]
    have hx1 := hx.1
    have hx2 := hx.2.1
    rw [x171_6]
    repeat' (first | (simp (disch := first | assumption | exact wd_n | exact wd_i | exact wd_r | exact ct_r | exact ct_i | exact stB_0 | exact stB_1 | exact stB_2 | exact stB_3 | exact stB_4 | exact stB_5 | exact ct_2 | exact wd_0 | exact wd_f | omega) only [x171_0, x171_1, x171_4, x171_5, x171_7, x171_8, x171_11, x171_13, x171_14, x171_17, x171_18, x171_19, x171_20, x171_23, x171_23b, x171_26, x171_27, x171_28, x171_31, x171_34, x171_35, e171, XC_v, XC_s, true_and, and_true, and_self, bq_T, bq_F, yt_s, Bool.false_eq_true, Bool.true_eq_false, mm_cl, mm_1, uN_s, uN_n, uA_s, uA_n, uN_uN, mf_0, mf_1, mf_2, mf_3, mf_4, mf_5, mf_6, mf_7, mf_8, mf_9, mf_10, mf_11, mf_12, mf_13, mf_14, mf_15, mf_16, mf_17, mf_18, mf_19, mf_20, mf_21, mf_22, mf_23, mf_24, mf_25, mf_26, mf_27, mf_28, mf_29, mf_30, mf_31, mf_32, mf_33, mf_34, mf_35, mf_36, mf_37, mf_38, mf_39, mf_40, ms_3, ms_4, ms_5, ms_7, ms_9, ms_10, ms_11, ms_12, ms_14, ms_16, ms_17, ms_18, ms_24, ms_25, ms_29, ms_34, ms_35, ms_38, ma_0, ma_1, ma_2, ma_3, ma_4, ma_5, ma_6, ma_7, ma_8, ma_9, ma_10, ma_11, ma_12, ma_13, ma_14, ma_15, ma_16, ma_17, ma_18, ma_19, ma_20, ma_21, ma_22, mw_0, mw_1, mw_2, mw_3, mw_4, mw_5, mw_6, mw_7, mw_8, mw_9, mw_10, mw_11, mw_12, mw_13, mw_14, mw_15, mw_16, mw_17, mw_18, mw_19, mw_20, mw_21, mw_22, hL]) | (refine bq_t (by omega) ?_) | (refine bq_f (by omega) ?_) | fail)
    exact hq S1 hP
  | succ f ih =>
    intro S1 k hP h0 hf hV hq
    have hL : S1.2 0 125 = S.2 0 125 := by rw [hP.2 0 (by omega)]
    have hx1 := hx.1
    have hx2 := hx.2.1
    rw [x171_6]
    repeat' (first | (simp (disch := first | assumption | exact wd_n | exact wd_i | exact wd_r | exact ct_r | exact ct_i | exact stB_0 | exact stB_1 | exact stB_2 | exact stB_3 | exact stB_4 | exact stB_5 | exact ct_2 | exact wd_0 | exact wd_f | omega) only [x171_0, x171_1, x171_4, x171_5, x171_7, x171_8, x171_11, x171_13, x171_14, x171_17, x171_18, x171_19, x171_20, x171_23, x171_23b, x171_26, x171_27, x171_28, x171_31, x171_34, x171_35, e171, XC_v, XC_s, true_and, and_true, and_self, bq_T, bq_F, yt_s, Bool.false_eq_true, Bool.true_eq_false, mm_cl, mm_1, uN_s, uN_n, uA_s, uA_n, uN_uN, mf_0, mf_1, mf_2, mf_3, mf_4, mf_5, mf_6, mf_7, mf_8, mf_9, mf_10, mf_11, mf_12, mf_13, mf_14, mf_15, mf_16, mf_17, mf_18, mf_19, mf_20, mf_21, mf_22, mf_23, mf_24, mf_25, mf_26, mf_27, mf_28, mf_29, mf_30, mf_31, mf_32, mf_33, mf_34, mf_35, mf_36, mf_37, mf_38, mf_39, mf_40, ms_3, ms_4, ms_5, ms_7, ms_9, ms_10, ms_11, ms_12, ms_14, ms_16, ms_17, ms_18, ms_24, ms_25, ms_29, ms_34, ms_35, ms_38, ma_0, ma_1, ma_2, ma_3, ma_4, ma_5, ma_6, ma_7, ma_8, ma_9, ma_10, ma_11, ma_12, ma_13, ma_14, ma_15, ma_16, ma_17, ma_18, ma_19, ma_20, ma_21, ma_22, mw_0, mw_1, mw_2, mw_3, mw_4, mw_5, mw_6, mw_7, mw_8, mw_9, mw_10, mw_11, mw_12, mw_13, mw_14, mw_15, mw_16, mw_17, mw_18, mw_19, mw_20, mw_21, mw_22, hL]) | (refine bq_t (by omega) ?_) | (refine bq_f (by omega) ?_) | fail)
    have hC := WC_pw hP (LD_WC hn hD hW hx hc)
    have hT := LD_Tm hD hW hx false (start := k) (by omega)
    rw [← opR_pw hP, ← fitR_pw hP] at hT
    have hV' : VF S1.2 (S.2 0 125) (tsz t + 1).toNat false (S1.2 15) := by
      unfold VF at hV ⊢
      rw [opR_pw hP, fitR_pw hP]
      exact hV
    refine m_walks (wh := false) (by omega) hC (by omega) hV' hT (fun S' hP' => ?_)
    unfold fstS at hq
    cases hr : mRt (S.2 6) (fun k => S.2 0 (126 + k)) (S.2 0 125) t false k with
    | none =>
      intro hV2
      rw [hr] at hq
      repeat' (first | (simp (disch := first | assumption | exact wd_n | exact wd_i | exact wd_r | exact ct_r | exact ct_i | exact stB_0 | exact stB_1 | exact stB_2 | exact stB_3 | exact stB_4 | exact stB_5 | exact ct_2 | exact wd_0 | exact wd_f | omega) only [x171_0, x171_1, x171_4, x171_5, x171_7, x171_8, x171_11, x171_13, x171_14, x171_17, x171_18, x171_19, x171_20, x171_23, x171_23b, x171_26, x171_27, x171_28, x171_31, x171_34, x171_35, e171, XC_v, XC_s, true_and, and_true, and_self, bq_T, bq_F, yt_s, Bool.false_eq_true, Bool.true_eq_false, mm_cl, mm_1, uN_s, uN_n, uA_s, uA_n, uN_uN, mf_0, mf_1, mf_2, mf_3, mf_4, mf_5, mf_6, mf_7, mf_8, mf_9, mf_10, mf_11, mf_12, mf_13, mf_14, mf_15, mf_16, mf_17, mf_18, mf_19, mf_20, mf_21, mf_22, mf_23, mf_24, mf_25, mf_26, mf_27, mf_28, mf_29, mf_30, mf_31, mf_32, mf_33, mf_34, mf_35, mf_36, mf_37, mf_38, mf_39, mf_40, ms_3, ms_4, ms_5, ms_7, ms_9, ms_10, ms_11, ms_12, ms_14, ms_16, ms_17, ms_18, ms_24, ms_25, ms_29, ms_34, ms_35, ms_38, ma_0, ma_1, ma_2, ma_3, ma_4, ma_5, ma_6, ma_7, ma_8, ma_9, ma_10, ma_11, ma_12, ma_13, ma_14, ma_15, ma_16, ma_17, ma_18, ma_19, ma_20, ma_21, ma_22, mw_0, mw_1, mw_2, mw_3, mw_4, mw_5, mw_6, mw_7, mw_8, mw_9, mw_10, mw_11, mw_12, mw_13, mw_14, mw_15, mw_16, mw_17, mw_18, mw_19, mw_20, mw_21, mw_22]) | (refine bq_t (by omega) ?_) | (refine bq_f (by omega) ?_) | fail)
      refine ih S' (k + 1) (hP.trans hP') (by omega) (by omega) ?_ hq
      unfold VF at hV2 ⊢
      rw [opR_pw hP, fitR_pw hP] at hV2
      exact hV2
    | some q =>
      intro h35 h16
      rw [hr] at hq
      repeat' (first | (simp (disch := first | assumption | exact wd_n | exact wd_i | exact wd_r | exact ct_r | exact ct_i | exact stB_0 | exact stB_1 | exact stB_2 | exact stB_3 | exact stB_4 | exact stB_5 | exact ct_2 | exact wd_0 | exact wd_f | omega) only [x171_0, x171_1, x171_4, x171_5, x171_7, x171_8, x171_11, x171_13, x171_14, x171_17, x171_18, x171_19, x171_20, x171_23, x171_23b, x171_26, x171_27, x171_28, x171_31, x171_34, x171_35, e171, XC_v, XC_s, true_and, and_true, and_self, bq_T, bq_F, yt_s, Bool.false_eq_true, Bool.true_eq_false, mm_cl, mm_1, uN_s, uN_n, uA_s, uA_n, uN_uN, mf_0, mf_1, mf_2, mf_3, mf_4, mf_5, mf_6, mf_7, mf_8, mf_9, mf_10, mf_11, mf_12, mf_13, mf_14, mf_15, mf_16, mf_17, mf_18, mf_19, mf_20, mf_21, mf_22, mf_23, mf_24, mf_25, mf_26, mf_27, mf_28, mf_29, mf_30, mf_31, mf_32, mf_33, mf_34, mf_35, mf_36, mf_37, mf_38, mf_39, mf_40, ms_3, ms_4, ms_5, ms_7, ms_9, ms_10, ms_11, ms_12, ms_14, ms_16, ms_17, ms_18, ms_24, ms_25, ms_29, ms_34, ms_35, ms_38, ma_0, ma_1, ma_2, ma_3, ma_4, ma_5, ma_6, ma_7, ma_8, ma_9, ma_10, ma_11, ma_12, ma_13, ma_14, ma_15, ma_16, ma_17, ma_18, ma_19, ma_20, ma_21, ma_22, mw_0, mw_1, mw_2, mw_3, mw_4, mw_5, mw_6, mw_7, mw_8, mw_9, mw_10, mw_11, mw_12, mw_13, mw_14, mw_15, mw_16, mw_17, mw_18, mw_19, mw_20, mw_21, mw_22]) | (refine bq_t (by omega) ?_) | (refine bq_f (by omega) ?_) | fail)
      exact hq S' (hP.trans hP') h35 h16
theorem m_seeks (hd : 6 ≤ d) (hn : 0 ≤ n ∧ n ≤ 30) (hD : LD S n g t) (hW : TW n t) (hx : TXok (S.2 0)) (hc : ∀ k, 0 ≤ k → k < n → 0 ≤ S.2 6 k ∧ S.2 6 k ≤ 65535) {fr : Int} (hf : 0 ≤ fr ∧ fr ≤ S.2 0 125 + 1) (hq : SKQ M0 m S Q (skR (mRt (S.2 6) (fun k => S.2 0 (126 + k)) (S.2 0 125) t false) (S.2 0 125) fr)) : CC X d 171 [.ref m, .int (ii fr)] (mm M0 m S) Q := by
  have hN : S.1 29 = ((tsz t + 1).toNat : Int) := by
    obtain ⟨d1, d2, d3, d4, d5, d6, d7, d8, d9, d10, d11, d12⟩ := hD
    omega
  have hN61 : (tsz t + 1).toNat ≤ 61 := by
    obtain ⟨d1, d2, d3, d4, d5, d6, d7, d8, d9, d10, d11, d12⟩ := hD
    omega
  repeat' (first | (simp (disch := first | assumption | exact wd_n | exact wd_i | exact wd_r | exact ct_r | exact ct_i | exact stB_0 | exact stB_1 | exact stB_2 | exact stB_3 | exact stB_4 | exact stB_5 | exact ct_2 | exact wd_0 | exact wd_f | omega) only [x171_0, x171_1, x171_4, x171_5, x171_7, x171_8, x171_11, x171_13, x171_14, x171_17, x171_18, x171_19, x171_20, x171_23, x171_23b, x171_26, x171_27, x171_28, x171_31, x171_34, x171_35, e171, XC_v, XC_s, true_and, and_true, and_self, bq_T, bq_F, yt_s, Bool.false_eq_true, Bool.true_eq_false, mm_cl, mm_1, uN_s, uN_n, uA_s, uA_n, uN_uN, mf_0, mf_1, mf_2, mf_3, mf_4, mf_5, mf_6, mf_7, mf_8, mf_9, mf_10, mf_11, mf_12, mf_13, mf_14, mf_15, mf_16, mf_17, mf_18, mf_19, mf_20, mf_21, mf_22, mf_23, mf_24, mf_25, mf_26, mf_27, mf_28, mf_29, mf_30, mf_31, mf_32, mf_33, mf_34, mf_35, mf_36, mf_37, mf_38, mf_39, mf_40, ms_3, ms_4, ms_5, ms_7, ms_9, ms_10, ms_11, ms_12, ms_14, ms_16, ms_17, ms_18, ms_24, ms_25, ms_29, ms_34, ms_35, ms_38, ma_0, ma_1, ma_2, ma_3, ma_4, ma_5, ma_6, ma_7, ma_8, ma_9, ma_10, ma_11, ma_12, ma_13, ma_14, ma_15, ma_16, ma_17, ma_18, ma_19, ma_20, ma_21, ma_22, mw_0, mw_1, mw_2, mw_3, mw_4, mw_5, mw_6, mw_7, mw_8, mw_9, mw_10, mw_11, mw_12, mw_13, mw_14, mw_15, mw_16, mw_17, mw_18, mw_19, mw_20, mw_21, mw_22]) | (refine bq_t (by omega) ?_) | (refine bq_f (by omega) ?_) | fail)
  refine m_forgets hN hN61 (fun S' hP hV => ?_)
  repeat' (first | (simp (disch := first | assumption | exact wd_n | exact wd_i | exact wd_r | exact ct_r | exact ct_i | exact stB_0 | exact stB_1 | exact stB_2 | exact stB_3 | exact stB_4 | exact stB_5 | exact ct_2 | exact wd_0 | exact wd_f | omega) only [x171_0, x171_1, x171_4, x171_5, x171_7, x171_8, x171_11, x171_13, x171_14, x171_17, x171_18, x171_19, x171_20, x171_23, x171_23b, x171_26, x171_27, x171_28, x171_31, x171_34, x171_35, e171, XC_v, XC_s, true_and, and_true, and_self, bq_T, bq_F, yt_s, Bool.false_eq_true, Bool.true_eq_false, mm_cl, mm_1, uN_s, uN_n, uA_s, uA_n, uN_uN, mf_0, mf_1, mf_2, mf_3, mf_4, mf_5, mf_6, mf_7, mf_8, mf_9, mf_10, mf_11, mf_12, mf_13, mf_14, mf_15, mf_16, mf_17, mf_18, mf_19, mf_20, mf_21, mf_22, mf_23, mf_24, mf_25, mf_26, mf_27, mf_28, mf_29, mf_30, mf_31, mf_32, mf_33, mf_34, mf_35, mf_36, mf_37, mf_38, mf_39, mf_40, ms_3, ms_4, ms_5, ms_7, ms_9, ms_10, ms_11, ms_12, ms_14, ms_16, ms_17, ms_18, ms_24, ms_25, ms_29, ms_34, ms_35, ms_38, ma_0, ma_1, ma_2, ma_3, ma_4, ma_5, ma_6, ma_7, ma_8, ma_9, ma_10, ma_11, ma_12, ma_13, ma_14, ma_15, ma_16, ma_17, ma_18, ma_19, ma_20, ma_21, ma_22, mw_0, mw_1, mw_2, mw_3, mw_4, mw_5, mw_6, mw_7, mw_8, mw_9, mw_10, mw_11, mw_12, mw_13, mw_14, mw_15, mw_16, mw_17, mw_18, mw_19, mw_20, mw_21, mw_22]) | (refine bq_t (by omega) ?_) | (refine bq_f (by omega) ?_) | fail)
  exact m_seeksL hd hn hD hW hx hc (S.2 0 125 + 1 - fr).toNat S' fr hP hf.1 (by omega) (hV _ _ _) hq
end SKS
