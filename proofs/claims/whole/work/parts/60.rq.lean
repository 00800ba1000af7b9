/-! the reference, by what its row of ints holds: patterns, matches -/
def pc (G : Int → Int) (p : Int) : Int → Int := fun k => G (5 + 30 * p + k)
def tx (G : Int → Int) : Int → Int := fun k => G (126 + k)
def PT (G : Int → Int) (p : Int) : Int × RT := match PS (pc G p) (G (1 + p)) with
  | .inr q => q
  | .inl _ => (0, .num 0)
def GOK (G : Int → Int) : Prop := 0 ≤ G 0 ∧ G 0 ≤ 4 ∧ (∀ p, 0 ≤ p → p < G 0 → 0 ≤ G (1 + p) ∧ G (1 + p) ≤ 30 ∧ (∀ k, 0 ≤ k → k < 30 → 0 ≤ G (5 + 30 * p + k) ∧ G (5 + 30 * p + k) ≤ 65535) ∧ PS (pc G p) (G (1 + p)) = .inr (PT G p)) ∧ TXok G
def mG (G : Int → Int) (p : Int) (wh : Bool) (s : Int) : RA := mRt (pc G p) (tx G) (G 125) (PT G p).2 wh s
def sG (G : Int → Int) (p fr : Int) : Option (Int × Int × (Int → Int)) := skR (mG G p false) (G 125) fr
theorem sG_ok {G : Int → Int} {p fr : Int} {q : Int × Int × (Int → Int)} (hf : 0 ≤ fr ∧ fr ≤ G 125) (h : sG G p fr = some q) : fr ≤ q.1 ∧ q.1 ≤ G 125 ∧ MOk (G 125) q.1 q.2 := by
  have := fstS_ok (P := MOk (G 125)) (G 125 + 1 - fr).toNat fr q (fun k q a b h => mRt_ok (by omega) h) h
  exact ⟨this.1, by omega, this.2.2⟩
/-- what stays of the reference behind a question -/
def RF (S S' : MS) : Prop := (∀ k, k = 3 ∨ k = 4 ∨ k = 7 ∨ k = 9 ∨ k = 10 ∨ k = 11 ∨ k = 12 ∨ k = 14 → S'.1 k = S.1 k) ∧ (∀ j, j ≤ 5 ∨ 20 < j → S'.2 j = S.2 j)
/-- .. behind any call that changes nothing -/
def RQ (S S' : MS) : Prop := (∀ k, k = 3 ∨ k = 4 ∨ k = 7 ∨ k = 9 ∨ k = 10 ∨ k = 11 ∨ k = 12 ∨ k = 14 → S'.1 k = S.1 k) ∧ (∀ j, j ≤ 5 → S'.2 j = S.2 j)
theorem RF.q {S S' : MS} (h : RF S S') : RQ S S' := ⟨h.1, fun j a => h.2 j (Or.inl a)⟩
theorem RF.refl (S : MS) : RF S S := ⟨fun _ _ => rfl, fun _ _ => rfl⟩
theorem RF.trans {A B C : MS} (h : RF A B) (h' : RF B C) : RF A C := ⟨fun k a => (h'.1 k a).trans (h.1 k a), fun j a => (h'.2 j a).trans (h.2 j a)⟩
theorem PH.rf {S S' : MS} (h : PH S S') : RF S S' := ⟨fun k a => h.1 k (by omega) (by omega) (by omega) (by omega) (by omega) (by omega), fun j a => h.2 j (by omega)⟩
theorem PW.rf {S S' : MS} (h : PW S S') : RF S S' := ⟨fun k a => h.1 k (by omega) (by omega), fun j a => h.2 j (by omega)⟩
theorem RF_n {S S' : MS} {k : Nat} {z : Int} (h : RF S S') (hk : k = 5 ∨ 15 ≤ k) : RF S (uN S'.1 k z, S'.2) := ⟨fun j a => (uN_n (by omega)).trans (h.1 j a), h.2⟩
theorem RF_a {S S' : MS} {k : Nat} {c : Int → Int} (h : RF S S') (hk : 6 ≤ k ∧ k ≤ 20) : RF S (S'.1, uA S'.2 k c) := ⟨h.1, fun j a => (uA_n (by omega)).trans (h.2 j a)⟩
/-- a pattern of G is laid in S -/
def LDG (S : MS) (G : Int → Int) (p : Int) : Prop := S.2 0 = G ∧ LD S (G (1 + p)) (PT G p).1 (PT G p).2 ∧ (∀ k, 0 ≤ k → k < G (1 + p) → S.2 6 k = pc G p k) ∧ GOK G ∧ 0 ≤ p ∧ p < G 0
theorem LDG_pw {S S' : MS} {G : Int → Int} {p : Int} (hP : PW S S') (h : LDG S G p) : LDG S' G p := by
  obtain ⟨h1, ⟨d1, d2, d3, d4, d5, d6, d7, d8, d9, d10, d11, d12⟩, h3, h4⟩ := h
  refine ⟨(hP.2 0 (by omega)).trans h1, ⟨?_, ?_, ?_, ?_, ?_, ?_, ?_, ?_, ?_, ?_, d11, d12⟩, ?_, h4⟩
  · rw [hP.1 16 (by omega) (by omega)]; exact d1
  · rw [hP.2 6 (by omega)]; exact d2
  · rw [hP.1 25 (by omega) (by omega)]; exact d3
  · rw [hP.1 29 (by omega) (by omega)]; exact d4
  · exact LC_fr _ _ (fun j a b i _ _ => by rw [hP.2 j (by omega)]) d5
  · rw [hP.2 12 (by omega)]; exact d6
  · rw [hP.1 24 (by omega) (by omega)]; exact d7
  · rw [hP.1 24 (by omega) (by omega)]; exact d8
  · rw [hP.2 10 (by omega), hP.1 24 (by omega) (by omega)]; exact d9
  · rw [hP.2 11 (by omega), hP.1 24 (by omega) (by omega)]; exact d10
  · rw [hP.2 6 (by omega)]; exact h3
theorem LDG_n {S : MS} {G : Int → Int} {p : Int} {k : Nat} {z : Int} (hk : k = 5 ∨ k = 38 ∨ k = 35) (h : LDG S G p) : LDG (uN S.1 k z, S.2) G p := by
  obtain ⟨h1, ⟨d1, d2, d3, d4, d5, d6, d7, d8, d9, d10, d11, d12⟩, h3, h4⟩ := h
  refine ⟨h1, ⟨?_, d2, ?_, ?_, d5, d6, ?_, ?_, ?_, ?_, d11, d12⟩, h3, h4⟩
  · exact (at_n (by omega)).trans d1
  · exact (at_n (by omega)).trans d3
  · exact (at_n (by omega)).trans d4
  · rw [at_n (by omega)]; exact d7
  · rw [at_n (by omega)]; exact d8
  · rw [at_n (by omega)]; exact d9
  · rw [at_n (by omega)]; exact d10
theorem LDG_a {S : MS} {G : Int → Int} {p : Int} {k : Nat} {c : Int → Int} (hk : k = 19 ∨ k = 20) (h : LDG S G p) : LDG (S.1, uA S.2 k c) G p := by
  have hP : ∀ j, j ≠ 19 → j ≠ 20 → ((S.1, uA S.2 k c) : MS).2 j = S.2 j := fun j a b => aa_n (by omega)
  obtain ⟨h1, ⟨d1, d2, d3, d4, d5, d6, d7, d8, d9, d10, d11, d12⟩, h3, h4⟩ := h
  refine ⟨(hP 0 (by omega) (by omega)).trans h1, ⟨d1, ?_, d3, d4, ?_, ?_, d7, d8, ?_, ?_, d11, d12⟩, ?_, h4⟩
  · rw [hP 6 (by omega) (by omega)]; exact d2
  · exact LC_fr _ _ (fun j a b i _ _ => by rw [hP j (by omega) (by omega)]) d5
  · rw [hP 12 (by omega) (by omega)]; exact d6
  · rw [hP 10 (by omega) (by omega)]; exact d9
  · rw [hP 11 (by omega) (by omega)]; exact d10
  · rw [hP 6 (by omega) (by omega)]; exact h3
section RQ1
variable {X : JX} {M0 : JM} {m d : Nat} {S : MS} {Q : JR → JM → Prop} {G : Int → Int} {p fr : Int}
theorem m_isPattern (hd : 1 ≤ d) (hG : S.2 0 = G) (hk : GOK G) (hp : -2147483648 ≤ p ∧ p ≤ 2147483647) : CC X d 172 [.ref m, .int (ii p)] (mm M0 m S) Q = Q (.inl (some (.int (ii (b2i (decide (0 ≤ p ∧ p ≤ G 0 - 1))))))) (mm M0 m S) := by
  have h0 : S.2 0 0 = G 0 := by rw [hG]
  have h1 := hk.1
  have h2 := hk.2.1
  refine CC_eq ?_ Q
  repeat' (first | (simp (disch := first | assumption | exact wd_n | exact wd_i | exact wd_r | exact ct_r | exact ct_i | exact stB_0 | exact stB_1 | exact stB_2 | exact stB_3 | exact stB_4 | exact stB_5 | exact ct_2 | exact b2i_c _ | exact wd_0 | exact wd_f | omega) only [x172_0, x172_1, x172_2, x172_3, x172_6, x172_7, x172_8, x172_9, x172_10, x172_13, e172, XC_v, XC_s, true_and, and_true, and_self, bq_T, bq_F, yt_s, Bool.false_eq_true, Bool.true_eq_false, mm_cl, mm_1, uN_s, uN_n, uA_s, uA_n, uN_uN, mf_0, mf_1, mf_2, mf_3, mf_4, mf_5, mf_6, mf_7, mf_8, mf_9, mf_10, mf_11, mf_12, mf_13, mf_14, mf_15, mf_16, mf_17, mf_18, mf_19, mf_20, mf_21, mf_22, mf_23, mf_24, mf_25, mf_26, mf_27, mf_28, mf_29, mf_30, mf_31, mf_32, mf_33, mf_34, mf_35, mf_36, mf_37, mf_38, mf_39, mf_40, ms_3, ms_4, ms_5, ms_7, ms_9, ms_10, ms_11, ms_12, ms_14, ms_16, ms_17, ms_18, ms_24, ms_25, ms_29, ms_34, ms_35, ms_38, ma_0, ma_1, ma_2, ma_3, ma_4, ma_5, ma_6, ma_7, ma_8, ma_9, ma_10, ma_11, ma_12, ma_13, ma_14, ma_15, ma_16, ma_17, ma_18, ma_19, ma_20, ma_21, ma_22, mw_0, mw_1, mw_2, mw_3, mw_4, mw_5, mw_6, mw_7, mw_8, mw_9, mw_10, mw_11, mw_12, mw_13, mw_14, mw_15, mw_16, mw_17, mw_18, mw_19, mw_20, mw_21, mw_22, h0, m_in]) | (refine bq_t (by omega) ?_) | (refine bq_f (by omega) ?_) | fail)
theorem m_isNone_t (hd : 3 ≤ d) (hG : S.2 0 = G) (hk : GOK G) (hp : 0 ≤ p ∧ p < G 0) : CC X d 173 [.ref m, .int (ii p)] (mm M0 m S) Q = Q (.inl (some (.int (ii 0)))) (mm M0 m (uN S.1 5 0, S.2)) := by
  have h1 := hk.1
  have h2 := hk.2.1
  have mi := fun (d : Nat) (Q : JR → JM → Prop) (hd : 1 ≤ d) => m_isPattern (X := X) (M0 := M0) (m := m) (Q := Q) (p := p) hd hG hk (by omega)
  have e : decide (0 ≤ p ∧ p ≤ G 0 - 1) = true := decide_eq_true (by omega)
  rw [e] at mi
  refine CC_eq ?_ Q
  repeat' (first | (simp (disch := first | assumption | exact wd_n | exact wd_i | exact wd_r | exact ct_r | exact ct_i | exact stB_0 | exact stB_1 | exact stB_2 | exact stB_3 | exact stB_4 | exact stB_5 | exact ct_2 | exact b2i_c _ | exact wd_0 | exact wd_f | omega) only [x173_0, x173_1, x173_2, x173_3, x173_6, x173_6b, x173_9, x173_10, x173_13, x173_14, x173_17, e173, XC_v, XC_s, true_and, and_true, and_self, bq_T, bq_F, yt_s, Bool.false_eq_true, Bool.true_eq_false, mm_cl, mm_1, uN_s, uN_n, uA_s, uA_n, uN_uN, mf_0, mf_1, mf_2, mf_3, mf_4, mf_5, mf_6, mf_7, mf_8, mf_9, mf_10, mf_11, mf_12, mf_13, mf_14, mf_15, mf_16, mf_17, mf_18, mf_19, mf_20, mf_21, mf_22, mf_23, mf_24, mf_25, mf_26, mf_27, mf_28, mf_29, mf_30, mf_31, mf_32, mf_33, mf_34, mf_35, mf_36, mf_37, mf_38, mf_39, mf_40, ms_3, ms_4, ms_5, ms_7, ms_9, ms_10, ms_11, ms_12, ms_14, ms_16, ms_17, ms_18, ms_24, ms_25, ms_29, ms_34, ms_35, ms_38, ma_0, ma_1, ma_2, ma_3, ma_4, ma_5, ma_6, ma_7, ma_8, ma_9, ma_10, ma_11, ma_12, ma_13, ma_14, ma_15, ma_16, ma_17, ma_18, ma_19, ma_20, ma_21, ma_22, mw_0, mw_1, mw_2, mw_3, mw_4, mw_5, mw_6, mw_7, mw_8, mw_9, mw_10, mw_11, mw_12, mw_13, mw_14, mw_15, mw_16, mw_17, mw_18, mw_19, mw_20, mw_21, mw_22, mi, m_fails, b2i_d, b2i_nd]) | (refine bq_t (by omega) ?_) | (refine bq_f (by omega) ?_) | fail)
theorem m_isNone_f (hd : 3 ≤ d) (hG : S.2 0 = G) (hk : GOK G) (hr : -2147483648 ≤ p ∧ p ≤ 2147483647) (hp : ¬ (0 ≤ p ∧ p < G 0)) : CC X d 173 [.ref m, .int (ii p)] (mm M0 m S) Q = Q (.inl (some (.int (ii 1)))) (mm M0 m (uN S.1 5 1, S.2)) := by
  have h1 := hk.1
  have h2 := hk.2.1
  have mi := fun (d : Nat) (Q : JR → JM → Prop) (hd : 1 ≤ d) => m_isPattern (X := X) (M0 := M0) (m := m) (Q := Q) (p := p) hd hG hk hr
  have e : decide (0 ≤ p ∧ p ≤ G 0 - 1) = false := decide_eq_false (by omega)
  rw [e] at mi
  refine CC_eq ?_ Q
  repeat' (first | (simp (disch := first | assumption | exact wd_n | exact wd_i | exact wd_r | exact ct_r | exact ct_i | exact stB_0 | exact stB_1 | exact stB_2 | exact stB_3 | exact stB_4 | exact stB_5 | exact ct_2 | exact b2i_c _ | exact wd_0 | exact wd_f | omega) only [x173_0, x173_1, x173_2, x173_3, x173_6, x173_6b, x173_9, x173_10, x173_13, x173_14, x173_17, e173, XC_v, XC_s, true_and, and_true, and_self, bq_T, bq_F, yt_s, Bool.false_eq_true, Bool.true_eq_false, mm_cl, mm_1, uN_s, uN_n, uA_s, uA_n, uN_uN, mf_0, mf_1, mf_2, mf_3, mf_4, mf_5, mf_6, mf_7, mf_8, mf_9, mf_10, mf_11, mf_12, mf_13, mf_14, mf_15, mf_16, mf_17, mf_18, mf_19, mf_20, mf_21, mf_22, mf_23, mf_24, mf_25, mf_26, mf_27, mf_28, mf_29, mf_30, mf_31, mf_32, mf_33, mf_34, mf_35, mf_36, mf_37, mf_38, mf_39, mf_40, ms_3, ms_4, ms_5, ms_7, ms_9, ms_10, ms_11, ms_12, ms_14, ms_16, ms_17, ms_18, ms_24, ms_25, ms_29, ms_34, ms_35, ms_38, ma_0, ma_1, ma_2, ma_3, ma_4, ma_5, ma_6, ma_7, ma_8, ma_9, ma_10, ma_11, ma_12, ma_13, ma_14, ma_15, ma_16, ma_17, ma_18, ma_19, ma_20, ma_21, ma_22, mw_0, mw_1, mw_2, mw_3, mw_4, mw_5, mw_6, mw_7, mw_8, mw_9, mw_10, mw_11, mw_12, mw_13, mw_14, mw_15, mw_16, mw_17, mw_18, mw_19, mw_20, mw_21, mw_22, mi, m_fails, b2i_d, b2i_nd]) | (refine bq_t (by omega) ?_) | (refine bq_f (by omega) ?_) | fail)
theorem m_layG (hd : 400 ≤ d) (hG : S.2 0 = G) (hk : GOK G) (hp : 0 ≤ p ∧ p < G 0) (hq : ∀ S', PH S S' → LDG S' G p → Q (.inl none) (mm M0 m S')) : CC X d 164 [.ref m, .int (ii p)] (mm M0 m S) Q := by
  obtain ⟨k0, k4, kp, kx⟩ := id hk
  obtain ⟨n0, n30, nc, nP⟩ := kp p hp.1 hp.2
  refine m_layPattern (n := G (1 + p)) (g := (PT G p).1) (t := (PT G p).2) hd (by omega) (by rw [hG]) ⟨n0, n30⟩ (fun k a b => by rw [hG]; exact nc k a (by omega)) (fun c' hc => ?_) (fun S' h1 h2 h3 => hq S' h1 ⟨?_, h2, fun k a b => ?_, hk, hp⟩)
  · rw [PS_ext (c := pc G p) (fun k a b => by rw [hc k a b, hG]; rfl)]
    exact nP
  · rw [h1.2 0 (by omega)]; exact hG
  · rw [h3 k a b, hG]; rfl
theorem LDG_TW (h : LDG S G p) : TW (G (1 + p)) (PT G p).2 := by
  obtain ⟨h1, h2, h3, h4, h5, h6⟩ := h
  have := h4.2.2.1 p h5 h6
  exact PS_TW this.1 this.2.2.2
theorem LDG_mR (h : LDG S G p) {wh : Bool} {s : Int} (hs : 0 ≤ s) : mRt (S.2 6) (fun k => S.2 0 (126 + k)) (S.2 0 125) (PT G p).2 wh s = mG G p wh s := by
  have hW := LDG_TW h
  obtain ⟨h1, h2, h3, h4, h5, h6⟩ := h
  unfold mG
  rw [h1]
  exact mRt_ext h3 (fun _ _ _ => rfl) hW hs
theorem m_seekG (hd : 6 ≤ d) (h : LDG S G p) (hf : 0 ≤ fr ∧ fr ≤ G 125) (hq : SKQ M0 m S Q (sG G p fr)) : CC X d 171 [.ref m, .int (ii fr)] (mm M0 m S) Q := by
  have hW := LDG_TW h
  have hm := fun wh s => LDG_mR h (wh := wh) (s := s)
  obtain ⟨h1, h2, h3, h4, h5, h6⟩ := h
  obtain ⟨k0, k4, kp, kx⟩ := id h4
  obtain ⟨n0, n30, nc, nP⟩ := kp p h5 h6
  have e : skR (mRt (S.2 6) (fun k => S.2 0 (126 + k)) (S.2 0 125) (PT G p).2 false) (S.2 0 125) fr = sG G p fr := by
    unfold sG skR
    rw [fstS_ext (R := mG G p false) _ fr hf.1 (fun s hs => hm false s hs), h1]
  refine m_seeks (n := G (1 + p)) (g := (PT G p).1) (t := (PT G p).2) hd ⟨n0, n30⟩ h2 hW (by rw [h1]; exact kx) (fun k a b => by rw [h3 k a b]; exact nc k a (by omega)) (by rw [h1]; omega) ?_
  rw [e]
  exact hq
end RQ1
