/-! the reference's walk: its memory and the machine's states -/
def lvs (S : MS) (a b : Int) : MS := (uN S.1 34 (S.1 34 + 1), uA (uA S.2 17 (up (S.2 17) (S.1 34) a)) 18 (up (S.2 18) (S.1 34) b))
def SB (A B : Int → Int) : List (Int × Int) → Prop
  | [] => True
  | v :: k => A (k.length : Int) = v.1 ∧ B (k.length : Int) = v.2 ∧ SB A B k
theorem SB_fr {A B A' B' : Int → Int} : ∀ {k : List (Int × Int)}, (∀ i : Int, i < k.length → A' i = A i ∧ B' i = B i) → SB A B k → SB A' B' k := by
  intro k
  induction k with
  | nil => intro _ _; trivial
  | cons v k ih =>
    intro h hs
    have hl : ((v :: k).length : Int) = (k.length : Int) + 1 := by rw [List.length_cons]; rfl
    obtain ⟨h1, h2, h3⟩ := hs
    have := h (k.length : Int) (by omega)
    exact ⟨this.1.trans h1, this.2.trans h2, ih (fun i hi => h i (by omega)) h3⟩
def BN (A : Int → Int) (N : Int) (vis : List (Int × Int)) : Prop := ∀ s p, 0 ≤ s → s < N → 0 ≤ p → p ≤ 40 → A (41 * s + p) = if (s, p) ∈ vis then 1 else 0
def BK (N : Int) (S : MS) (T : DT) : Prop := SB (S.2 17) (S.2 18) T.1 ∧ S.1 34 = (T.1.length : Int) ∧ (∀ j, 0 ≤ j → j ≤ 9 → S.2 16 j = T.2.1 j) ∧ BN (S.2 15) N T.2.2
/-- what walking leaves alone -/
def PW (S S' : MS) : Prop := (∀ k, k ≠ 34 → k ≠ 35 → S'.1 k = S.1 k) ∧ (∀ j, j < 15 ∨ 18 < j → S'.2 j = S.2 j)
theorem PW.refl (S : MS) : PW S S := ⟨fun _ _ _ => rfl, fun _ _ => rfl⟩
theorem PW.trans {A B C : MS} (h : PW A B) (h' : PW B C) : PW A C := ⟨fun k a b => (h'.1 k a b).trans (h.1 k a b), fun j a => (h'.2 j a).trans (h.2 j a)⟩
theorem PW_n {S S' : MS} {k : Nat} {z : Int} (h : PW S S') (hk : k = 34 ∨ k = 35) : PW S (uN S'.1 k z, S'.2) := ⟨fun j a b => (uN_n (by omega)).trans (h.1 j a b), h.2⟩
theorem PW_a {S S' : MS} {k : Nat} {c : Int → Int} (h : PW S S') (hk : 15 ≤ k ∧ k ≤ 18) : PW S (S'.1, uA S'.2 k c) := ⟨h.1, fun j a => (uA_n (by omega)).trans (h.2 j a)⟩
theorem PW_l {S S' : MS} {a b : Int} (h : PW S S') : PW S (lvs S' a b) := ⟨fun j c d => (uN_n (by omega)).trans (h.1 j c d), fun j c => ((uA_n (by omega)).trans (uA_n (by omega))).trans (h.2 j c)⟩
section WK
variable {N : Int} {S : MS} {K : List (Int × Int)} {w : Int → Int} {vis : List (Int × Int)}
theorem BK_been {s p : Int} (h : BK N S (K, w, vis)) (hs : 0 ≤ s) (hp : 0 ≤ p ∧ p ≤ 40) : BK N (S.1, uA S.2 15 (up (S.2 15) (41 * s + p) 1)) (K, w, (s, p) :: vis) := by
  unfold BK at h ⊢
  simp (disch := omega) only [uN_s, uN_n, uA_s, uA_n, up_s, up_n, uN_uN, uA_uA]
  obtain ⟨h1, h2, h3, h4⟩ := h
  refine ⟨h1, h2, h3, fun s' p' a b c d => ?_⟩
  by_cases he : s' = s ∧ p' = p
  · rw [he.1, he.2, up_s, if_pos (List.mem_cons_self ..)]
  · rw [up_n (by omega), h4 s' p' a b c d]
    simp only
    by_cases hv : (s', p') ∈ vis
    · rw [if_pos hv, if_pos (List.mem_cons_of_mem _ hv)]
    · rw [if_neg hv, if_neg (fun q => by
        rcases List.mem_cons.mp q with q | q
        · exact he ⟨(Prod.mk.inj q).1, (Prod.mk.inj q).2⟩
        · exact hv q)]
theorem BK_push {a b : Int} (h : BK N S (K, w, vis)) : BK N (lvs S a b) ((a, b) :: K, w, vis) := by
  unfold BK at h ⊢
  unfold lvs
  simp (disch := omega) only [uN_s, uN_n, uA_s, uA_n, up_s, up_n, uN_uN, uA_uA]
  simp only at h
  obtain ⟨h1, h2, h3, h4⟩ := h
  refine ⟨⟨?_, ?_, ?_⟩, ?_, h3, h4⟩
  · rw [h2, up_s]
  · rw [h2, up_s]
  · exact SB_fr (fun i hi => ⟨up_n (by omega), up_n (by omega)⟩) h1
  · rw [List.length_cons]; omega
theorem BK_mark {j b : Int} (h : BK N S (K, w, vis)) : BK N (S.1, uA S.2 16 (up (S.2 16) j b)) (K, up w j b, vis) := by
  unfold BK at h ⊢
  simp (disch := omega) only [uN_s, uN_n, uA_s, uA_n, up_s, up_n, uN_uN, uA_uA]
  obtain ⟨h1, h2, h3, h4⟩ := h
  refine ⟨h1, h2, fun i c d => ?_, h4⟩
  unfold up
  split
  · rfl
  · exact h3 i c d
theorem BK_pop {a b : Int} (h : BK N S ((a, b) :: K, w, vis)) : BK N (uN S.1 34 (K.length : Int), S.2) (K, w, vis) ∧ S.1 34 = (K.length : Int) + 1 ∧ S.2 17 (K.length : Int) = a ∧ S.2 18 (K.length : Int) = b := by
  unfold BK at h ⊢
  simp (disch := omega) only [uN_s, uN_n, uA_s, uA_n, up_s, up_n, uN_uN, uA_uA]
  obtain ⟨⟨h1, h1', h1''⟩, h2, h3, h4⟩ := h
  simp only [List.length_cons] at h2
  exact ⟨⟨h1'', trivial, h3, h4⟩, by omega, h1, h1'⟩
end WK
section WL
variable {X : JX} {M0 : JM} {m d : Nat} {S : MS} {Q : JR → JM → Prop}
theorem m_leaves {a b : Int} (h : 0 ≤ (S.1 34) ∧ (S.1 34) < 9000) : CC X d 167 [.ref m, .int (ii a), .int (ii b)] (mm M0 m S) Q = Q (.inl none) (mm M0 m (lvs S a b)) := by
  refine CC_eq ?_ Q
  repeat' (first | (simp (disch := first | assumption | exact wd_n | exact wd_i | exact wd_r | exact ct_r | exact ct_i | exact stB_0 | exact stB_1 | exact stB_2 | exact stB_3 | exact stB_4 | exact stB_5 | exact ct_2 | exact wd_0 | exact wd_f | omega) only [x167_0, x167_1, x167_4, x167_5, x167_8, x167_9, x167_10, x167_11, x167_14, x167_15, x167_18, x167_19, x167_20, x167_21, x167_22, x167_25, x167_26, x167_27, x167_30, e167, XC_v, XC_s, true_and, and_true, and_self, bq_T, bq_F, yt_s, Bool.false_eq_true, Bool.true_eq_false, mm_cl, mm_1, uN_s, uN_n, uA_s, uA_n, uN_uN, mf_0, mf_1, mf_2, mf_3, mf_4, mf_5, mf_6, mf_7, mf_8, mf_9, mf_10, mf_11, mf_12, mf_13, mf_14, mf_15, mf_16, mf_17, mf_18, mf_19, mf_20, mf_21, mf_22, mf_23, mf_24, mf_25, mf_26, mf_27, mf_28, mf_29, mf_30, mf_31, mf_32, mf_33, mf_34, mf_35, mf_36, mf_37, mf_38, mf_39, mf_40, ms_3, ms_4, ms_5, ms_7, ms_9, ms_10, ms_11, ms_12, ms_14, ms_16, ms_17, ms_18, ms_24, ms_25, ms_29, ms_34, ms_35, ms_38, ma_0, ma_1, ma_2, ma_3, ma_4, ma_5, ma_6, ma_7, ma_8, ma_9, ma_10, ma_11, ma_12, ma_13, ma_14, ma_15, ma_16, ma_17, ma_18, ma_19, ma_20, ma_21, ma_22, mw_0, mw_1, mw_2, mw_3, mw_4, mw_5, mw_6, mw_7, mw_8, mw_9, mw_10, mw_11, mw_12, mw_13, mw_14, mw_15, mw_16, mw_17, mw_18, mw_19, mw_20, mw_21, mw_22]) | (refine bq_t (by omega) ?_) | (refine bq_f (by omega) ?_) | (refine bq_i (fun h => ?_) (fun h => ?_)) | fail)
  rfl
/-- undoing marks back to the latest choice -/
theorem m_turnsBack {op : Int → Int × Int × Int} {fit : Int → Int → Bool} {acc : Int → Bool} {N : Int} {vis : List (Int × Int)} : ∀ (K : List (Int × Int)) (S : MS) (w : Int → Int), BK N S (K, w, vis) → K.length ≤ 9000 → (∀ v, v ∈ K → -10 ≤ v.1 ∧ v.1 ≤ 1000) → (∀ (S' : MS) (j : Nat) (K' : List (Int × Int)) (w' : Int → Int), PW S S' → BK N S' (K', w', vis) → dgo op fit acc j (K, w, vis) = some (K', w', vis) → (K' = [] ∨ ∃ a b K'', K' = (a, b) :: K'' ∧ 0 ≤ a) → Q (.inl (some (.int (ii (if K' = [] then 0 else 1))))) (mm M0 m S')) → XX X d 168 (0, [some (.ref m)], [], mm M0 m S) Q := by
  intro K
  induction K with
  | nil =>
    intro S w hB hl hr hq
    have h34 : S.1 34 = 0 := hB.2.1
    repeat' (first | (simp (disch := first | assumption | exact wd_n | exact wd_i | exact wd_r | exact ct_r | exact ct_i | exact stB_0 | exact stB_1 | exact stB_2 | exact stB_3 | exact stB_4 | exact stB_5 | exact ct_2 | exact wd_0 | exact wd_f | omega) only [x168_0, x168_1, x168_4, x168_7, x168_8, x168_11, x168_12, x168_15, x168_16, x168_17, x168_18, x168_21, x168_22, x168_23, x168_26, x168_27, x168_28, x168_31, x168_32, x168_35, x168_36, x168_37, x168_40, x168_41, x168_44, x168_45, x168_46, x168_47, x168_50, x168_51, x168_54, x168_55, x168_56, x168_59, x168_60, x168_63, x168_66, x168_67, x168_70, x168_71, e168, XC_v, XC_s, true_and, and_true, and_self, bq_T, bq_F, yt_s, Bool.false_eq_true, Bool.true_eq_false, mm_cl, mm_1, uN_s, uN_n, uA_s, uA_n, uN_uN, mf_0, mf_1, mf_2, mf_3, mf_4, mf_5, mf_6, mf_7, mf_8, mf_9, mf_10, mf_11, mf_12, mf_13, mf_14, mf_15, mf_16, mf_17, mf_18, mf_19, mf_20, mf_21, mf_22, mf_23, mf_24, mf_25, mf_26, mf_27, mf_28, mf_29, mf_30, mf_31, mf_32, mf_33, mf_34, mf_35, mf_36, mf_37, mf_38, mf_39, mf_40, ms_3, ms_4, ms_5, ms_7, ms_9, ms_10, ms_11, ms_12, ms_14, ms_16, ms_17, ms_18, ms_24, ms_25, ms_29, ms_34, ms_35, ms_38, ma_0, ma_1, ma_2, ma_3, ma_4, ma_5, ma_6, ma_7, ma_8, ma_9, ma_10, ma_11, ma_12, ma_13, ma_14, ma_15, ma_16, ma_17, ma_18, ma_19, ma_20, ma_21, ma_22, mw_0, mw_1, mw_2, mw_3, mw_4, mw_5, mw_6, mw_7, mw_8, mw_9, mw_10, mw_11, mw_12, mw_13, mw_14, mw_15, mw_16, mw_17, mw_18, mw_19, mw_20, mw_21, mw_22, h34]) | (refine bq_t (by omega) ?_) | (refine bq_f (by omega) ?_) | fail)
    have := hq S 0 [] w (PW.refl S) hB rfl (Or.inl rfl)
    rw [if_pos rfl] at this
    exact this
  | cons v K ih =>
    intro S w hB hl hr hq
    obtain ⟨a, b⟩ := v
    have hB' := BK_pop hB
    obtain ⟨hp, h34, h17, h18⟩ := hB'
    have hv := hr (a, b) (List.mem_cons_self ..)
    simp only at hv
    have hl' : K.length + 1 ≤ 9000 := hl
    have h17' : S.2 17 (S.1 34 - 1) = a := by rw [h34, Int.add_sub_cancel]; exact h17
    have h18' : S.2 18 (S.1 34 - 1) = b := by rw [h34, Int.add_sub_cancel]; exact h18
    by_cases ha : a < 0
    · rw [x168_0]
      repeat' (first | (simp (disch := first | assumption | exact wd_n | exact wd_i | exact wd_r | exact ct_r | exact ct_i | exact stB_0 | exact stB_1 | exact stB_2 | exact stB_3 | exact stB_4 | exact stB_5 | exact ct_2 | exact wd_0 | exact wd_f | omega) only [x168_1, x168_4, x168_7, x168_8, x168_11, x168_12, x168_15, x168_16, x168_17, x168_18, x168_21, x168_22, x168_23, x168_26, x168_27, x168_28, x168_31, x168_32, x168_35, x168_36, x168_37, x168_40, x168_41, x168_44, x168_45, x168_46, x168_47, x168_50, x168_51, x168_54, x168_55, x168_56, x168_59, x168_60, x168_63, x168_66, x168_67, x168_70, x168_71, e168, XC_v, XC_s, true_and, and_true, and_self, bq_T, bq_F, yt_s, Bool.false_eq_true, Bool.true_eq_false, mm_cl, mm_1, uN_s, uN_n, uA_s, uA_n, uN_uN, mf_0, mf_1, mf_2, mf_3, mf_4, mf_5, mf_6, mf_7, mf_8, mf_9, mf_10, mf_11, mf_12, mf_13, mf_14, mf_15, mf_16, mf_17, mf_18, mf_19, mf_20, mf_21, mf_22, mf_23, mf_24, mf_25, mf_26, mf_27, mf_28, mf_29, mf_30, mf_31, mf_32, mf_33, mf_34, mf_35, mf_36, mf_37, mf_38, mf_39, mf_40, ms_3, ms_4, ms_5, ms_7, ms_9, ms_10, ms_11, ms_12, ms_14, ms_16, ms_17, ms_18, ms_24, ms_25, ms_29, ms_34, ms_35, ms_38, ma_0, ma_1, ma_2, ma_3, ma_4, ma_5, ma_6, ma_7, ma_8, ma_9, ma_10, ma_11, ma_12, ma_13, ma_14, ma_15, ma_16, ma_17, ma_18, ma_19, ma_20, ma_21, ma_22, mw_0, mw_1, mw_2, mw_3, mw_4, mw_5, mw_6, mw_7, mw_8, mw_9, mw_10, mw_11, mw_12, mw_13, mw_14, mw_15, mw_16, mw_17, mw_18, mw_19, mw_20, mw_21, mw_22, h17', h18']) | (refine bq_t (by omega) ?_) | (refine bq_f (by omega) ?_) | fail)
      have hB2 := BK_mark (j := -1 - a) (b := b) hp
      have e : ((uN S.1 34 (S.1 34 - 1), uA S.2 16 (up (S.2 16) (-1 - a) b)) : MS) = (uN S.1 34 (K.length : Int), uA S.2 16 (up (S.2 16) (-1 - a) b)) := by rw [h34, Int.add_sub_cancel]
      rw [e]
      refine ih _ _ hB2 (by omega) (fun v hm => hr v (List.mem_cons_of_mem _ hm)) (fun S' j K' w' hP hB' hd hk => ?_)
      refine hq S' (j + 1) K' w' (((PW_a (PW_n (PW.refl S) (by omega)) (by omega))).trans hP) hB' ?_ hk
      rw [dgo_s]
      have : dstep op fit acc ((a, b) :: K, w, vis) = .inl (K, up w (-1 - a) b, vis) := if_pos ha
      rw [this]
      exact hd
    · repeat' (first | (simp (disch := first | assumption | exact wd_n | exact wd_i | exact wd_r | exact ct_r | exact ct_i | exact stB_0 | exact stB_1 | exact stB_2 | exact stB_3 | exact stB_4 | exact stB_5 | exact ct_2 | exact wd_0 | exact wd_f | omega) only [x168_0, x168_1, x168_4, x168_7, x168_8, x168_11, x168_12, x168_15, x168_16, x168_17, x168_18, x168_21, x168_22, x168_23, x168_26, x168_27, x168_28, x168_31, x168_32, x168_35, x168_36, x168_37, x168_40, x168_41, x168_44, x168_45, x168_46, x168_47, x168_50, x168_51, x168_54, x168_55, x168_56, x168_59, x168_60, x168_63, x168_66, x168_67, x168_70, x168_71, e168, XC_v, XC_s, true_and, and_true, and_self, bq_T, bq_F, yt_s, Bool.false_eq_true, Bool.true_eq_false, mm_cl, mm_1, uN_s, uN_n, uA_s, uA_n, uN_uN, mf_0, mf_1, mf_2, mf_3, mf_4, mf_5, mf_6, mf_7, mf_8, mf_9, mf_10, mf_11, mf_12, mf_13, mf_14, mf_15, mf_16, mf_17, mf_18, mf_19, mf_20, mf_21, mf_22, mf_23, mf_24, mf_25, mf_26, mf_27, mf_28, mf_29, mf_30, mf_31, mf_32, mf_33, mf_34, mf_35, mf_36, mf_37, mf_38, mf_39, mf_40, ms_3, ms_4, ms_5, ms_7, ms_9, ms_10, ms_11, ms_12, ms_14, ms_16, ms_17, ms_18, ms_24, ms_25, ms_29, ms_34, ms_35, ms_38, ma_0, ma_1, ma_2, ma_3, ma_4, ma_5, ma_6, ma_7, ma_8, ma_9, ma_10, ma_11, ma_12, ma_13, ma_14, ma_15, ma_16, ma_17, ma_18, ma_19, ma_20, ma_21, ma_22, mw_0, mw_1, mw_2, mw_3, mw_4, mw_5, mw_6, mw_7, mw_8, mw_9, mw_10, mw_11, mw_12, mw_13, mw_14, mw_15, mw_16, mw_17, mw_18, mw_19, mw_20, mw_21, mw_22, h17']) | (refine bq_t (by omega) ?_) | (refine bq_f (by omega) ?_) | fail)
      have := hq S 0 ((a, b) :: K) w (PW.refl S) hB rfl (Or.inr ⟨a, b, K, rfl, by omega⟩)
      rw [if_neg (by simp)] at this
      exact this
end WL
