/-! the reference lays a tree out as steps -/
def tsz (t : RT) : Int := match t with
  | .num c => if c = 0 then 0 else 1
  | .var _ => 0
  | .add a b => tsz a + tsz b
  | .sub a b => tsz a + tsz b + 2
  | .neg a => tsz a + 2
  | .mulL _ _ => 1
  | .mulR a k => if k = 0 ∨ k = -1 then tsz a + 1 else tsz a + 2
def tdp (t : RT) : Nat := match t with
  | .num _ => 0
  | .var _ => 0
  | .add a b => max (tdp a) (tdp b) + 1
  | .sub a b => max (tdp a) (tdp b) + 1
  | .neg a => tdp a + 1
  | .mulL _ _ => 0
  | .mulR a _ => tdp a + 1
theorem tsz_0 (t : RT) : 0 ≤ tsz t := by
  induction t with
  | num c => unfold tsz; split <;> omega
  | var _ => unfold tsz; omega
  | add a b iha ihb => unfold tsz; omega
  | sub a b iha ihb => unfold tsz; omega
  | neg a _ => unfold tsz; omega
  | mulL _ _ _ => unfold tsz; omega
  | mulR a k ih => unfold tsz; split <;> omega
theorem Nd_dp {A : Nat → Int → Int} : ∀ (t : RT) (i : Int), Nd A t i → (tdp t : Int) ≤ i := by
  intro t
  induction t with
  | num c => intro i h; unfold Nd at h; unfold tdp; omega
  | var c => intro i h; unfold Nd at h; unfold tdp; omega
  | add a b iha ihb =>
    intro i h
    unfold Nd at h
    have h1 := iha _ h.2.2.2.2.2.2.1
    have h2 := ihb _ h.2.2.2.2.2.2.2
    have h3 := h.2.2.2.2.1
    have h4 := h.2.2.2.2.2.1
    show ((max (tdp a) (tdp b) + 1 : Nat) : Int) ≤ i
    omega
  | sub a b iha ihb =>
    intro i h
    unfold Nd at h
    have h1 := iha _ h.2.2.2.2.2.2.1
    have h2 := ihb _ h.2.2.2.2.2.2.2
    have h3 := h.2.2.2.2.1
    have h4 := h.2.2.2.2.2.1
    show ((max (tdp a) (tdp b) + 1 : Nat) : Int) ≤ i
    omega
  | neg a iha =>
    intro i h
    unfold Nd at h
    have h1 := iha _ h.2.2.2.2.2
    have h3 := h.2.2.2.2.1
    show ((tdp a + 1 : Nat) : Int) ≤ i
    omega
  | mulL b e _ => intro i h; unfold Nd at h; unfold tdp; omega
  | mulR a k iha =>
    intro i h
    unfold Nd at h
    have h1 := iha _ h.2.2.2.2.1
    have h3 := h.2.2.2.1
    show ((tdp a + 1 : Nat) : Int) ≤ i
    omega
/-- the steps of t lie from b on -/
def LC (A : Nat → Int → Int) (t : RT) (b : Int) : Prop := match t with
  | .num c => if c = 0 then True else if c = 1 then A 12 b = 2 else A 12 b = 1 ∧ A 13 b = c
  | .var _ => True
  | .add x y => LC A x b ∧ LC A y (b + tsz x)
  | .sub x y => A 12 b = 10 ∧ A 13 b = b + 1 ∧ A 14 b = b + tsz x + 2 ∧ LC A x (b + 1) ∧ A 12 (b + 1 + tsz x) = 11 ∧ A 13 (b + 1 + tsz x) = b + tsz x + 2 + tsz y ∧ LC A y (b + tsz x + 2)
  | .neg x => A 12 b = 10 ∧ A 13 b = b + 1 ∧ A 14 b = b + tsz x + 2 ∧ LC A x (b + 1) ∧ A 12 (b + 1 + tsz x) = 11 ∧ A 13 (b + 1 + tsz x) = b
  | .mulL x e => A 12 b = 3 ∧ A 13 b = x ∧ A 14 b = tn e
  | .mulR x k => if k = 0 then LC A x b ∧ A 12 (b + tsz x) = 10 ∧ A 13 (b + tsz x) = b ∧ A 14 (b + tsz x) = b + tsz x + 1
    else if k = -1 then A 12 b = 10 ∧ A 13 b = b + 1 ∧ A 14 b = b + tsz x + 1 ∧ LC A x (b + 1)
    else A 12 b = 12 ∧ A 13 b = 2 * k - 2 ∧ LC A x (b + 1) ∧ A 12 (b + 1 + tsz x) = 12 ∧ A 13 (b + 1 + tsz x) = 2 * k - 1
theorem LC_fr {A B : Nat → Int → Int} : ∀ (t : RT) (b : Int), (∀ j, 12 ≤ j → j ≤ 14 → ∀ i, b ≤ i → i < b + tsz t → B j i = A j i) → LC A t b → LC B t b := by
  intro t
  induction t with
  | num c =>
    intro b h hL
    unfold LC at hL ⊢
    split
    · trivial
    · rename_i hc
      rw [if_neg hc] at hL
      have e : tsz (.num c) = 1 := if_neg hc
      rw [h 12 (by omega) (by omega) b (by omega) (by omega), h 13 (by omega) (by omega) b (by omega) (by omega)]
      exact hL
  | var c => intro b h hL; trivial
  | add x y ihx ihy =>
    intro b h hL
    have e : tsz (.add x y) = tsz x + tsz y := rfl
    have h1 := tsz_0 x
    have h2 := tsz_0 y
    unfold LC at hL ⊢
    exact ⟨ihx b (fun j a a' i a1 a2 => h j a a' i a1 (by omega)) hL.1, ihy _ (fun j a a' i a1 a2 => h j a a' i (by omega) (by omega)) hL.2⟩
  | sub x y ihx ihy =>
    intro b h hL
    have e : tsz (.sub x y) = tsz x + tsz y + 2 := rfl
    have h1 := tsz_0 x
    have h2 := tsz_0 y
    unfold LC at hL ⊢
    obtain ⟨l1, l2, l3, l4, l5, l6, l7⟩ := hL
    rw [h 12 (by omega) (by omega) b (by omega) (by omega), h 13 (by omega) (by omega) b (by omega) (by omega), h 14 (by omega) (by omega) b (by omega) (by omega), h 12 (by omega) (by omega) (b + 1 + tsz x) (by omega) (by omega), h 13 (by omega) (by omega) (b + 1 + tsz x) (by omega) (by omega)]
    exact ⟨l1, l2, l3, ihx _ (fun j a a' i a1 a2 => h j a a' i (by omega) (by omega)) l4, l5, l6, ihy _ (fun j a a' i a1 a2 => h j a a' i (by omega) (by omega)) l7⟩
  | neg x ihx =>
    intro b h hL
    have e : tsz (.neg x) = tsz x + 2 := rfl
    have h1 := tsz_0 x
    unfold LC at hL ⊢
    obtain ⟨l1, l2, l3, l4, l5, l6⟩ := hL
    rw [h 12 (by omega) (by omega) b (by omega) (by omega), h 13 (by omega) (by omega) b (by omega) (by omega), h 14 (by omega) (by omega) b (by omega) (by omega), h 12 (by omega) (by omega) (b + 1 + tsz x) (by omega) (by omega), h 13 (by omega) (by omega) (b + 1 + tsz x) (by omega) (by omega)]
    exact ⟨l1, l2, l3, ihx _ (fun j a a' i a1 a2 => h j a a' i (by omega) (by omega)) l4, l5, l6⟩
  | mulL x e _ =>
    intro b h hL
    have e1 : ∀ q r, tsz (.mulL q r) = 1 := fun _ _ => rfl
    rw [e1] at h
    unfold LC at hL ⊢
    rw [h 12 (by omega) (by omega) b (by omega) (by omega), h 13 (by omega) (by omega) b (by omega) (by omega), h 14 (by omega) (by omega) b (by omega) (by omega)]
    exact hL
  | mulR x k ihx =>
    intro b h hL
    have h1 := tsz_0 x
    unfold LC at hL ⊢
    by_cases hk : k = 0
    · have e : tsz (.mulR x k) = tsz x + 1 := if_pos (Or.inl hk)
      rw [if_pos hk] at hL ⊢
      obtain ⟨l1, l2, l3, l4⟩ := hL
      rw [h 12 (by omega) (by omega) (b + tsz x) (by omega) (by omega), h 13 (by omega) (by omega) (b + tsz x) (by omega) (by omega), h 14 (by omega) (by omega) (b + tsz x) (by omega) (by omega)]
      exact ⟨ihx _ (fun j a a' i a1 a2 => h j a a' i (by omega) (by omega)) l1, l2, l3, l4⟩
    rw [if_neg hk] at hL ⊢
    by_cases hk2 : k = -1
    · have e : tsz (.mulR x k) = tsz x + 1 := if_pos (Or.inr hk2)
      rw [if_pos hk2] at hL ⊢
      obtain ⟨l1, l2, l3, l4⟩ := hL
      rw [h 12 (by omega) (by omega) b (by omega) (by omega), h 13 (by omega) (by omega) b (by omega) (by omega), h 14 (by omega) (by omega) b (by omega) (by omega)]
      exact ⟨l1, l2, l3, ihx _ (fun j a a' i a1 a2 => h j a a' i (by omega) (by omega)) l4⟩
    · have e : tsz (.mulR x k) = tsz x + 2 := if_neg (by omega)
      rw [if_neg hk2] at hL ⊢
      obtain ⟨l1, l2, l3, l4, l5⟩ := hL
      rw [h 12 (by omega) (by omega) b (by omega) (by omega), h 13 (by omega) (by omega) b (by omega) (by omega), h 12 (by omega) (by omega) (b + 1 + tsz x) (by omega) (by omega), h 13 (by omega) (by omega) (b + 1 + tsz x) (by omega) (by omega)]
      exact ⟨l1, l2, ihx _ (fun j a a' i a1 a2 => h j a a' i (by omega) (by omega)) l3, l4, l5⟩
def lys (S : MS) (k a b : Int) : MS := (uN S.1 29 (S.1 29 + 1), uA (uA (uA S.2 12 (up (S.2 12) (S.1 29) k)) 13 (up (S.2 13) (S.1 29) a)) 14 (up (S.2 14) (S.1 29) b))
section LAY
variable {X : JX} {M0 : JM} {m d : Nat} {S : MS} {Q : JR → JM → Prop}
theorem m_lays {k a b : Int} (h : 0 ≤ S.1 29 ∧ S.1 29 < 200) : CC X d 161 [.ref m, .int (ii k), .int (ii a), .int (ii b)] (mm M0 m S) Q = Q (.inl (some (.int (ii (S.1 29))))) (mm M0 m (lys S k a b)) := by
  refine CC_eq ?_ Q
  repeat' (first | (simp (disch := first | assumption | exact wd_n | exact wd_i | exact wd_r | exact ct_r | exact ct_i | exact stB_0 | exact stB_1 | exact stB_2 | exact stB_3 | exact stB_4 | exact stB_5 | exact ct_2 | exact wd_0 | exact wd_f | omega) only [x161_0, x161_1, x161_4, x161_5, x161_8, x161_9, x161_10, x161_11, x161_14, x161_15, x161_18, x161_19, x161_20, x161_21, x161_24, x161_25, x161_28, x161_29, x161_30, x161_31, x161_32, x161_35, x161_36, x161_37, x161_40, x161_41, x161_44, x161_45, x161_46, e161, XC_v, XC_s, true_and, and_true, and_self, bq_T, bq_F, yt_s, Bool.false_eq_true, Bool.true_eq_false, mm_cl, mm_1, uN_s, uN_n, uA_s, uA_n, uN_uN, mf_0, mf_1, mf_2, mf_3, mf_4, mf_5, mf_6, mf_7, mf_8, mf_9, mf_10, mf_11, mf_12, mf_13, mf_14, mf_15, mf_16, mf_17, mf_18, mf_19, mf_20, mf_21, mf_22, mf_23, mf_24, mf_25, mf_26, mf_27, mf_28, mf_29, mf_30, mf_31, mf_32, mf_33, mf_34, mf_35, mf_36, mf_37, mf_38, mf_39, mf_40, ms_3, ms_4, ms_5, ms_7, ms_9, ms_10, ms_11, ms_12, ms_14, ms_16, ms_17, ms_18, ms_24, ms_25, ms_29, ms_34, ms_35, ms_38, ma_0, ma_1, ma_2, ma_3, ma_4, ma_5, ma_6, ma_7, ma_8, ma_9, ma_10, ma_11, ma_12, ma_13, ma_14, ma_15, ma_16, ma_17, ma_18, ma_19, ma_20, ma_21, ma_22, mw_0, mw_1, mw_2, mw_3, mw_4, mw_5, mw_6, mw_7, mw_8, mw_9, mw_10, mw_11, mw_12, mw_13, mw_14, mw_15, mw_16, mw_17, mw_18, mw_19, mw_20, mw_21, mw_22, Int.add_sub_cancel]) | (refine bq_t (by omega) ?_) | (refine bq_f (by omega) ?_) | (refine bq_i (fun h => ?_) (fun h => ?_)) | fail)
  rfl
/-- what laying leaves alone -/
def PL (S S' : MS) : Prop := (∀ k, k ≠ 29 → S'.1 k = S.1 k) ∧ (∀ j, j < 12 ∨ 14 < j → S'.2 j = S.2 j) ∧ S.1 29 ≤ S'.1 29 ∧ (∀ j, 12 ≤ j → j ≤ 14 → ∀ i, 0 ≤ i → i < S.1 29 → S'.2 j i = S.2 j i)
theorem PL.refl (S : MS) : PL S S := ⟨fun _ _ => rfl, fun _ _ => rfl, Int.le_refl _, fun _ _ _ _ _ _ => rfl⟩
theorem PL.trans {A B C : MS} (h : PL A B) (h' : PL B C) : PL A C := by
  refine ⟨fun k a => (h'.1 k a).trans (h.1 k a), fun j a => (h'.2.1 j a).trans (h.2.1 j a), Int.le_trans h.2.2.1 h'.2.2.1, fun j a b i c d => ?_⟩
  have := h.2.2.1
  exact (h'.2.2.2 j a b i c (by omega)).trans (h.2.2.2 j a b i c d)
theorem lys_29 {k a b : Int} : (lys S k a b).1 29 = S.1 29 + 1 := by
  show uN S.1 29 _ 29 = _
  exact uN_s
theorem PL_lys {k a b : Int} : PL S (lys S k a b) := by
  refine ⟨fun j c => uN_n c, fun j c => ?_, ?_, fun j c c' i h1 h2 => ?_⟩
  · show uA _ _ _ _ = _
    rw [uA_n (by omega), uA_n (by omega), uA_n (by omega)]
  · rw [lys_29]; omega
  · unfold lys
    simp only [uA]
    have hj : j = 12 ∨ j = 13 ∨ j = 14 := by omega
    rcases hj with rfl | rfl | rfl <;> simp only [Nat.reduceEqDiff, if_true, if_false, reduceIte] <;> exact up_n (by omega)
theorem lys_r {k a b : Int} : (lys S k a b).2 12 (S.1 29) = k ∧ (lys S k a b).2 13 (S.1 29) = a ∧ (lys S k a b).2 14 (S.1 29) = b := by
  unfold lys
  simp only [uA, Nat.reduceEqDiff, if_true, if_false, reduceIte]
  exact ⟨up_s, up_s, up_s⟩
end LAY
