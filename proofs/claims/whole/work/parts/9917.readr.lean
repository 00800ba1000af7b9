/-! the class's reader: what it answers -/
def rdR (c : Int → Int) (n : Int) (r : Int ⊕ (Int × RT)) : Prop := match r with
  | .inl e => stuck c n 0 P0 e ∧ 0 ≤ e
  | .inr (g, t) => ∃ P' alt u, reach c 0 P0 n P' ∧ LSt P' alt u ∧ mk alt u = t ∧ tsh u ≤ 1000000 ∧ P'.2.2.2.2.2 = 0 ∧ P'.1 10 = 0 ∧ P'.1 14 = g ∧ cur P' 2 = 0
section RDR
variable {X : JX} {d : Nat} {M : JM} {s r : Nat} {P P' : RS} {Q : JR → JM → Prop} {n e : Int} {c : Int → Int}
theorem RI_0 : RI P0 0 := by
  refine ⟨⟨Int.le_refl _, by show (0 : Int) ≤ 62; omega, rfl, rfl, fun i h0 h1 => ?_⟩, by show (0 : Int) ≤ 2 * 0; omega, by omega, by omega, by show 0 < 1; omega, rfl, by show 1 ≤ 6; omega, fun i h0 h1 => ?_, fun j hj => ?_, by show -(0 : Int) ≤ 0; omega, Int.le_refl _, Int.le_refl _, by show (0 : Int) ≤ 3; omega, Or.inr rfl, Int.le_refl _, Int.le_refl _, fun j h0 h1 => ?_⟩
  · have : i < 0 := h1
    omega
  · have : i < 1 := h1
    omega
  · have a0 : ∀ k, k ≠ 2 → k ≠ 3 → k ≠ 10 → P0.2.2.1 j k = 0 := fun k h1 h2 h3 => (if_neg h1).trans ((if_neg h2).trans (if_neg h3))
    have a1 : P0.2.2.1 j 2 = 0 := rfl
    have a2 : P0.2.2.1 j 3 = 0 := rfl
    have a3 : P0.2.2.1 j 10 = 1000000 := rfl
    have a4 : P0.1 4 = 0 := rfl
    have b4 := a0 4 (by omega) (by omega) (by omega)
    have b5 := a0 5 (by omega) (by omega) (by omega)
    have b6 := a0 6 (by omega) (by omega) (by omega)
    have b7 := a0 7 (by omega) (by omega) (by omega)
    have b8 := a0 8 (by omega) (by omega) (by omega)
    have b9 := a0 9 (by omega) (by omega) (by omega)
    have b11 := a0 11 (by omega) (by omega) (by omega)
    unfold LvP LvR
    omega
  · have : j < 1 := h1
    omega
theorem LSt_0 : LSt P0 none (.num 0) := ⟨rfl, ⟨rfl, rfl, rfl⟩, Or.inl rfl, rfl, rfl, rfl, fun x y h => by cases h⟩
theorem PS_rd (hc : ∀ k, 0 ≤ k → k < n → 0 ≤ c k ∧ c k ≤ 65535) (hn : 0 ≤ n ∧ n ≤ 30) : rdR c n (PS c n) := by
  have h := (B_all hc hn.2 130).1 P0 (.num 0) 0 LSt_0 rfl RI_0 hn.1 (by omega) (Int.le_refl _)
  have hR := PZ_rg (c := c) (n := n) 130 0 (.num 0) 0 0 (by omega) hn.1 (by omega) (by omega) (by omega)
  have e14 : P0.1 14 = 0 := rfl
  rw [e14] at h
  unfold PS
  cases hz : PZ c n 130 0 (.num 0) 0 0 with
  | inl e =>
    rw [hz] at h hR
    exact ⟨h, hR.1⟩
  | inr q =>
    obtain ⟨a, g, t⟩ := q
    rw [hz] at h hR
    obtain ⟨R1, R2, _⟩ := hR
    obtain ⟨P', alt, u, r1, l1, m1, s1, n1, it1, b1, f1, g1⟩ := h
    have hlv : P'.2.2.2.2.2 = 0 := f1.1
    have hI := RI_reach hc hn.2 RI_0 r1 R2
    simp only
    by_cases ha : a < n
    · rw [if_pos ha]
      exact ⟨⟨P', r1, R2, fun _ => rej l1.1 hI n1 it1 b1 (Or.inr hlv) ha, fun h => by omega⟩, R1⟩
    · rw [if_neg ha]
      have ea : a = n := by omega
      rw [ea] at r1
      exact ⟨P', alt, u, r1, l1, m1, s1, hlv, f1.2.2.2.2.2.2, g1, f1.2.2.2.2.2.1⟩
theorem stuck_eq {P' : RS} {a : Int} (h : stuck c n 0 P0 e) (ha : 0 ≤ a ∧ a ≤ n) (hr : rds c (a - 0).toNat 0 P0 = some P') (hx : a < n → acc P' (c a) a = none) : a = e ∧ ∃ P2, reach c 0 P0 e P2 ∧ P2 = P' ∧ (e = n → P2.1 11 ≠ 0 ∨ 0 < P2.1 10) := by
  obtain ⟨P2, r2, e2, x2, y2⟩ := h
  obtain ⟨r3, r4⟩ := r2
  rcases (by omega : a < e ∨ a = e ∨ e < a) with h | h | h
  · have q := rds_add _ (e - a).toNat _ _ _ hr
    rw [show (a - 0).toNat + (e - a).toNat = (e - 0).toNat by omega, r4, show (0 : Int) + ((a - 0).toNat : Int) = a by omega, show (e - a).toNat = ((e - a).toNat - 1) + 1 by omega, rds_s, hx (by omega)] at q
    cases q
  · subst h
    rw [r4] at hr
    injection hr with hr
    exact ⟨rfl, P2, ⟨r3, r4⟩, hr, y2⟩
  · have q := rds_add _ (a - e).toNat _ _ _ r4
    rw [show (e - 0).toNat + (a - e).toNat = (a - 0).toNat by omega, hr, show (0 : Int) + ((e - 0).toNat : Int) = e by omega, show (a - e).toNat = ((a - e).toNat - 1) + 1 by omega, rds_s, x2 (by omega)] at q
    cases q
theorem rd_10 {a : Int} (hr : rds c (a - 0).toNat 0 P0 = some P') : P'.1 10 = opn c a := by
  have h := rds_10 _ _ _ _ hr
  have e0 : P0.1 10 = 0 := rfl
  rw [e0] at h
  unfold opn
  rw [h, Int.zero_add, show (a - 0).toNat = a.toNat by omega]
  exact sm_ext (fun k _ _ => by rw [Int.zero_add])
theorem fin_ok {alt : Option RT} {u t : RT} {g : Int} (hn : 0 ≤ n ∧ n ≤ 30) (hc : ∀ k, 0 ≤ k → k < n → 0 ≤ c k ∧ c k ≤ 65535) (hI : RI P n) (hL : LSt P alt u) (hm : mk alt u = t) (hu : tsh u ≤ 1000000) (h0 : P.2.2.2.2.2 = 0) (h2 : cur P 2 = 0) (hg : P.1 14 = g) (hP : PS c n = .inr (g, t)) : ∃ c', PTO (pm M s r (fin P n c)) (r + 1) n c' g t ∧ (∀ j, 0 ≤ j → j < n → c' j = c j) := by
  obtain ⟨hS, i1, i2, i3, i4, i5, i6, i7, i8, i9, i10, i11, i12, i13, i14⟩ := hI
  obtain ⟨b1, b2, b3, b4, b5, b6, b7⟩ := hL
  have hz : P.1 4 = tsz t := by
    rw [← hm]
    cases alt with
    | none =>
      obtain ⟨g1, g2, g3⟩ := b2
      show _ = tsz u
      omega
    | some w =>
      obtain ⟨g1, g2, g3, g4⟩ := b2
      have : tsz (mk (some w) u) = tsz w + tsz u + 2 := rfl
      omega
  have s0 := tsz_0 t
  have s1 := tsz_0 u
  obtain ⟨e10, e11⟩ := ALt_enb b2 b5 b6 hu (P.1 4)
  rw [hm] at e10 e11
  have hF3 : StR (rsF (rsC P (enb (cur P) (P.1 4))) (lnd (P.2.1 4) (P.2.1 6) (cur P 2) (P.1 4))) := StR_F (P := P) hS (by omega)
  obtain ⟨d1, d2, d3, d4⟩ := sameU_A (P' := rsA (rsF (rsC P (enb (cur P) (P.1 4))) (lnd (P.2.1 4) (P.2.1 6) (cur P 2) (P.1 4))) 8 0 0) (k := 8) (f := 0) (s := 0) hF3 rfl
  generalize hP4 : rsA (rsF (rsC P (enb (cur P) (P.1 4))) (lnd (P.2.1 4) (P.2.1 6) (cur P 2) (P.1 4))) 8 0 0 = P4 at d1 d2 d3 d4
  have d1 : sameU (rsF (rsC P (enb (cur P) (P.1 4))) (lnd (P.2.1 4) (P.2.1 6) (cur P 2) (P.1 4))) P4 (P.1 4) := d1
  have d2 : P4.2.1 4 (P.1 4) = 8 := d2
  have k4 : (rsF (rsC P (enb (cur P) (P.1 4))) (lnd (P.2.1 4) (P.2.1 6) (cur P 2) (P.1 4))).2.1 4 = P.2.1 4 := by unfold rsF rsC rsL; simp (disch := omega) only [uN_s, uN_n, uA_s, uA_n, up_s, up_n, uN_uN, uA_uA]
  have k6 : (rsF (rsC P (enb (cur P) (P.1 4))) (lnd (P.2.1 4) (P.2.1 6) (cur P 2) (P.1 4))).2.1 6 = lnd (P.2.1 4) (P.2.1 6) (cur P 2) (P.1 4) := by unfold rsF rsC rsL; simp (disch := omega) only [uN_s, uN_n, uA_s, uA_n, up_s, up_n, uN_uN, uA_uA]
  have k8 : (rsF (rsC P (enb (cur P) (P.1 4))) (lnd (P.2.1 4) (P.2.1 6) (cur P 2) (P.1 4))).2.1 8 = P.2.1 8 := by unfold rsF rsC rsL; simp (disch := omega) only [uN_s, uN_n, uA_s, uA_n, up_s, up_n, uN_uN, uA_uA]
  have lt : LKn (rsF (rsC P (enb (cur P) (P.1 4))) (lnd (P.2.1 4) (P.2.1 6) (cur P 2) (P.1 4))) (mk alt u) (cur P 2) := by
    unfold LKn
    rw [k4, k6, k8]
    cases alt with
    | none =>
      obtain ⟨g1, g2, g3⟩ := b2
      have := LK_keep (F := cur P 2) (e := P.1 4) b3
      rw [g1] at this
      exact this
    | some w =>
      obtain ⟨g1, g2, g3, g4⟩ := b2
      have q1 := LK_land (F := cur P 2) (e := P.1 4) w (cur P 2) g1 (Int.le_refl _) (by omega)
      have q2 := LK_keep (F := cur P 2) (e := P.1 4) b3
      refine ⟨?_, ?_⟩
      · rw [show (fun j z => j + z = cur P 2 + tsz w + 2 + tsz u) = land (P.1 4) by unfold land; rw [show P.1 4 = cur P 2 + tsz w + 2 + tsz u by omega]]
        exact q1
      · rw [show cur P 2 + tsz w + 2 = cur P 3 by omega]
        exact q2
  rw [hm] at lt
  have lt' : LKn P4 t (cur P 2) := LKn_fr lt (by omega) (fun i q1 q2 => d1 i q1 (by omega))
  rw [h2] at lt'
  have e4 : P4.1 4 = P.1 4 + 1 := by rw [← hP4]; unfold rsA rsF rsC rsL; simp (disch := omega) only [uN_s, uN_n, uA_s, uA_n, up_s, up_n, uN_uN, uA_uA]
  have e6 : P4.1 6 = P.1 6 + 1 := by rw [← hP4]; unfold rsA rsF rsC rsL; simp (disch := omega) only [uN_s, uN_n, uA_s, uA_n, up_s, up_n, uN_uN, uA_uA]
  have e8 : P4.1 8 = P.1 8 + 1 := by rw [← hP4]; unfold rsA rsF rsC rsL; simp (disch := omega) only [uN_s, uN_n, uA_s, uA_n, up_s, up_n, uN_uN, uA_uA]
  have e14 : P4.1 14 = P.1 14 := by rw [← hP4]; unfold rsA rsF rsC rsL; simp (disch := omega) only [uN_s, uN_n, uA_s, uA_n, up_s, up_n, uN_uN, uA_uA]
  have ef : fin P n c = (uN (uN (uN P4.1 15 (enb (cur P) (P.1 4) 10)) 16 (enb (cur P) (P.1 4) 11)) 2 n, uA P4.2.1 2 (apn (P4.2.1 2) 0 c 0 n), P4.2.2) := by
    unfold fin
    rw [hP4]
    rfl
  have hm2 := PS_mu hn (by omega) MuOk_tsz hP
  have hm3 := PS_mu hn (by omega) MuOk_tfk hP
  have z6 := hS.2.2.1
  have z8 := hS.2.2.2.1
  rw [ef]
  generalize hPf : (uN (uN (uN P4.1 15 (enb (cur P) (P.1 4) 10)) 16 (enb (cur P) (P.1 4) 11)) 2 n, uA P4.2.1 2 (apn (P4.2.1 2) 0 c 0 n), P4.2.2) = Pf
  have f2 : Pf.1 2 = n := by rw [← hPf]; simp (disch := omega) only [uN_s, uN_n, uA_s, uA_n, up_s, up_n, uN_uN, uA_uA]
  have f4 : Pf.1 4 = tsz t + 1 := by rw [← hPf, ← hz, ← e4]; simp (disch := omega) only [uN_s, uN_n, uA_s, uA_n, up_s, up_n, uN_uN, uA_uA]
  have f6 : Pf.1 6 = tsz t + 1 := by rw [← hPf]; simp (disch := omega) only [uN_s, uN_n, uA_s, uA_n, up_s, up_n, uN_uN, uA_uA]; omega
  have f8 : Pf.1 8 = tsz t + 1 := by rw [← hPf]; simp (disch := omega) only [uN_s, uN_n, uA_s, uA_n, up_s, up_n, uN_uN, uA_uA]; omega
  have f14 : Pf.1 14 = g := by rw [← hPf, ← hg, ← e14]; simp (disch := omega) only [uN_s, uN_n, uA_s, uA_n, up_s, up_n, uN_uN, uA_uA]
  have f15 : Pf.1 15 = tsh t := by rw [← hPf, ← e10]; simp (disch := omega) only [uN_s, uN_n, uA_s, uA_n, up_s, up_n, uN_uN, uA_uA]
  have f16 : Pf.1 16 = tlo t := by rw [← hPf, ← e11]; simp (disch := omega) only [uN_s, uN_n, uA_s, uA_n, up_s, up_n, uN_uN, uA_uA]
  have g4 : Pf.2.1 4 = P4.2.1 4 := by rw [← hPf]; simp (disch := omega) only [uN_s, uN_n, uA_s, uA_n, up_s, up_n, uN_uN, uA_uA]
  have g6 : Pf.2.1 6 = P4.2.1 6 := by rw [← hPf]; simp (disch := omega) only [uN_s, uN_n, uA_s, uA_n, up_s, up_n, uN_uN, uA_uA]
  have g8 : Pf.2.1 8 = P4.2.1 8 := by rw [← hPf]; simp (disch := omega) only [uN_s, uN_n, uA_s, uA_n, up_s, up_n, uN_uN, uA_uA]
  have g2 : Pf.2.1 2 = apn (P4.2.1 2) 0 c 0 n := by rw [← hPf]; simp (disch := omega) only [uN_s, uN_n, uA_s, uA_n, up_s, up_n, uN_uN, uA_uA]
  have hag : ∀ j, 0 ≤ j → j < n → Pf.2.1 2 j = c j := by
    intro j h0 h1
    rw [g2]
    unfold apn
    rw [if_pos (by omega), show 0 + (j - 0) = j by omega]
  refine ⟨Pf.2.1 2, ⟨Pf.2.1 4, Pf.2.1 6, Pf.2.1 8, ⟨?_, ?_, ?_, ?_, ?_⟩, ?_, ?_, PS_TW hn.1 hP, by omega, by omega, hn, fun j h0 h1 => by rw [hag j h0 h1]; exact hc j h0 h1⟩, hag⟩
  · rw [← f14, ← f15, ← f16]
    exact pm_at (j := 1) (by decide) rfl
  · have := pr_2 (M := M) (s := s) (r := r) (P := Pf) (by omega)
    rw [f2] at this
    exact this
  · have := pr_4 (M := M) (s := s) (r := r) (P := Pf) (by omega)
    rw [f4] at this
    exact this
  · have := pr_6 (M := M) (s := s) (r := r) (P := Pf) (by omega)
    rw [f6] at this
    exact this
  · have := pr_8 (M := M) (s := s) (r := r) (P := Pf) (by omega)
    rw [f8] at this
    exact this
  · rw [g4, g6, g8]
    exact lt'
  · rw [g4, ← hz]
    exact d2
theorem p_read (hR : RW M s 30 n c) (hs : s + 1 < r) (hc : ∀ k, 0 ≤ k → k < n → 0 ≤ c k ∧ c k ≤ 65535) (hd : 9 ≤ d) (q1 : ∀ e P', PS c n = .inl e → 0 ≤ e ∧ e ≤ n → P'.1 10 = opn c e → P'.2.2.2.2.1 ≤ 6 → Q (rt e) (pm M s r P')) (q2 : ∀ g t P' c', PS c n = .inr (g, t) → PTO (pm M s r P') (r + 1) n c' g t → (∀ j, 0 ≤ j → j < n → c' j = c j) → P'.2.2.2.2.1 ≤ 6 → Q (rt (-1)) (pm M s r P')) : CC X d 46 [.ref r] (pm M s r P0) Q := by
  have hn : 0 ≤ n ∧ n ≤ 30 := ⟨hR.2.2.2.1, hR.2.2.2.2⟩
  have h := PS_rd hc hn
  repeat' (first | (simp (disch := first | assumption | exact wd_n | exact wd_i | exact wd_r | exact ct_r | exact ct_i | exact stB_0 | exact stB_1 | exact stB_2 | exact stB_3 | exact stB_4 | exact stB_5 | exact ct_2 | exact b2i_c _ | exact wd_0 | exact wd_f | omega | ((simp (disch := omega) only [uN_s, uN_n, uA_s, uA_n, up_s, up_n]) <;> omega)) only [x46_0, x46_1, x46_3, x46_3n, x46_4, x46_7, x46_10, x46_13, x46_13n, x46_14, x46_14n, x46_15, x46_18, x46_19, x46_22, x46_23, x46_26, x46_26b, x46_29, x46_30, x46_31, x46_34, x46_37, x46_37n, x46_38, x46_41, x46_41b, x46_44, x46_44n, x46_45, x46_48, x46_51, x46_51n, x46_52, x46_55, x46_58, x46_59, x46_59n, x46_60, x46_63, x46_64, e46, XC_v, XC_s, true_and, and_true, and_self, bq_T, bq_F, yt_s, Bool.false_eq_true, Bool.true_eq_false, rg_0, rg_1, rp_1, mset_1, mset_21, mset_eq, mset_ne, yn_I, ya_I, yw_I, mset_cl, cc_0, cf_0_0, cf_0_1, cf_0_2, cf_0_3, cf_0_4, cf_0_5, cf_0_6, cf_0_7, cf_0_8, cf_0_9, cf_0_10, cf_0_11, cf_0_12, cf_0_13, cf_0_14, cf_0_15, cs_0_4, cs_0_6, cs_0_7, cs_0_8, cc_13, cf_13_0, cf_13_1, cf_13_2, cs_13_1, cs_13_2, cc_47, cf_47_0, cf_47_1, cf_47_2, cc_53, cf_53_0, cf_53_1, cf_53_2, cf_53_3, cf_53_4, cf_53_5, cs_53_3, cs_53_4, cs_53_5, cc_5, cf_5_0, cf_5_1, cf_5_2, cs_5_1, cc_9, cf_9_0, cf_9_1, cf_9_2, cs_9_1, cc_15, cf_15_0, cf_15_1, cf_15_2, cs_15_1, cc_19, cf_19_0, cf_19_1, cf_19_2, cs_19_1, cc_23, cf_23_0, cf_23_1, cf_23_2, cs_23_1, cc_27, cf_27_0, cf_27_1, cf_27_2, cs_27_1, cc_31, cf_31_0, cf_31_1, cf_31_2, cs_31_1, cc_35, cf_35_0, cf_35_1, cf_35_2, cs_35_1, cc_39, cf_39_0, cf_39_1, cf_39_2, cs_39_1, cc_43, cf_43_0, cf_43_1, cf_43_2, cs_43_1, cc_1, cc_3, cc_7, cc_11, cc_49, cc_51, cc_54, cc_56, cc_58, cc_60, cc_62, cc_64, cc_66, cc_68, cc_17, cc_21, cc_25, cc_29, cc_33, cc_37, cc_41, cc_45, c1_size, c1_full, c1_holds, c1_at, c1_put, c1_add, c1_pop, c1_clear, c3_size, c3_full, c3_holds, c3_at, c3_put, c3_add, c3_pop, c3_clear, c7_size, c7_full, c7_holds, c7_at, c7_put, c7_add, c7_pop, c7_clear, c7_ins, c7_cut, c7_copy3, c7_copy66, c49_size, c49_full, c49_holds, c49_at, c49_put, c49_add, c49_pop, c49_clear, c51_size, c51_full, c51_holds, c51_at, c51_put, c51_add, c51_pop, c51_clear, c54_size, c54_full, c54_holds, c54_at, c54_put, c54_add, c54_pop, c54_clear, c54_copy56, c56_size, c56_full, c56_holds, c56_at, c56_put, c56_add, c56_pop, c56_clear, c58_size, c58_full, c58_holds, c58_at, c58_put, c58_add, c58_pop, c58_clear, c60_size, c60_full, c60_holds, c60_at, c60_put, c60_add, c60_pop, c60_clear, c62_size, c62_full, c62_holds, c62_at, c62_put, c62_add, c62_pop, c62_clear, c64_size, c64_full, c64_holds, c64_at, c64_put, c64_add, c64_pop, c64_clear, c66_size, c66_full, c66_holds, c66_at, c66_put, c66_add, c66_pop, c66_clear, c66_part7, c68_size, c68_full, c68_holds, c68_at, c68_put, c68_add, c68_pop, c68_clear, c68_part7, ct_ld, ct_st, ct_ln, ck_ld, ck_ln, cp_ld5, cp_ln5, uN_s, uN_n, uA_s, uA_n, uN_uN, uA_uA, pc_L, pc_0, pf_0_0, pf_0_1, pf_0_2, pf_0_3, pf_0_4, pf_0_5, pf_0_6, ps_0_3, ps_0_4, ps_0_5, ps_0_6, pc_1, pf_1_0, pf_1_1, pf_1_2, pf_1_3, pf_1_4, pf_1_5, pf_1_6, ps_1_4, ps_1_5, ps_1_6, ps_0_2, pl_0, pl_1, pl_2, pl_3, pl_4, pl_5, pl_6, pl_7, pl_8, pl_9, pl_10, pl_11, pl_s3, pl_s4, pl_s5, pl_s6, pl_s7, pl_s8, pl_s9, pl_s10, pl_s11, pc_2, pc_4, p4_size, p4_at, p4_put, p4_add, p4_ins, pc_6, p6_size, p6_at, p6_put, p6_add, p6_ins, pc_8, p8_size, p8_at, p8_put, p8_add, p8_ins, uL_s, uL_n, uL_uL]) | (refine bq_t (by omega) ?_) | (refine bq_f (by omega) ?_) | fail)
  refine p_readL hR hs hc (by omega) n.toNat 0 P0 RI_0 rfl hn.1 (by omega) (fun a P' a0 a1 hr hI ha => ?_) (fun P' hr hI hx => ?_) (fun P' hr hI k2 k11 k10 => ?_)
  · have hI6 := hI.2.2.2.2.2.2.1
    have h10 := rd_10 hr
    cases hp : PS c n with
    | inl e =>
      rw [hp] at h
      obtain ⟨k1, P2, k2, k3, k4⟩ := stuck_eq h.1 ⟨a0, by omega⟩ hr (fun _ => ha)
      rw [← k1] at hp
      exact q1 a P' hp ⟨a0, by omega⟩ h10 hI6
    | inr q =>
      obtain ⟨g, t⟩ := q
      rw [hp] at h
      obtain ⟨P2, alt, u, ⟨r3, r4⟩, _⟩ := h
      have q := rds_add _ (n - a).toNat _ _ _ hr
      rw [show (a - 0).toNat + (n - a).toNat = (n - 0).toNat by omega, r4, show (0 : Int) + ((a - 0).toNat : Int) = a by omega, show (n - a).toNat = ((n - a).toNat - 1) + 1 by omega, rds_s, ha] at q
      cases q
  · have hI6 := hI.2.2.2.2.2.2.1
    have h10 := rd_10 hr
    cases hp : PS c n with
    | inl e =>
      rw [hp] at h
      obtain ⟨k1, P2, k2, k3, k4⟩ := stuck_eq h.1 ⟨hn.1, Int.le_refl _⟩ hr (fun q => by omega)
      rw [← k1] at hp
      exact q1 n P' hp ⟨hn.1, Int.le_refl _⟩ h10 hI6
    | inr q =>
      obtain ⟨g, t⟩ := q
      rw [hp] at h
      obtain ⟨P2, alt, u, ⟨r3, r4⟩, l1, m1, s1, hlv, z10, z14, z2⟩ := h
      rw [hr] at r4
      injection r4 with r4
      subst r4
      have := l1.1
      omega
  · have hI6 := hI.2.2.2.2.2.2.1
    cases hp : PS c n with
    | inl e =>
      rw [hp] at h
      obtain ⟨k1, P2, k2, k3, k4⟩ := stuck_eq h.1 ⟨hn.1, Int.le_refl _⟩ hr (fun q => by omega)
      have k4 := k4 k1.symm
      subst k3
      omega
    | inr q =>
      obtain ⟨g, t⟩ := q
      rw [hp] at h
      obtain ⟨P2, alt, u, ⟨r3, r4⟩, l1, m1, s1, hlv, z10, z14, z2⟩ := h
      rw [hr] at r4
      injection r4 with r4
      subst r4
      obtain ⟨c', hpt, hag⟩ := fin_ok (M := M) (s := s) (r := r) hn hc hI l1 m1 s1 hlv z2 z14 hp
      exact q2 g t _ c' hp hpt hag hI6
theorem p_made : CC X (d + 1) 44 [.ref r] (pm M s r P) Q = Q (.inl (some (.ref (r + 1)))) (pm M s r P) := by
  repeat' (first | (simp (disch := first | assumption | exact wd_n | exact wd_i | exact wd_r | exact ct_r | exact ct_i | exact stB_0 | exact stB_1 | exact stB_2 | exact stB_3 | exact stB_4 | exact stB_5 | exact ct_2 | exact b2i_c _ | exact wd_0 | exact wd_f | omega | ((simp (disch := omega) only [uN_s, uN_n, uA_s, uA_n, up_s, up_n]) <;> omega)) only [x44_0, x44_0n, x44_1, x44_4, x44_4n, e44, XC_v, XC_s, true_and, and_true, and_self, bq_T, bq_F, yt_s, Bool.false_eq_true, Bool.true_eq_false, rg_0, rg_1, rp_1, mset_1, mset_21, mset_eq, mset_ne, yn_I, ya_I, yw_I, mset_cl, cc_0, cf_0_0, cf_0_1, cf_0_2, cf_0_3, cf_0_4, cf_0_5, cf_0_6, cf_0_7, cf_0_8, cf_0_9, cf_0_10, cf_0_11, cf_0_12, cf_0_13, cf_0_14, cf_0_15, cs_0_4, cs_0_6, cs_0_7, cs_0_8, cc_13, cf_13_0, cf_13_1, cf_13_2, cs_13_1, cs_13_2, cc_47, cf_47_0, cf_47_1, cf_47_2, cc_53, cf_53_0, cf_53_1, cf_53_2, cf_53_3, cf_53_4, cf_53_5, cs_53_3, cs_53_4, cs_53_5, cc_5, cf_5_0, cf_5_1, cf_5_2, cs_5_1, cc_9, cf_9_0, cf_9_1, cf_9_2, cs_9_1, cc_15, cf_15_0, cf_15_1, cf_15_2, cs_15_1, cc_19, cf_19_0, cf_19_1, cf_19_2, cs_19_1, cc_23, cf_23_0, cf_23_1, cf_23_2, cs_23_1, cc_27, cf_27_0, cf_27_1, cf_27_2, cs_27_1, cc_31, cf_31_0, cf_31_1, cf_31_2, cs_31_1, cc_35, cf_35_0, cf_35_1, cf_35_2, cs_35_1, cc_39, cf_39_0, cf_39_1, cf_39_2, cs_39_1, cc_43, cf_43_0, cf_43_1, cf_43_2, cs_43_1, cc_1, cc_3, cc_7, cc_11, cc_49, cc_51, cc_54, cc_56, cc_58, cc_60, cc_62, cc_64, cc_66, cc_68, cc_17, cc_21, cc_25, cc_29, cc_33, cc_37, cc_41, cc_45, c1_size, c1_full, c1_holds, c1_at, c1_put, c1_add, c1_pop, c1_clear, c3_size, c3_full, c3_holds, c3_at, c3_put, c3_add, c3_pop, c3_clear, c7_size, c7_full, c7_holds, c7_at, c7_put, c7_add, c7_pop, c7_clear, c7_ins, c7_cut, c7_copy3, c7_copy66, c49_size, c49_full, c49_holds, c49_at, c49_put, c49_add, c49_pop, c49_clear, c51_size, c51_full, c51_holds, c51_at, c51_put, c51_add, c51_pop, c51_clear, c54_size, c54_full, c54_holds, c54_at, c54_put, c54_add, c54_pop, c54_clear, c54_copy56, c56_size, c56_full, c56_holds, c56_at, c56_put, c56_add, c56_pop, c56_clear, c58_size, c58_full, c58_holds, c58_at, c58_put, c58_add, c58_pop, c58_clear, c60_size, c60_full, c60_holds, c60_at, c60_put, c60_add, c60_pop, c60_clear, c62_size, c62_full, c62_holds, c62_at, c62_put, c62_add, c62_pop, c62_clear, c64_size, c64_full, c64_holds, c64_at, c64_put, c64_add, c64_pop, c64_clear, c66_size, c66_full, c66_holds, c66_at, c66_put, c66_add, c66_pop, c66_clear, c66_part7, c68_size, c68_full, c68_holds, c68_at, c68_put, c68_add, c68_pop, c68_clear, c68_part7, ct_ld, ct_st, ct_ln, ck_ld, ck_ln, cp_ld5, cp_ln5, uN_s, uN_n, uA_s, uA_n, uN_uN, uA_uA, pc_L, pc_0, pf_0_0, pf_0_1, pf_0_2, pf_0_3, pf_0_4, pf_0_5, pf_0_6, ps_0_3, ps_0_4, ps_0_5, ps_0_6, pc_1, pf_1_0, pf_1_1, pf_1_2, pf_1_3, pf_1_4, pf_1_5, pf_1_6, ps_1_4, ps_1_5, ps_1_6, ps_0_2, pl_0, pl_1, pl_2, pl_3, pl_4, pl_5, pl_6, pl_7, pl_8, pl_9, pl_10, pl_11, pl_s3, pl_s4, pl_s5, pl_s6, pl_s7, pl_s8, pl_s9, pl_s10, pl_s11, pc_2, pc_4, p4_size, p4_at, p4_put, p4_add, p4_ins, pc_6, p6_size, p6_at, p6_put, p6_add, p6_ins, pc_8, p8_size, p8_at, p8_put, p8_add, p8_ins, uL_s, uL_n, uL_uL]) | (refine bq_t (by omega) ?_) | (refine bq_f (by omega) ?_) | fail)
theorem p_depth : CC X (d + 1) 45 [.ref r] (pm M s r P) Q = Q (rt (P.1 10)) (pm M s r P) := by
  unfold rt
  repeat' (first | (simp (disch := first | assumption | exact wd_n | exact wd_i | exact wd_r | exact ct_r | exact ct_i | exact stB_0 | exact stB_1 | exact stB_2 | exact stB_3 | exact stB_4 | exact stB_5 | exact ct_2 | exact b2i_c _ | exact wd_0 | exact wd_f | omega | ((simp (disch := omega) only [uN_s, uN_n, uA_s, uA_n, up_s, up_n]) <;> omega)) only [x45_0, x45_0n, x45_1, x45_4, e45, XC_v, XC_s, true_and, and_true, and_self, bq_T, bq_F, yt_s, Bool.false_eq_true, Bool.true_eq_false, rg_0, rg_1, rp_1, mset_1, mset_21, mset_eq, mset_ne, yn_I, ya_I, yw_I, mset_cl, cc_0, cf_0_0, cf_0_1, cf_0_2, cf_0_3, cf_0_4, cf_0_5, cf_0_6, cf_0_7, cf_0_8, cf_0_9, cf_0_10, cf_0_11, cf_0_12, cf_0_13, cf_0_14, cf_0_15, cs_0_4, cs_0_6, cs_0_7, cs_0_8, cc_13, cf_13_0, cf_13_1, cf_13_2, cs_13_1, cs_13_2, cc_47, cf_47_0, cf_47_1, cf_47_2, cc_53, cf_53_0, cf_53_1, cf_53_2, cf_53_3, cf_53_4, cf_53_5, cs_53_3, cs_53_4, cs_53_5, cc_5, cf_5_0, cf_5_1, cf_5_2, cs_5_1, cc_9, cf_9_0, cf_9_1, cf_9_2, cs_9_1, cc_15, cf_15_0, cf_15_1, cf_15_2, cs_15_1, cc_19, cf_19_0, cf_19_1, cf_19_2, cs_19_1, cc_23, cf_23_0, cf_23_1, cf_23_2, cs_23_1, cc_27, cf_27_0, cf_27_1, cf_27_2, cs_27_1, cc_31, cf_31_0, cf_31_1, cf_31_2, cs_31_1, cc_35, cf_35_0, cf_35_1, cf_35_2, cs_35_1, cc_39, cf_39_0, cf_39_1, cf_39_2, cs_39_1, cc_43, cf_43_0, cf_43_1, cf_43_2, cs_43_1, cc_1, cc_3, cc_7, cc_11, cc_49, cc_51, cc_54, cc_56, cc_58, cc_60, cc_62, cc_64, cc_66, cc_68, cc_17, cc_21, cc_25, cc_29, cc_33, cc_37, cc_41, cc_45, c1_size, c1_full, c1_holds, c1_at, c1_put, c1_add, c1_pop, c1_clear, c3_size, c3_full, c3_holds, c3_at, c3_put, c3_add, c3_pop, c3_clear, c7_size, c7_full, c7_holds, c7_at, c7_put, c7_add, c7_pop, c7_clear, c7_ins, c7_cut, c7_copy3, c7_copy66, c49_size, c49_full, c49_holds, c49_at, c49_put, c49_add, c49_pop, c49_clear, c51_size, c51_full, c51_holds, c51_at, c51_put, c51_add, c51_pop, c51_clear, c54_size, c54_full, c54_holds, c54_at, c54_put, c54_add, c54_pop, c54_clear, c54_copy56, c56_size, c56_full, c56_holds, c56_at, c56_put, c56_add, c56_pop, c56_clear, c58_size, c58_full, c58_holds, c58_at, c58_put, c58_add, c58_pop, c58_clear, c60_size, c60_full, c60_holds, c60_at, c60_put, c60_add, c60_pop, c60_clear, c62_size, c62_full, c62_holds, c62_at, c62_put, c62_add, c62_pop, c62_clear, c64_size, c64_full, c64_holds, c64_at, c64_put, c64_add, c64_pop, c64_clear, c66_size, c66_full, c66_holds, c66_at, c66_put, c66_add, c66_pop, c66_clear, c66_part7, c68_size, c68_full, c68_holds, c68_at, c68_put, c68_add, c68_pop, c68_clear, c68_part7, ct_ld, ct_st, ct_ln, ck_ld, ck_ln, cp_ld5, cp_ln5, uN_s, uN_n, uA_s, uA_n, uN_uN, uA_uA, pc_L, pc_0, pf_0_0, pf_0_1, pf_0_2, pf_0_3, pf_0_4, pf_0_5, pf_0_6, ps_0_3, ps_0_4, ps_0_5, ps_0_6, pc_1, pf_1_0, pf_1_1, pf_1_2, pf_1_3, pf_1_4, pf_1_5, pf_1_6, ps_1_4, ps_1_5, ps_1_6, ps_0_2, pl_0, pl_1, pl_2, pl_3, pl_4, pl_5, pl_6, pl_7, pl_8, pl_9, pl_10, pl_11, pl_s3, pl_s4, pl_s5, pl_s6, pl_s7, pl_s8, pl_s9, pl_s10, pl_s11, pc_2, pc_4, p4_size, p4_at, p4_put, p4_add, p4_ins, pc_6, p6_size, p6_at, p6_put, p6_add, p6_ins, pc_8, p8_size, p8_at, p8_put, p8_add, p8_ins, uL_s, uL_n, uL_uL]) | (refine bq_t (by omega) ?_) | (refine bq_f (by omega) ?_) | fail)
end RDR
