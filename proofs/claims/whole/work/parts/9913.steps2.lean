/-! the class's reader: an atom repeats, a group closes -/
section STQ
variable {P P' P2 : RS} {p q : Int} {alt alt2 : Option RT} {u w u2 : RT}
theorem rpt_v {v : Nat → Int} (h : v 4 = 1) (m g : Int) : rpt v m g 8 = v 8 + (if m = 0 then v 6 else 0) ∧ rpt v m g 9 = min 1000000 (v 9 + (if g = 0 then v 7 else 1000000)) ∧ rpt v m g 2 = v 2 ∧ rpt v m g 3 = v 3 ∧ rpt v m g 10 = v 10 ∧ rpt v m g 11 = v 11 ∧ rpt v m g 4 = 0 := by
  unfold rpt
  by_cases hm : m = 0 <;> by_cases hg : g = 0
  · rw [if_pos hg, if_pos hm, if_pos hm, if_pos hg, stl_1 h]
    refine ⟨?_, ?_, ?_, ?_, ?_, ?_, ?_⟩ <;> simp (disch := omega) only [uN_s, uN_n, uA_s, uA_n, up_s, up_n, uN_uN, uA_uA]
  · rw [if_neg hg, if_pos hm, if_pos hm, if_neg hg, stl_1 (by simp (disch := omega) only [uN_s, uN_n, uA_s, uA_n, up_s, up_n, uN_uN, uA_uA]; exact h)]
    refine ⟨?_, ?_, ?_, ?_, ?_, ?_, ?_⟩ <;> simp (disch := omega) only [uN_s, uN_n, uA_s, uA_n, up_s, up_n, uN_uN, uA_uA]
  · rw [if_pos hg, if_neg hm, if_neg hm, if_pos hg, stl_1 (by simp (disch := omega) only [uN_s, uN_n, uA_s, uA_n, up_s, up_n, uN_uN, uA_uA]; exact h)]
    refine ⟨?_, ?_, ?_, ?_, ?_, ?_, ?_⟩ <;> simp (disch := omega) only [uN_s, uN_n, uA_s, uA_n, up_s, up_n, uN_uN, uA_uA]
  · rw [if_neg hg, if_neg hm, if_neg hm, if_neg hg, stl_1 (by simp (disch := omega) only [uN_s, uN_n, uA_s, uA_n, up_s, up_n, uN_uN, uA_uA]; exact h)]
    refine ⟨?_, ?_, ?_, ?_, ?_, ?_, ?_⟩ <;> simp (disch := omega) only [uN_s, uN_n, uA_s, uA_n, up_s, up_n, uN_uN, uA_uA]
theorem LK_plus {k f s : Int → Int} {x : RT} {b : Int} (h : LK k f s x none b ∧ k (b + tsz x) = 5 ∧ f (b + tsz x) = -(tsz x) ∧ s (b + tsz x) = 1) : LK k f s (.mulR x 0) none b := by
  unfold LK wrp
  simp only
  rw [if_pos trivial]
  exact h
theorem LK_may {k f s : Int → Int} {x : RT} {b : Int} (h : k b = 5 ∧ f b = 1 ∧ s b = tsz x + 1 ∧ LK k f s x none (b + 1)) : LK k f s (.mulR x (-1)) none b := by
  unfold LK wrp
  simp only
  rw [if_neg (by omega), if_pos trivial]
  exact h
theorem LK_grp {k f s : Int → Int} {x : RT} {b g : Int} (hg : 1 ≤ g) (h : k b = 7 ∧ f b = 2 * g ∧ LK k f s x none (b + 1) ∧ k (b + 1 + tsz x) = 7 ∧ f (b + 1 + tsz x) = 2 * g + 1) : LK k f s (.mulR x g) none b := by
  unfold LK wrp
  simp only
  rw [if_neg (by omega), if_neg (by omega)]
  exact h
theorem rpp_ok (hI : RI P p) (h : ATm P alt u w) : LSt (rpp P) alt (.add u (.mulR w 0)) ∧ Fr (cur P 3) P (rpp P) ∧ cur (rpp P) 4 = 0 ∧ (rpp P).1 14 = P.1 14 := by
  obtain ⟨hS, i1, i2, i3, i4, i5, i6, i7, i8, i9, i10, i11, i12, i13, i14⟩ := hI
  obtain ⟨a1, a2, a3, a4, a5, a6, a7, a8, a9, a10, a11⟩ := h
  have hv := i8 _ i4
  have hv2 : 0 ≤ cur P 2 := hv.2.2.2.1
  have hv3 : cur P 2 ≤ cur P 3 := hv.2.2.2.2.1
  have s0 := tsz_0 u
  have s1 := tsz_0 w
  obtain ⟨b1, b2, b3, b4⟩ := sameU_A (P' := rpp P) (k := 5) (f := cur P 5 - P.1 4) (s := 1) hS rfl
  have ec : cur (rpp P) = rpt (cur P) 0 1 := cur_C
  obtain ⟨v8, v9, v2, v3, v10, v11, v4⟩ := rpt_v a6 0 1
  rw [if_pos rfl] at v8
  rw [if_neg (by omega)] at v9
  rw [← ec] at v4 v8 v9 v2 v3 v10 v11
  have e4 : (rpp P).1 4 = P.1 4 + 1 := by unfold rpp rsC rsL rsA; simp (disch := omega) only [uN_s, uN_n, uA_s, uA_n, up_s, up_n, uN_uN, uA_uA]
  have e : ∀ j, j ≠ 4 → j ≠ 6 → j ≠ 8 → (rpp P).1 j = P.1 j := by
    intro j b1 b2 b3
    unfold rpp rsC rsL rsA
    simp (disch := omega) only [uN_s, uN_n, uA_s, uA_n, up_s, up_n, uN_uN, uA_uA]
  have z : tsz (.add u (.mulR w 0)) = tsz u + (tsz w + 1) := by
    have : tsz (.mulR w 0) = tsz w + 1 := if_pos (Or.inl rfl)
    show tsz u + tsz (.mulR w 0) = _
    omega
  have zs : stl (cur (rpp P)) = cur (rpp P) := stl_0 v4
  have t1 : tsh (.add u (.mulR w 0)) = tsh u + tsh w := rfl
  have t2 : tlo (.add u (.mulR w 0)) = min 1000000 (tlo u + 1000000) := rfl
  refine ⟨⟨(e 11 (by omega) (by omega) (by omega)).trans a1, ALt_fr a2 hv2 v2 v3 v10 v11 (fun i q1 q2 => b1 i q1 (by omega)), ⟨?_, ?_⟩, by omega, by rw [zs]; omega, by rw [zs]; omega, fun x y h => by cases h⟩, ⟨rfl, Nat.le_refl _, fun _ _ => rfl, fun j _ hj => uL_n hj, fun i q1 q2 => b1 i q1 (by omega), v2, e 10 (by omega) (by omega) (by omega)⟩, v4, e 14 (by omega) (by omega) (by omega)⟩
  · rw [v3]
    exact LKn_fr a3 (by omega) (fun i q1 q2 => b1 i q1 (by omega))
  · rw [v3]
    refine LK_plus ⟨LKn_fr a4 (by omega) (fun i q1 q2 => b1 i q1 (by omega)), ?_, ?_, ?_⟩
    · rw [show cur P 3 + tsz u + tsz w = P.1 4 by omega]; exact b2
    · rw [show cur P 3 + tsz u + tsz w = P.1 4 by omega]; rw [b3]; omega
    · rw [show cur P 3 + tsz u + tsz w = P.1 4 by omega]; exact b4
theorem rpq_ok (hI : RI P p) (h : ATm P alt u w) : LSt (rpq P) alt (.add u (.mulR w (-1))) ∧ Fr (cur P 3) P (rpq P) ∧ cur (rpq P) 4 = 0 ∧ (rpq P).1 14 = P.1 14 := by
  obtain ⟨hS, i1, i2, i3, i4, i5, i6, i7, i8, i9, i10, i11, i12, i13, i14⟩ := hI
  obtain ⟨a1, a2, a3, a4, a5, a6, a7, a8, a9, a10, a11⟩ := h
  have hv := i8 _ i4
  have hv2 : 0 ≤ cur P 2 := hv.2.2.2.1
  have hv3 : cur P 2 ≤ cur P 3 := hv.2.2.2.2.1
  have s0 := tsz_0 u
  have s1 := tsz_0 w
  obtain ⟨b1, b2, b3, b4, b5⟩ := sameU_I (P' := rpq P) (b := cur P 5) (k := 5) (f := 1) (s := P.1 4 + 1 - cur P 5) hS rfl
  have ec : cur (rpq P) = rpt (cur P) 1 0 := cur_C
  obtain ⟨v8, v9, v2, v3, v10, v11, v4⟩ := rpt_v a6 1 0
  rw [if_neg (by omega)] at v8
  rw [if_pos rfl] at v9
  rw [← ec] at v4 v8 v9 v2 v3 v10 v11
  have e4 : (rpq P).1 4 = P.1 4 + 1 := by unfold rpq rsC rsL rsI; simp (disch := omega) only [uN_s, uN_n, uA_s, uA_n, up_s, up_n, uN_uN, uA_uA]
  have e : ∀ j, j ≠ 4 → j ≠ 6 → j ≠ 8 → (rpq P).1 j = P.1 j := by
    intro j b1 b2 b3
    unfold rpq rsC rsL rsI
    simp (disch := omega) only [uN_s, uN_n, uA_s, uA_n, up_s, up_n, uN_uN, uA_uA]
  have z : tsz (.add u (.mulR w (-1))) = tsz u + (tsz w + 1) := by
    have : tsz (.mulR w (-1)) = tsz w + 1 := if_pos (Or.inr rfl)
    show tsz u + tsz (.mulR w (-1)) = _
    omega
  have zs : stl (cur (rpq P)) = cur (rpq P) := stl_0 v4
  have t1 : tsh (.add u (.mulR w (-1))) = tsh u + 0 := rfl
  have t2 : tlo (.add u (.mulR w (-1))) = min 1000000 (tlo u + tlo w) := rfl
  refine ⟨⟨(e 11 (by omega) (by omega) (by omega)).trans a1, ALt_fr a2 hv2 v2 v3 v10 v11 (fun i q1 q2 => b1 i q1 (by omega)), ⟨?_, ?_⟩, by omega, by rw [zs]; omega, by rw [zs]; omega, fun x y h => by cases h⟩, ⟨rfl, Nat.le_refl _, fun _ _ => rfl, fun j _ hj => uL_n hj, fun i q1 q2 => b1 i q1 (by omega), v2, e 10 (by omega) (by omega) (by omega)⟩, v4, e 14 (by omega) (by omega) (by omega)⟩
  · rw [v3]
    exact LKn_fr a3 (by omega) (fun i q1 q2 => b1 i q1 (by omega))
  · rw [v3]
    rw [show cur P 3 + tsz u = cur P 5 by omega]
    refine LK_may ⟨b2, b3, by rw [b4]; omega, LK_mv (dl := 1) w none none (cur P 5) (by rw [a7]; exact a4) trivial (fun i q1 q2 => b5 i q1 (by simp only at q2; omega))⟩
theorem rps_ok (hI : RI P p) (h : ATm P alt u w) : LSt (rps P) alt (.add u (.neg w)) ∧ Fr (cur P 3) P (rps P) ∧ cur (rps P) 4 = 0 ∧ (rps P).1 14 = P.1 14 := by
  obtain ⟨hS, i1, i2, i3, i4, i5, i6, i7, i8, i9, i10, i11, i12, i13, i14⟩ := hI
  obtain ⟨a1, a2, a3, a4, a5, a6, a7, a8, a9, a10, a11⟩ := h
  have hv := i8 _ i4
  have hv2 : 0 ≤ cur P 2 := hv.2.2.2.1
  have hv3 : cur P 2 ≤ cur P 3 := hv.2.2.2.2.1
  have s0 := tsz_0 u
  have s1 := tsz_0 w
  obtain ⟨b1, b2, b3, b4, b5⟩ := sameU_I (P' := rsI P (cur P 5) 5 1 (P.1 4 + 2 - cur P 5)) hS rfl
  have hi : StR (rsI P (cur P 5) 5 1 (P.1 4 + 2 - cur P 5)) ∨ 61 < P.1 4 := by
    by_cases hc : P.1 4 ≤ 61
    · exact Or.inl (StR_I hS hc (by omega) (by omega) (by omega) (by have := hS.1; omega)).1
    · exact Or.inr (by omega)
  have c2 : (rsI P (cur P 5) 5 1 (P.1 4 + 2 - cur P 5)).1 4 = P.1 4 + 1 := by unfold rsI; simp (disch := omega) only [uN_s, uN_n, uA_s, uA_n, up_s, up_n, uN_uN, uA_uA]
  rcases hi with c1 | hbad
  case inr => omega
  obtain ⟨d1, d2, d3, d4⟩ := sameU_A (P' := rps P) (k := 6) (f := cur P 5 - P.1 4 - 1) (s := 0) c1 rfl
  rw [c2] at d1 d2 d3
  have ec : cur (rps P) = rpt (cur P) 1 1 := cur_C
  obtain ⟨v8, v9, v2, v3, v10, v11, v4⟩ := rpt_v a6 1 1
  rw [if_neg (by omega)] at v8
  rw [if_neg (by omega)] at v9
  rw [← ec] at v4 v8 v9 v2 v3 v10 v11
  have e4 : (rps P).1 4 = P.1 4 + 1 + 1 := by unfold rps rsC rsL rsA rsI; simp (disch := omega) only [uN_s, uN_n, uA_s, uA_n, up_s, up_n, uN_uN, uA_uA]
  have e : ∀ j, j ≠ 4 → j ≠ 6 → j ≠ 8 → (rps P).1 j = P.1 j := by
    intro j b1 b2 b3
    unfold rps rsC rsL rsA rsI
    simp (disch := omega) only [uN_s, uN_n, uA_s, uA_n, up_s, up_n, uN_uN, uA_uA]
  have same : sameU P (rps P) (cur P 5) := fun i h0 hi => by
    have q1 := b1 i h0 hi
    have q2 := d1 i h0 (by omega)
    exact ⟨q2.1.trans q1.1, q2.2.1.trans q1.2.1, q2.2.2.trans q1.2.2⟩
  have z : tsz (.add u (.neg w)) = tsz u + (tsz w + 2) := rfl
  have zs : stl (cur (rps P)) = cur (rps P) := stl_0 v4
  have t1 : tsh (.add u (.neg w)) = tsh u + 0 := rfl
  have t2 : tlo (.add u (.neg w)) = min 1000000 (tlo u + 1000000) := rfl
  refine ⟨⟨(e 11 (by omega) (by omega) (by omega)).trans a1, ALt_fr a2 hv2 v2 v3 v10 v11 (fun i q1 q2 => same i q1 (by omega)), ⟨?_, ?_⟩, by omega, by rw [zs]; omega, by rw [zs]; omega, fun x y h => by cases h⟩, ⟨rfl, Nat.le_refl _, fun _ _ => rfl, fun j _ hj => uL_n hj, fun i q1 q2 => same i q1 (by omega), v2, e 10 (by omega) (by omega) (by omega)⟩, v4, e 14 (by omega) (by omega) (by omega)⟩
  · rw [v3]
    exact LKn_fr a3 (by omega) (fun i q1 q2 => same i q1 (by omega))
  · rw [v3, show cur P 3 + tsz u = cur P 5 by omega]
    have f0 := d1 (cur P 5) (by omega) (by omega)
    refine ⟨f0.1.trans b2, f0.2.1.trans b3, by rw [f0.2.2, b4]; omega, LK_mv (dl := 1) w none none (cur P 5) (by rw [a7]; exact a4) trivial (fun i q1 q2 => ?_), ?_, ?_⟩
    · simp only at q2
      have g1 := b5 i q1 (by omega)
      have g2 := d1 (i + 1) (by omega) (by omega)
      exact ⟨g2.1.trans g1.1, g2.2.1.trans g1.2.1, g2.2.2.trans g1.2.2⟩
    · rw [show cur P 5 + 1 + tsz w = P.1 4 + 1 by omega]; exact d2
    · rw [show cur P 5 + 1 + tsz w = P.1 4 + 1 by omega, d3]; omega
theorem clg_ok (hI : RI P p) (h : LSt P alt u) (hI2 : RI P2 q) (h2 : LSt P2 alt2 u2) (hf : Fr (cur (opg P) 2) (opg P) P2) (hu : tsh u2 ≤ 1000000) : ATm (clg P2) alt u (.mulR (mk alt2 u2) (P.1 14 + 1)) ∧ Fr (P.1 4) P (clg P2) ∧ (clg P2).1 14 = P2.1 14 ∧ P2.2.2.2.2.2 ≠ 0 := by
  have hO := opg_ok hI h.1
  obtain ⟨hS, i1, i2, i3, i4, i5, i6, i7, i8, i9, i10, i11, i12, i13, i14⟩ := hI
  obtain ⟨hS2, j1, j2, j3, j4, j5, j6, j7, j8, j9, j10, j11, j12, j13, j14⟩ := hI2
  obtain ⟨a1, a2, a3, a4, a5, a6, a7⟩ := h
  obtain ⟨b1, b2, b3, b4, b5, b6, b7⟩ := h2
  obtain ⟨_, o2, o3, o4, _, o6, o7, o8, o9⟩ := hO
  obtain ⟨f1, f2, f3, f4, f5, f6, f7⟩ := hf
  have hv := i8 _ i4
  have hv2 : 0 ≤ cur P 2 := hv.2.2.2.1
  have hv3 : cur P 2 ≤ cur P 3 := hv.2.2.2.2.1
  have hw := j8 _ j4
  have s0 := tsz_0 u
  have s1 := tsz_0 u2
  have ecn : (opg P).2.2.2.2.1 = P.2.2.2.2.1 + 1 := rfl
  have f1' : P2.2.2.2.2.2 = P.2.2.2.2.1 := f1
  have hout : P2.2.2.2.1 P2.2.2.2.2.2 = P.2.2.2.2.2 := by
    rw [f1', f3 _ (by omega)]
    show (if P.2.2.2.2.1 = P.2.2.2.2.1 then P.2.2.2.2.2 else _) = _
    rw [if_pos rfl]
  have hlv : ∀ j, j < P.2.2.2.2.1 → P2.2.2.1 j = P.2.2.1 j := by
    intro j hj
    rw [f4 j (by omega) (by show j ≠ P.2.2.2.2.1; omega)]
    exact uL_n (s := P.2.2.1) (k := P.2.2.2.2.1) (z := nlv (P.1 4 + 1)) (by omega)
  have ez : P2.1 4 = cur P2 2 + tsz (mk alt2 u2) := by
    cases alt2 with
    | none =>
      obtain ⟨g1, g2, g3⟩ := b2
      show _ = _ + tsz u2
      omega
    | some t =>
      obtain ⟨g1, g2, g3, g4⟩ := b2
      have : tsz (mk (some t) u2) = tsz t + tsz u2 + 2 := rfl
      omega
  have hF : cur P2 2 = P.1 4 + 1 := f6.trans o6
  have s3 := tsz_0 (mk alt2 u2)
  have hw3 : cur P2 2 ≤ cur P2 3 := hw.2.2.2.2.1
  obtain ⟨e10, e11⟩ := ALt_enb b2 b5 b6 hu (P2.1 4)
  have hF3 : StR (rsF (rsC P2 (enb (cur P2) (P2.1 4))) (lnd (P2.2.1 4) (P2.2.1 6) (cur P2 2) (P2.1 4))) := StR_F (P := P2) hS2 (by omega)
  obtain ⟨d1, d2, d3, d4⟩ := sameU_A (P' := clg P2) (k := 7) (f := 2 * P2.2.2.2.2.2 + 1) (s := 0) hF3 rfl
  have d1 : sameU (rsF (rsC P2 (enb (cur P2) (P2.1 4))) (lnd (P2.2.1 4) (P2.2.1 6) (cur P2 2) (P2.1 4))) (clg P2) (P2.1 4) := d1
  have d2 : (clg P2).2.1 4 (P2.1 4) = 7 := d2
  have d3 : (clg P2).2.1 6 (P2.1 4) = 2 * P2.2.2.2.2.2 + 1 := d3
  have k4 : (rsF (rsC P2 (enb (cur P2) (P2.1 4))) (lnd (P2.2.1 4) (P2.2.1 6) (cur P2 2) (P2.1 4))).2.1 4 = P2.2.1 4 := by unfold rsF rsC rsL; simp (disch := omega) only [uN_s, uN_n, uA_s, uA_n, up_s, up_n, uN_uN, uA_uA]
  have k6 : (rsF (rsC P2 (enb (cur P2) (P2.1 4))) (lnd (P2.2.1 4) (P2.2.1 6) (cur P2 2) (P2.1 4))).2.1 6 = lnd (P2.2.1 4) (P2.2.1 6) (cur P2 2) (P2.1 4) := by unfold rsF rsC rsL; simp (disch := omega) only [uN_s, uN_n, uA_s, uA_n, up_s, up_n, uN_uN, uA_uA]
  have k8 : (rsF (rsC P2 (enb (cur P2) (P2.1 4))) (lnd (P2.2.1 4) (P2.2.1 6) (cur P2 2) (P2.1 4))).2.1 8 = P2.2.1 8 := by unfold rsF rsC rsL; simp (disch := omega) only [uN_s, uN_n, uA_s, uA_n, up_s, up_n, uN_uN, uA_uA]
  have lt : LKn (rsF (rsC P2 (enb (cur P2) (P2.1 4))) (lnd (P2.2.1 4) (P2.2.1 6) (cur P2 2) (P2.1 4))) (mk alt2 u2) (cur P2 2) := by
    unfold LKn
    rw [k4, k6, k8]
    cases alt2 with
    | none =>
      obtain ⟨g1, g2, g3⟩ := b2
      have := LK_keep (F := cur P2 2) (e := P2.1 4) b3
      rw [g1] at this
      exact this
    | some t =>
      obtain ⟨g1, g2, g3, g4⟩ := b2
      have q1 := LK_land (F := cur P2 2) (e := P2.1 4) t (cur P2 2) g1 (Int.le_refl _) (by omega)
      have q2 := LK_keep (F := cur P2 2) (e := P2.1 4) b3
      refine ⟨?_, ?_⟩
      · rw [show (fun j z => j + z = cur P2 2 + tsz t + 2 + tsz u2) = land (P2.1 4) by unfold land; rw [show P2.1 4 = cur P2 2 + tsz t + 2 + tsz u2 by omega]]
        exact q1
      · rw [show cur P2 2 + tsz t + 2 = cur P2 3 by omega]
        exact q2
  have lt' : LKn (clg P2) (mk alt2 u2) (cur P2 2) := LKn_fr lt (by omega) (fun i q1 q2 => d1 i q1 (by omega))
  have low : sameU P2 (clg P2) (cur P2 2) := fun i h0 hi => by
    have q := d1 i h0 (by omega)
    rw [k4, k6, k8] at q
    refine ⟨q.1, q.2.1.trans ?_, q.2.2⟩
    unfold lnd
    rw [if_neg (by omega)]
  have same : sameU P (clg P2) (P.1 4) := fun i h0 hi => by
    have q1 := o2 i h0 hi
    have q2 := f5 i h0 (by omega)
    have q3 := low i h0 (by omega)
    exact ⟨q3.1.trans (q2.1.trans q1.1), q3.2.1.trans (q2.2.1.trans q1.2.1), q3.2.2.trans (q2.2.2.trans q1.2.2)⟩
  have ec : cur (clg P2) = sta (cur P) (cur P2 2 - 1) (tsh (mk alt2 u2)) (tlo (mk alt2 u2)) := by
    rw [← e10, ← e11]
    have h1 : cur (clg P2) = sta (uL P2.2.2.1 P2.2.2.2.2.2 (enb (cur P2) (P2.1 4)) (P2.2.2.2.1 P2.2.2.2.2.2)) (cur P2 2 - 1) (enb (cur P2) (P2.1 4) 10) (enb (cur P2) (P2.1 4) 11) := cur_C
    rw [h1, hout, uL_n (by omega), hlv _ i4]
    rfl
  obtain ⟨v4, v5, v6, v7, v8, v9, v2, v3, v10, v11⟩ := sta_v (v := cur P) (a := cur P2 2 - 1) (b := tsh (mk alt2 u2)) (c := tlo (mk alt2 u2))
  rw [← ec] at v4 v5 v6 v7 v8 v9 v2 v3 v10 v11
  have e4 : (clg P2).1 4 = P2.1 4 + 1 := by unfold clg rsC rsV rsN rsA rsF rsL; simp (disch := omega) only [uN_s, uN_n, uA_s, uA_n, up_s, up_n, uN_uN, uA_uA]
  have c10 : (clg P2).1 10 = P2.1 10 - 1 := by unfold clg rsC rsV rsN rsA rsF rsL; simp (disch := omega) only [uN_s, uN_n, uA_s, uA_n, up_s, up_n, uN_uN, uA_uA]
  have e : ∀ j, j ≠ 4 → j ≠ 6 → j ≠ 8 → j ≠ 10 → (clg P2).1 j = P2.1 j := by
    intro j b1 b2 b3 b4
    unfold clg rsC rsV rsN rsA rsF rsL
    simp (disch := omega) only [uN_s, uN_n, uA_s, uA_n, up_s, up_n, uN_uN, uA_uA]
  have z : tsz (.mulR (mk alt2 u2) (P.1 14 + 1)) = tsz (mk alt2 u2) + 2 := if_neg (by omega)
  have t1 : tsh (.mulR (mk alt2 u2) (P.1 14 + 1)) = tsh (mk alt2 u2) := if_neg (by omega)
  have t2 : tlo (.mulR (mk alt2 u2) (P.1 14 + 1)) = tlo (mk alt2 u2) := if_neg (by omega)
  have elv : (clg P2).2.2.2.2.2 = P.2.2.2.2.2 := hout
  refine ⟨⟨(e 11 (by omega) (by omega) (by omega) (by omega)).trans b1, ALt_fr a2 hv2 v2 v3 v10 v11 (fun i q1 q2 => same i q1 (by omega)), ?_, ?_, by omega, v4, by omega, by omega, by omega, by omega, by omega⟩, ⟨elv, ?_, fun i hi => ?_, fun j hj hl => ?_, same, v2, by omega⟩, e 14 (by omega) (by omega) (by omega) (by omega), by omega⟩
  · rw [v3]
    exact LKn_fr a3 (by omega) (fun i q1 q2 => same i q1 (by omega))
  · rw [v3, show cur P 3 + tsz u = P.1 4 by omega]
    have q2 := f5 (P.1 4) hS.1 (by omega)
    have q3 := low (P.1 4) hS.1 (by omega)
    refine LK_grp (by omega) ⟨q3.1.trans (q2.1.trans o3), q3.2.1.trans (q2.2.1.trans o4), ?_, ?_, ?_⟩
    · rw [show P.1 4 + 1 = cur P2 2 by omega]; exact lt'
    · rw [show P.1 4 + 1 + tsz (mk alt2 u2) = P2.1 4 by omega]; exact d2
    · rw [show P.1 4 + 1 + tsz (mk alt2 u2) = P2.1 4 by omega, d3, f1']; omega
  · show P.2.2.2.2.1 ≤ P2.2.2.2.2.1
    omega
  · show P2.2.2.2.1 i = _
    rw [f3 i (by omega)]
    show (if i = P.2.2.2.2.1 then _ else P.2.2.2.1 i) = _
    rw [if_neg (by omega)]
  · show uL (uL P2.2.2.1 P2.2.2.2.2.2 _) (P2.2.2.2.1 P2.2.2.2.2.2) _ j = _
    rw [uL_n (by omega), uL_n (by omega)]
    exact hlv j hj
end STQ
