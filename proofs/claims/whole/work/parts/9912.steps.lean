/-! the class's reader: what each character does to what is laid -/
section STP
variable {P P' : RS} {p : Int} {alt : Option RT} {u w : RT}
theorem sta_v {v : Nat → Int} {a b c : Int} : sta v a b c 4 = 1 ∧ sta v a b c 5 = a ∧ sta v a b c 6 = b ∧ sta v a b c 7 = c ∧ sta v a b c 8 = stl v 8 ∧ sta v a b c 9 = stl v 9 ∧ sta v a b c 2 = v 2 ∧ sta v a b c 3 = v 3 ∧ sta v a b c 10 = v 10 ∧ sta v a b c 11 = v 11 := by
  have h2 : stl v 2 = v 2 := stl_o (by omega) (by omega) (by omega)
  have h3 : stl v 3 = v 3 := stl_o (by omega) (by omega) (by omega)
  have h10 : stl v 10 = v 10 := stl_o (by omega) (by omega) (by omega)
  have h11 : stl v 11 = v 11 := stl_o (by omega) (by omega) (by omega)
  unfold sta
  refine ⟨?_, ?_, ?_, ?_, ?_, ?_, ?_, ?_, ?_, ?_⟩ <;> simp (disch := omega) only [uN_s, uN_n, h2, h3, h10, h11]
theorem sameU_A {k f s : Int} (hS : StR P) (h1 : P'.2.1 = (rsA P k f s).2.1) : sameU P P' (P.1 4) ∧ P'.2.1 4 (P.1 4) = k ∧ P'.2.1 6 (P.1 4) = f ∧ P'.2.1 8 (P.1 4) = s := by
  obtain ⟨t0, t1, t2, t3, tr⟩ := hS
  have c4 : (rsA P k f s).2.1 4 = up (P.2.1 4) (P.1 4) k := by unfold rsA; simp (disch := omega) only [uN_s, uN_n, uA_s, uA_n, up_s, up_n, uN_uN, uA_uA]
  have c6 : (rsA P k f s).2.1 6 = up (P.2.1 6) (P.1 6) f := by unfold rsA; simp (disch := omega) only [uN_s, uN_n, uA_s, uA_n, up_s, up_n, uN_uN, uA_uA]
  have c8 : (rsA P k f s).2.1 8 = up (P.2.1 8) (P.1 8) s := by unfold rsA; simp (disch := omega) only [uN_s, uN_n, uA_s, uA_n, up_s, up_n, uN_uN, uA_uA]
  unfold sameU
  rw [h1, c4, c6, c8, t2, t3]
  refine ⟨fun i h0 hi => ⟨up_n (by omega), up_n (by omega), up_n (by omega)⟩, up_s, up_s, up_s⟩
theorem sameU_I {b k f s : Int} (hS : StR P) (h1 : P'.2.1 = (rsI P b k f s).2.1) : sameU P P' b ∧ P'.2.1 4 b = k ∧ P'.2.1 6 b = f ∧ P'.2.1 8 b = s ∧ (∀ i, b ≤ i → i < P.1 4 → P'.2.1 4 (i + 1) = P.2.1 4 i ∧ P'.2.1 6 (i + 1) = P.2.1 6 i ∧ P'.2.1 8 (i + 1) = P.2.1 8 i) := by
  obtain ⟨t0, t1, t2, t3, tr⟩ := hS
  have c4 : (rsI P b k f s).2.1 4 = ins (P.2.1 4) (P.1 4) b k := by unfold rsI; simp (disch := omega) only [uN_s, uN_n, uA_s, uA_n, up_s, up_n, uN_uN, uA_uA]
  have c6 : (rsI P b k f s).2.1 6 = ins (P.2.1 6) (P.1 6) b f := by unfold rsI; simp (disch := omega) only [uN_s, uN_n, uA_s, uA_n, up_s, up_n, uN_uN, uA_uA]
  have c8 : (rsI P b k f s).2.1 8 = ins (P.2.1 8) (P.1 8) b s := by unfold rsI; simp (disch := omega) only [uN_s, uN_n, uA_s, uA_n, up_s, up_n, uN_uN, uA_uA]
  unfold sameU
  rw [h1, c4, c6, c8, t2, t3]
  have q1 : ∀ (c : Int → Int) (v : Int) (i : Int), i < b → ins c (P.1 4) b v i = c i := by
    intro c v i h
    unfold ins
    rw [if_neg (by omega), if_neg (by omega)]
  have q2 : ∀ (c : Int → Int) (v : Int), ins c (P.1 4) b v b = v := fun c v => if_pos rfl
  have q3 : ∀ (c : Int → Int) (v : Int) (i : Int), b ≤ i → i < P.1 4 → ins c (P.1 4) b v (i + 1) = c i := by
    intro c v i h h'
    unfold ins
    rw [if_neg (by omega), if_pos (by omega), show i + 1 - 1 = i by omega]
  exact ⟨fun i _ hi => ⟨q1 _ _ _ hi, q1 _ _ _ hi, q1 _ _ _ hi⟩, q2 _ _, q2 _ _, q2 _ _, fun i a c => ⟨q3 _ _ _ a c, q3 _ _ _ a c, q3 _ _ _ a c⟩⟩
theorem cur_C {P : RS} {v : Nat → Int} : cur (rsC P v) = v := by
  show uL P.2.2.1 P.2.2.2.2.2 v P.2.2.2.2.2 = v
  exact uL_s
theorem atm_ok {kk ff ss : Int} (hI : RI P p) (h : LSt P alt u) (hz : tsz w = 1) (h1 : tsh w = 1) (h2 : tlo w = 1) (hw : ∀ P' : RS, P'.2.1 4 (P.1 4) = kk → P'.2.1 6 (P.1 4) = ff → P'.2.1 8 (P.1 4) = ss → LKn P' w (P.1 4)) : ATm (atm P kk ff ss) alt u w ∧ Fr (P.1 4) P (atm P kk ff ss) ∧ (atm P kk ff ss).1 14 = P.1 14 := by
  obtain ⟨hS, i1, i2, i3, i4, i5, i6, i7, i8, i9, i10, i11, i12, i13, i14⟩ := hI
  obtain ⟨a1, a2, a3, a4, a5, a6, a7⟩ := h
  have hv := i8 _ i4
  have hv2 : 0 ≤ cur P 2 := hv.2.2.2.1
  have hv3 : cur P 2 ≤ cur P 3 := hv.2.2.2.2.1
  have s0 := tsz_0 u
  obtain ⟨b1, b2, b3, b4⟩ := sameU_A (P' := atm P kk ff ss) (k := kk) (f := ff) (s := ss) hS rfl
  have ec : cur (atm P kk ff ss) = sta (cur P) (P.1 4) 1 1 := cur_C
  obtain ⟨v4, v5, v6, v7, v8, v9, v2, v3, v10, v11⟩ := sta_v (v := cur P) (a := P.1 4) (b := 1) (c := 1)
  have e4 : (atm P kk ff ss).1 4 = P.1 4 + 1 := by unfold atm rsA rsC rsL; simp (disch := omega) only [uN_s, uN_n, uA_s, uA_n, up_s, up_n, uN_uN, uA_uA]
  have e : ∀ j, j ≠ 4 → j ≠ 6 → j ≠ 8 → (atm P kk ff ss).1 j = P.1 j := by
    intro j b1 b2 b3
    unfold atm rsA rsC rsL
    simp (disch := omega) only [uN_s, uN_n, uA_s, uA_n, up_s, up_n, uN_uN, uA_uA]
  rw [← ec] at v4 v5 v6 v7 v8 v9 v2 v3 v10 v11
  refine ⟨⟨(e 11 (by omega) (by omega) (by omega)).trans a1, ALt_fr a2 hv2 v2 v3 v10 v11 (fun i q1 q2 => b1 i q1 (by omega)), ?_, ?_, by omega, v4, by omega, by omega, by omega, by omega, by omega⟩, ⟨rfl, Nat.le_refl _, fun _ _ => rfl, fun j _ hj => uL_n hj, b1, v2, e 10 (by omega) (by omega) (by omega)⟩, e 14 (by omega) (by omega) (by omega)⟩
  · rw [v3]
    exact LKn_fr a3 (by omega) (fun i q1 q2 => b1 i q1 (by omega))
  · rw [v3, show cur P 3 + tsz u = P.1 4 by omega]
    exact hw _ b2 b3 b4
theorem opg_ok (hI : RI P p) (h11 : P.1 11 = 0) : LSt (opg P) none (.num 0) ∧ sameU P (opg P) (P.1 4) ∧ (opg P).2.1 4 (P.1 4) = 7 ∧ (opg P).2.1 6 (P.1 4) = 2 * (P.1 14 + 1) ∧ cur (opg P) 4 = 0 ∧ cur (opg P) 2 = P.1 4 + 1 ∧ (opg P).1 14 = P.1 14 + 1 ∧ (opg P).1 10 = P.1 10 + 1 ∧ (opg P).1 4 = P.1 4 + 1 := by
  obtain ⟨hS, i1, i2, i3, i4, i5, i6, i7, i8, i9, i10, i11, i12, i13, i14⟩ := hI
  have hS' : StR (rsN (rsN P 14 (P.1 14 + 1)) 10 (P.1 10 + 1)) := by
    obtain ⟨t0, t1, t2, t3, tr⟩ := hS
    unfold rsN StR
    simp (disch := omega) only [uN_s, uN_n, uA_s, uA_n, up_s, up_n, uN_uN, uA_uA]
    exact ⟨t0, t1, t2, t3, tr⟩
  have e4' : (rsN (rsN P 14 (P.1 14 + 1)) 10 (P.1 10 + 1)).1 4 = P.1 4 := by unfold rsN; simp (disch := omega) only [uN_s, uN_n, uA_s, uA_n, up_s, up_n, uN_uN, uA_uA]
  obtain ⟨b1, b2, b3, b4⟩ := sameU_A (P' := opg P) (k := 7) (f := 2 * (P.1 14 + 1)) (s := 0) hS' rfl
  rw [e4'] at b1 b2 b3
  have ec : cur (opg P) = nlv (P.1 4 + 1) := uL_s
  have e4 : (opg P).1 4 = P.1 4 + 1 := by unfold opg rsW rsA rsN; simp (disch := omega) only [uN_s, uN_n, uA_s, uA_n, up_s, up_n, uN_uN, uA_uA]
  have e11 : (opg P).1 11 = P.1 11 := by unfold opg rsW rsA rsN; simp (disch := omega) only [uN_s, uN_n, uA_s, uA_n, up_s, up_n, uN_uN, uA_uA]
  have e10 : (opg P).1 10 = P.1 10 + 1 := by unfold opg rsW rsA rsN; simp (disch := omega) only [uN_s, uN_n, uA_s, uA_n, up_s, up_n, uN_uN, uA_uA]
  have e14 : (opg P).1 14 = P.1 14 + 1 := by unfold opg rsW rsA rsN; simp (disch := omega) only [uN_s, uN_n, uA_s, uA_n, up_s, up_n, uN_uN, uA_uA]
  refine ⟨⟨e11.trans h11, ⟨?_, ?_, ?_⟩, Or.inl rfl, ?_, ?_, ?_, fun x y h => by cases h⟩, b1, b2, b3, ?_, ?_, e14, e10, e4⟩
  · rw [ec]; rfl
  · rw [ec]; rfl
  · rw [ec]; rfl
  · rw [ec, e4]
    show P.1 4 + 1 = P.1 4 + 1 + tsz (.num 0)
    have : tsz (.num 0) = 0 := if_pos rfl
    omega
  · rw [ec, stl_0 rfl]; rfl
  · rw [ec, stl_0 rfl]; rfl
  · rw [ec]; rfl
  · rw [ec]; rfl
/-- the whole of a branch: closed, or with an open jump behind -/
theorem enb_v {v : Nat → Int} {n : Int} : enb v n 10 = min (v 10) (stl v 8) ∧ enb v n 11 = max (v 11) (stl v 9) ∧ enb v n 8 = 0 ∧ enb v n 9 = 0 ∧ enb v n 3 = n ∧ enb v n 2 = v 2 ∧ enb v n 4 = 0 := by
  have h2 : stl v 2 = v 2 := stl_o (by omega) (by omega) (by omega)
  have h10 : stl v 10 = v 10 := stl_o (by omega) (by omega) (by omega)
  have h11 : stl v 11 = v 11 := stl_o (by omega) (by omega) (by omega)
  have h4 := stl_4 (v := v)
  unfold enb
  refine ⟨?_, ?_, ?_, ?_, ?_, ?_, ?_⟩ <;> simp (disch := omega) only [uN_s, uN_n, h2, h10, h11, h4]
theorem ALt_enb (h : ALt P alt) (h8 : stl (cur P) 8 = tsh u) (h9 : stl (cur P) 9 = tlo u) (hu : tsh u ≤ 1000000) (n : Int) : enb (cur P) n 10 = tsh (mk alt u) ∧ enb (cur P) n 11 = tlo (mk alt u) := by
  have hv := enb_v (v := cur P) (n := n)
  have hl := tlo_rg u
  cases alt with
  | none =>
    obtain ⟨a1, a2, a3⟩ := h
    have e1 : tsh (mk none u) = tsh u := rfl
    have e2 : tlo (mk none u) = tlo u := rfl
    omega
  | some t =>
    obtain ⟨a1, a2, a3, a4⟩ := h
    have e1 : tsh (mk (some t) u) = min (tsh t) (tsh u) := rfl
    have e2 : tlo (mk (some t) u) = max (tlo t) (tlo u) := rfl
    omega
theorem brn_ok (hI : RI P p) (h : LSt P alt u) (hu : tsh u ≤ 1000000) : LSt (brn P) (some (mk alt u)) (.num 0) ∧ Fr (cur P 3) P (brn P) ∧ cur (brn P) 4 = 0 ∧ (brn P).1 14 = P.1 14 := by
  obtain ⟨hS, i1, i2, i3, i4, i5, i6, i7, i8, i9, i10, i11, i12, i13, i14⟩ := hI
  obtain ⟨a1, a2, a3, a4, a5, a6, a7⟩ := h
  have hv := i8 _ i4
  have hv2 : 0 ≤ cur P 2 := hv.2.2.2.1
  have hv3 : cur P 2 ≤ cur P 3 := hv.2.2.2.2.1
  have hv3' : cur P 3 ≤ P.1 4 := hv.2.2.2.2.2.1
  have s0 := tsz_0 u
  obtain ⟨b1, b2, b3, b4, b5⟩ := sameU_I (P' := rsI P (cur P 3) 5 1 (P.1 4 + 2 - cur P 3)) hS rfl
  obtain ⟨c1, c2⟩ := StR_I (b := cur P 3) (k := 5) (f := 1) (s := P.1 4 + 2 - cur P 3) hS (by omega) (by omega) (by omega) (by omega) (by omega)
  obtain ⟨d1, d2, d3, d4⟩ := sameU_A (P' := brn P) (k := 6) (f := 0) (s := 0) c1 rfl
  rw [c2] at d1 d2 d3
  have ec : cur (brn P) = enb (cur P) (P.1 4 + 1 + 1) := cur_C
  have e4 : (brn P).1 4 = P.1 4 + 1 + 1 := by unfold brn rsC rsL rsA rsI; simp (disch := omega) only [uN_s, uN_n, uA_s, uA_n, up_s, up_n, uN_uN, uA_uA]
  have e : ∀ j, j ≠ 4 → j ≠ 6 → j ≠ 8 → (brn P).1 j = P.1 j := by
    intro j b1 b2 b3
    unfold brn rsC rsL rsA rsI
    simp (disch := omega) only [uN_s, uN_n, uA_s, uA_n, up_s, up_n, uN_uN, uA_uA]
  obtain ⟨w10, w11, w8, w9, w3, w2, w4⟩ := enb_v (v := cur P) (n := P.1 4 + 1 + 1)
  have hal := ALt_enb a2 a5 a6 hu (P.1 4 + 1 + 1)
  rw [← ec] at w10 w11 w8 w9 w3 w2 w4 hal
  have same : sameU P (brn P) (cur P 3) := fun i h0 hi => by
    have q1 := b1 i h0 hi
    have q2 := d1 i h0 (by omega)
    exact ⟨q2.1.trans q1.1, q2.2.1.trans q1.2.1, q2.2.2.trans q1.2.2⟩
  have z0 : tsz (.num 0) = 0 := if_pos rfl
  have zs : stl (cur (brn P)) = cur (brn P) := stl_0 w4
  have wr : wrp ((brn P).2.1 4) ((brn P).2.1 6) ((brn P).2.1 8) (tsz u) (fun b => LK ((brn P).2.1 4) ((brn P).2.1 6) ((brn P).2.1 8) u none b) (some pend) (cur P 3) := by
    have f0 := d1 (cur P 3) (by omega) (by omega)
    refine ⟨f0.1.trans b2, f0.2.1.trans b3, ?_, ?_, ?_, ?_⟩
    · rw [f0.2.2, b4]; omega
    · refine LK_mv (dl := 1) u none none (cur P 3) a3 trivial (fun i q1 q2 => ?_)
      simp only at q2
      have g1 := b5 i q1 (by omega)
      have g2 := d1 (i + 1) (by omega) (by omega)
      exact ⟨g2.1.trans g1.1, g2.2.1.trans g1.2.1, g2.2.2.trans g1.2.2⟩
    · rw [show cur P 3 + 1 + tsz u = P.1 4 + 1 by omega]; exact d2
    · show (brn P).2.1 6 (cur P 3 + 1 + tsz u) = 0
      rw [show cur P 3 + 1 + tsz u = P.1 4 + 1 by omega]; exact d3
  refine ⟨⟨(e 11 (by omega) (by omega) (by omega)).trans a1, ?_, Or.inl rfl, by omega, ?_, ?_, fun x y h => by cases h⟩, ⟨rfl, Nat.le_refl _, fun _ _ => rfl, fun j _ hj => uL_n hj, same, w2, e 10 (by omega) (by omega) (by omega)⟩, w4, e 14 (by omega) (by omega) (by omega)⟩
  · cases alt with
    | none =>
      obtain ⟨g1, g2, g3⟩ := a2
      refine ⟨?_, ?_, hal.1, hal.2⟩
      · rw [w2, ← g1]
        show LK _ _ _ u (some pend) _
        rw [LK_ns a7]
        exact wr
      · show _ = _ + tsz u + 2
        omega
    | some t =>
      obtain ⟨g1, g2, g3, g4⟩ := a2
      have ez : tsz (mk (some t) u) = tsz t + tsz u + 2 := rfl
      refine ⟨?_, by omega, hal.1, hal.2⟩
      rw [w2]
      refine ⟨?_, ?_⟩
      · have := LK_mv (k' := (brn P).2.1 4) (f' := (brn P).2.1 6) (s' := (brn P).2.1 8) (dl := 0) t (some pend) (some pend) (cur P 2) g1 (fun j z _ _ hj => hj) (fun i q1 q2 => by
          rw [Int.add_zero]
          exact same i (by omega) (by simp only at q2; omega))
        rw [Int.add_zero] at this
        exact this
      · rw [show cur P 2 + tsz t + 2 = cur P 3 by omega]
        exact wr
  · rw [zs, w8]; rfl
  · rw [zs, w9]; rfl
end STP
