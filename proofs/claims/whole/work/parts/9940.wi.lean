/-! the law's world: class, reference, two arrays -/
def AD (n : Nat) (c : Int → UInt64) : JE := .inl (2, n, fun j => .double (c j))
def WA (M0 : JM) (x : Nat) : Prop := (∃ c, M0.2.2 (x + 94) = some (AL 1 c)) ∧ ∃ c, M0.2.2 (x + 95) = some (AD 1 c)
def WG (a s : Nat) (M0 : JM) (x : Nat) (M1 : JM) : Prop := BX x M0 M1 ∧ WA M1 x ∧ M1.1 ≤ M0.1 + a ∧ M1.2.1 ≤ M0.2.1 + s
def EV (X : JX) (i a b c ac bc : Int) : Prop := (X.1 = X.1 ∧ ¬ (ii (i + 1) < 0 ∨ X.2.1 ≤ (ii (i + 1)).toNatClampNeg)) ∧ (X.1 = X.1 ∧ ¬ (ii (i + 2) < 0 ∨ X.2.1 ≤ (ii (i + 2)).toNatClampNeg)) ∧ (X.1 = X.1 ∧ ¬ (ii (i + 3) < 0 ∨ X.2.1 ≤ (ii (i + 3)).toNatClampNeg)) ∧ X.2.2 (ii (i + 1)).toNatClampNeg = ii a ∧ X.2.2 (ii (i + 2)).toNatClampNeg = ii b ∧ X.2.2 (ii (i + 3)).toNatClampNeg = ii c ∧ I32 a ∧ I32 b ∧ I32 c ∧ ((ii a).toUInt32 % 65536).toInt32 = ii ac ∧ ((ii b).toUInt32 % 65536).toInt32 = ii bc ∧ (0 ≤ ac ∧ ac ≤ 65535) ∧ (0 ≤ bc ∧ bc ≤ 65535)
section WIS
variable {X : JX} {d mid pc a k n b s r m x : Nat} {L : List (Option Value)} {st : List Value} {M M0 M1 M2 B : JM} {Q : JR → JM → Prop} {C C' : CS} {S S' : MS} {e : JE} {z : Int} {P : RS}
theorem ya_D {c : Int → UInt64} (h : 0 ≤ z ∧ z < n ∧ n ≤ 2147483647) : ya (some (AD n c)) .daload (ii z) X d mid pc L st M Q = XX X d mid (pc, L, .double (c z) :: st, M) Q := by
  unfold ya AD
  rw [xa_s rfl (ix_ok h), ii_tn (by omega), tn_cast h.1]
theorem yw_D {c : Int → UInt64} {w : UInt64} (h : 0 ≤ z ∧ z < n ∧ n ≤ 2147483647) : yw (some (AD n c)) a .dastore (.double w) (ii z) X d mid pc L st M Q = XX X d mid (pc, L, st, mset M a (AD n (fun j => if j = z then w else c j))) Q := by
  unfold yw AD
  rw [xw_s rfl (ix_ok h), ii_tn (by omega), vup_fun h.1 (fun i => .double (c i))]
  have e : (fun j : Nat => (fun i : Int => if i = z then Value.double w else Value.double (c i)) (j : Int)) = fun j : Nat => Value.double ((fun j => if j = z then w else c j) (j : Int)) := by
    funext j
    by_cases hj : (j : Int) = z
    · simp only [if_pos hj]
    · simp only [if_neg hj]
  exact congrArg (fun f => XX X d mid (pc, L, st, mset M a (.inl (2, n, f))) Q) e
theorem lcmp_r {y : Int64} : lg_cmp y y = ii 0 := by
  unfold lg_cmp
  simp
  rfl
theorem cm_mm (h : x + 70 ≤ m) : cm (mm M0 m S) x C = mm (cm M0 x C) m S := by
  unfold cm mm
  simp only
  congr 2
  funext b
  by_cases h1 : x ≤ b ∧ b < x + 70
  · rw [if_pos h1, if_neg (by omega), if_neg (by omega), if_pos h1]
  · rw [if_neg h1, if_neg h1]
theorem mthr_mm : mthr (mm M0 m S) = mm (mthr M0) m S := rfl
theorem mset_mm (h : b < m ∨ m + 23 < b) : mset (mm M0 m S) b e = mm (mset M0 b e) m S := by
  unfold mset mm
  simp only
  congr 2
  funext a
  by_cases hb : a = b
  · subst hb
    rw [va_up_self, if_neg (by omega), if_neg (by omega), va_up_self]
  · rw [va_up_ne _ _ hb]
    by_cases h1 : a = m
    · rw [if_pos h1, if_pos h1]
    · rw [if_neg h1, if_neg h1]
      by_cases h2 : m < a ∧ a ≤ m + 23
      · rw [if_pos h2, if_pos h2]
      · rw [if_neg h2, if_neg h2, va_up_ne _ _ hb]
theorem pm_mm (h : m + 23 < r) : pm (mm M0 m S) s r P = mm (pm M0 s r P) m S := by
  unfold pm mm
  simp only
  congr 2
  funext b
  by_cases h1 : b = m
  · rw [if_neg (by omega), if_neg (by omega), if_pos h1, if_pos h1]
  · rw [if_neg h1, if_neg h1]
    by_cases h2 : m < b ∧ b ≤ m + 23
    · rw [if_neg (by omega), if_neg (by omega), if_pos h2, if_pos h2]
    · rw [if_neg h2, if_neg h2]
theorem BX_mm (h : BX x M0 M1) : BX x (mm M0 (x + 70) S) (mm M1 (x + 70) S') := ⟨h.1, fun b h1 h2 => by
  have h2 : b < M0.1 := h2
  rw [mm_ne (by omega), mm_ne (by omega)]
  exact h.2 b h1 h2⟩
theorem mcl_wc : mcl (mm (cm M0 x C) m S) x = mcl (mm (cm M0 x C) m S) x := rfl
theorem mcl_wm (h : x + 70 ≤ m) : mcl (cm (mm M0 m S) x C) m = some 9 := by
  rw [cm_mm h]
  exact mm_cl
theorem WG_0 (h : WA M0 x) : WG 0 0 M0 x M0 := ⟨BX.refl _ _, h, Nat.le_refl _, Nat.le_refl _⟩
theorem WG_t {g t : Nat} (h : WG g t M0 x M1) : WG (g + 1) (t + 6) M0 x (mthr M1) := by
  obtain ⟨h1, h2, h3, h4⟩ := h
  refine ⟨⟨?_, h1.2⟩, h2, ?_, ?_⟩
  · have := h1.1
    show M0.1 ≤ M1.1 + 1
    omega
  · show M1.1 + 1 ≤ _
    omega
  · show M1.2.1 + 6 ≤ _
    omega
theorem WG_o {g t : Nat} {c : Int → Int64} (h : WG g t M0 x M1) : WG g t M0 x (mset M1 (x + 94) (AL 1 c)) := by
  obtain ⟨h1, h2, h3, h4⟩ := h
  refine ⟨⟨h1.1, fun b b1 b2 => ?_⟩, ⟨⟨c, mset_eq⟩, ?_⟩, h3, h4⟩
  · rw [mset_ne (by omega)]
    exact h1.2 b b1 b2
  · obtain ⟨f, hf⟩ := h2.2
    exact ⟨f, by rw [mset_ne (by omega)]; exact hf⟩
theorem WG_d {g t : Nat} {c : Int → UInt64} (h : WG g t M0 x M1) : WG g t M0 x (mset M1 (x + 95) (AD 1 c)) := by
  obtain ⟨h1, h2, h3, h4⟩ := h
  refine ⟨⟨h1.1, fun b b1 b2 => ?_⟩, ⟨?_, ⟨c, mset_eq⟩⟩, h3, h4⟩
  · rw [mset_ne (by omega)]
    exact h1.2 b b1 b2
  · obtain ⟨f, hf⟩ := h2.1
    exact ⟨f, by rw [mset_ne (by omega)]; exact hf⟩
theorem WG_p (h : WA M0 x) (hx : x + 96 ≤ M0.1) (hP : P.2.2.2.2.1 ≤ 6) : WG 16 316 M0 x (pm M0 s M0.1 P) := by
  refine ⟨BX_pm rfl, ⟨?_, ?_⟩, ?_, ?_⟩
  · obtain ⟨f, hf⟩ := h.1
    exact ⟨f, by rw [pm_ne (by omega)]; exact hf⟩
  · obtain ⟨f, hf⟩ := h.2
    exact ⟨f, by rw [pm_ne (by omega)]; exact hf⟩
  · rw [pm_1]
    omega
  · rw [pm_21]
    omega
theorem WG_w {g t g' t' : Nat} (h : WG g t M0 x M1) (h1 : g ≤ g') (h2 : t ≤ t') : WG g' t' M0 x M1 := ⟨h.1, h.2.1, Nat.le_trans h.2.2.1 (by omega), Nat.le_trans h.2.2.2 (by omega)⟩
theorem fin_q (hR : REL (mm M0 (x + 70) S) x C S) (hq : QF C C') (hr : RQ S S') (hg : WG a s M0 x M1) : REL (mm M1 (x + 70) S') x C' S' := REL_b (REL_q hR hq hr) (BX_mm hg.1)
end WIS
