/-! the law's world behind a line written -/
section FNW
variable {B M0 M1 : JM} {x a s : Nat} {C C1 C' : CS} {S S1 S' : MS} {l : List Int} {G : Int → Int} {p fr : Int}
def Chs (l : List Int) : Prop := ∀ z, z ∈ l → 0 ≤ z ∧ z ≤ 65535
theorem Chs_app {l l' : List Int} (h : Chs l) (h' : Chs l') : Chs (l ++ l') := fun z hz => by
  rcases List.mem_append.mp hz with hz | hz
  · exact h z hz
  · exact h' z hz
theorem Chs_c {l : List Int} {c : Int} (hc : 0 ≤ c ∧ c ≤ 65535) (h : Chs l) : Chs (c :: l) := fun z hz => by
  rcases List.mem_cons.mp hz with e | hz
  · rw [e]
    exact hc
  · exact h z hz
theorem Chs_0 : Chs [] := fun z hz => by cases hz
theorem numL_m {n : Int} (h : 0 ≤ n ∧ n ≤ 99) : Chs (numL n) := by
  unfold numL
  split
  · exact Chs_c (by omega) (Chs_c (by omega) Chs_0)
  · exact Chs_c (by omega) Chs_0
theorem spanL_m {u v : Int} (h : 0 ≤ u ∧ u ≤ 99) (h' : 0 ≤ v ∧ v ≤ 99) : Chs (spanL u v) := Chs_app (numL_m h) (Chs_c (by omega) (numL_m h'))
theorem grL_m {w : Int → Int} (hw : ∀ j, -1 ≤ w j ∧ w j ≤ 40) (hw2 : ∀ k, 0 ≤ w (2 * k - 1) → 0 ≤ w (2 * k - 2)) : ∀ (f : Nat) (k : Int), 0 ≤ k → k + f ≤ 99 → Chs (grL w f k) := by
  intro f
  induction f with
  | zero => intro k _ _; exact Chs_0
  | succ f ih =>
    intro k h0 h1
    have e : grL w (f + 1) k = 59 :: (numL k ++ 58 :: ((if 0 ≤ w (2 * k - 1) then spanL (w (2 * k - 2)) (w (2 * k - 1)) else []) ++ grL w f (k + 1))) := rfl
    rw [e]
    refine Chs_c (by omega) (Chs_app (numL_m (by omega)) (Chs_c (by omega) (Chs_app ?_ (ih (k + 1) (by omega) (by omega)))))
    split
    · rename_i h
      have h1 := hw (2 * k - 1)
      have h2 := hw (2 * k - 2)
      have h3 := hw2 k h
      exact spanL_m (by omega) (by omega)
    · exact Chs_0
theorem wmL_m {q : Int × Int × (Int → Int)} {g : Int} (hg : 0 ≤ g ∧ g ≤ 5) (h1 : 0 ≤ q.1 ∧ q.1 ≤ q.2.1 ∧ q.2.1 ≤ 40) (hw : ∀ j, -1 ≤ q.2.2 j ∧ q.2.2 j ≤ 40) (hw2 : ∀ k, 0 ≤ q.2.2 (2 * k - 1) → 0 ≤ q.2.2 (2 * k - 2)) : Chs (wmL q g) := Chs_app (spanL_m (by omega) (by omega)) (grL_m hw hw2 _ _ (by omega) (by omega))
theorem mkF_m {tx : Int → Int} {L : Int} (h : ∀ j, 0 ≤ j → j < L → 0 ≤ tx j ∧ tx j ≤ 65535) : ∀ (l : ML) (w fr : Int), 0 ≤ w → w ≤ fr → MLok L fr l → w ≤ L → Chs (mkF tx L w l) := by
  intro l
  induction l with
  | nil =>
    intro w fr h0 h1 hk hw
    exact sgm_m (P := fun z => 0 ≤ z ∧ z ≤ 65535) (fun j j0 j1 => h j (by omega) j1)
  | cons v l ih =>
    intro w fr h0 h1 hk hw
    obtain ⟨o1, o2, o3, o4⟩ := hk
    rw [mkF_c]
    exact Chs_app (sgm_m (P := fun z => 0 ≤ z ∧ z ≤ 65535) (fun j j0 j1 => h j (by omega) (by omega))) (Chs_c (by omega) (Chs_app (sgm_m (P := fun z => 0 ≤ z ∧ z ≤ 65535) (fun j j0 j1 => h j (by omega) (by omega))) (Chs_c (by omega) (ih v.2 _ (by omega) (by split <;> omega) o4 o3))))
theorem mkL_m (hk : GOK G) : Chs (mkL G p) := mkF_m (fun j j0 j1 => hk.2.2.2.2.2 j j0 (by have := hk.2.2.2.2.1; omega)) (ml G p) 0 0 (Int.le_refl _) (Int.le_refl _) (ml_ok G p) hk.2.2.2.1
theorem REL_w (h : REL B x C S) (hq : QF C C1) (hw : WF C1 C') (hl : LNC C' l) (hr : RF S S1) (hwr : WR S1 S') (hln : LN S' l) (hn : (l.length : Int) ≤ 122) (hc : Chs l) : REL B x C' S' := by
  have h1 := REL_q h hq hr.q
  obtain ⟨⟨z1, z2, z3, z4⟩, g1, ⟨s1, s2, s3⟩, ⟨k1, k2, k3⟩, ⟨p1, p2, p3⟩, ⟨t1, t2, t3⟩, ⟨f1, f2, f3⟩, _⟩ := h1
  have hkx : KX (fun k => k = 68) C1 C' := ⟨hw.1, hw.2.1, fun k _ => by rw [hw.2.2]⟩
  have e := hwr.1
  have ea := hwr.2
  refine ⟨⟨WF_o hw z1, z2, ?_, fun o ho => ?_⟩, ?_, ⟨?_, ?_, fun q => ?_⟩, ⟨?_, ?_, fun i i0 i1 => ?_⟩, ⟨?_, ?_, fun k k0 k1 => ?_⟩, ⟨?_, ?_, fun k k0 k1 => ?_⟩, ⟨?_, ?_, fun q => ?_⟩, ⟨hl.1.trans hln.1.symm, ?_, fun k k0 k1 => ?_⟩⟩
  · rw [hw.1 13 (by omega)]
    exact z3
  · have : o + 2 ≠ 68 := by
      unfold isC at ho
      omega
    rw [hw.1 _ this]
    exact z4 o ho
  · rw [ea 0 (by omega)]
    exact CG_kx g1 hkx (by omega) (by omega)
  · rw [e 3 (by omega)]
    exact s1
  · rw [e 3 (by omega), hw.1 70 (by omega)]
    exact s2
  · rw [e 3 (by omega)] at q
    rw [ea 2 (by omega)]
    exact CG_kx (s3 q) hkx (by omega) (by omega)
  · rw [e 4 (by omega)]
    exact k1
  · rw [e 4 (by omega), hw.1 14 (by omega)]
    exact k2
  · rw [e 4 (by omega)] at i1
    obtain ⟨b1, b2, b3⟩ := hs_rg (C := C1) z3.1 i0
    rw [ea 1 (by omega), hs_e (hw.1 13 (by omega))]
    exact CG_kx (k3 i i0 i1) hkx (by omega) (by omega)
  · rw [e 7 (by omega), hw.1 1 (by omega)]
    exact p1
  · rw [e 7 (by omega)]
    exact p2
  · rw [e 7 (by omega)] at k1
    rw [ea 3 (by omega), hw.2.1 1 (by omega)]
    exact p3 k k0 k1
  · rw [e 9 (by omega), hw.1 3 (by omega)]
    exact t1
  · rw [e 9 (by omega)]
    exact t2
  · rw [e 9 (by omega)] at k1
    rw [ea 4 (by omega), hw.2.1 3 (by omega)]
    exact t3 k k0 k1
  · rw [e 10 (by omega), hw.1 71 (by omega)]
    exact f1
  · rw [e 10 (by omega)]
    exact f2
  · rw [e 10 (by omega)] at q
    rw [e 11 (by omega), e 12 (by omega), hw.1 72 (by omega), hw.1 73 (by omega)]
    exact f3 q
  · have := hln.1
    omega
  · have hk : k.toNat < l.length := by
      have := hln.1
      omega
    have u1 := hl.2 k.toNat hk
    have u2 := hln.2 k.toNat hk
    rw [show ((k.toNat : Nat) : Int) = k by omega] at u1 u2
    have eg : l.getD k.toNat 0 = l[k.toNat] := by simp [List.getD, hk]
    rw [u1, u2, eg]
    exact ⟨rfl, hc _ (List.getElem_mem hk)⟩
end FNW
