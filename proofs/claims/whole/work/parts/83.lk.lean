/-! the class's steps of a tree: kinds, firsts, seconds; alternatives that end in open jumps -/
def wrp (k f s : Int → Int) (sz : Int) (P : Int → Prop) (mo : Option (Int → Int → Prop)) (b : Int) : Prop := match mo with
  | none => P b
  | some J => k b = 5 ∧ f b = 1 ∧ s b = sz + 2 ∧ P (b + 1) ∧ k (b + 1 + sz) = 6 ∧ J (b + 1 + sz) (f (b + 1 + sz))
def LK (k f s : Int → Int) : RT → Option (Int → Int → Prop) → Int → Prop
  | .num c, mo, b => wrp k f s (tsz (.num c)) (fun b => c = 0 ∨ (if c = 1 then k b = 2 else k b = 1 ∧ f b = c)) mo b
  | .var v, mo, b => wrp k f s (tsz (.var v)) (fun _ => True) mo b
  | .add x y, mo, b => wrp k f s (tsz x + tsz y) (fun b => LK k f s x none b ∧ LK k f s y none (b + tsz x)) mo b
  | .sub x y, none, b => LK k f s x (some (fun j z => j + z = b + tsz x + 2 + tsz y)) b ∧ LK k f s y none (b + tsz x + 2)
  | .sub x y, some J, b => LK k f s x (some J) b ∧ wrp k f s (tsz y) (fun b => LK k f s y none b) (some J) (b + tsz x + 2)
  | .neg x, mo, b => wrp k f s (tsz x + 2) (fun b => k b = 5 ∧ f b = 1 ∧ s b = tsz x + 2 ∧ LK k f s x none (b + 1) ∧ k (b + 1 + tsz x) = 6 ∧ f (b + 1 + tsz x) = -(tsz x) - 1) mo b
  | .mulL x e, mo, b => wrp k f s 1 (fun b => if tn e < 0 then k b = 4 ∧ f b = x ∧ s b = -(tn e) - 1 else k b = 3 ∧ f b = x ∧ s b = tn e) mo b
  | .mulR x g, mo, b => wrp k f s (tsz (.mulR x g)) (fun b => if g = 0 then LK k f s x none b ∧ k (b + tsz x) = 5 ∧ f (b + tsz x) = -(tsz x) ∧ s (b + tsz x) = 1
      else if g = -1 then k b = 5 ∧ f b = 1 ∧ s b = tsz x + 1 ∧ LK k f s x none (b + 1)
      else k b = 7 ∧ f b = 2 * g ∧ LK k f s x none (b + 1) ∧ k (b + 1 + tsz x) = 7 ∧ f (b + 1 + tsz x) = 2 * g + 1) mo b
def opC (k f s : Int → Int) (N i : Int) : Int × Int × Int := if N ≤ i then (4, 0, 0) else if k i = 5 then (1, i + f i, i + s i) else if k i = 6 then (2, i + f i, 0) else if k i = 7 then (3, f i - 2, 0) else if k i = 8 then (4, 0, 0) else (0, 0, 0)
def tkC (c : Int → Int) (k f s ch : Int) : Bool := if k = 1 then (if f = ch then true else false) else if k = 2 then true else if k = 3 then anyB c ch (s - f).toNat f else if k = 4 then !(anyB c ch (s - f).toNat f) else false
def fitC (c tx : Int → Int) (k f s : Int → Int) (L i p : Int) : Bool := if p < L then tkC c (k i) (f i) (s i) (tx p) else false
section LKS
variable {k f s : Int → Int} {N : Int}
theorem opC_5 {i : Int} (hN : i < N) (h : k i = 5) : opC k f s N i = (1, i + f i, i + s i) := by unfold opC; rw [if_neg (by omega), if_pos h]
theorem opC_6 {i : Int} (hN : i < N) (h : k i = 6) : opC k f s N i = (2, i + f i, 0) := by unfold opC; rw [if_neg (by omega), if_neg (by omega), if_pos h]
theorem opC_7 {i : Int} (hN : i < N) (h : k i = 7) : opC k f s N i = (3, f i - 2, 0) := by unfold opC; rw [if_neg (by omega), if_neg (by omega), if_neg (by omega), if_pos h]
theorem opC_8 {i : Int} (h : k i = 8) : opC k f s N i = (4, 0, 0) := by
  unfold opC
  by_cases hN : N ≤ i
  · rw [if_pos hN]
  · rw [if_neg hN, if_neg (by omega), if_neg (by omega), if_neg (by omega), if_pos h]
theorem opC_0 {i : Int} (hN : i < N) (h : k i < 5) : opC k f s N i = (0, 0, 0) := by unfold opC; rw [if_neg (by omega), if_neg (by omega), if_neg (by omega), if_neg (by omega), if_neg (by omega)]
variable {acc : Int → Bool} {L : Int} {c tx : Int → Int}
theorem fitC_num {i z : Int} (h0 : z ≠ 0) (h : if z = 1 then k i = 2 else k i = 1 ∧ f i = z) (p : Int) : fitC c tx k f s L i p = lfT c tx L (.num z) p := by
  unfold fitC lfT tkC
  by_cases hp : p < L
  · rw [if_pos hp, if_pos hp]
    simp only
    by_cases h1 : z = 1
    · rw [if_pos h1] at h ⊢
      rw [if_neg (by omega), if_pos h]
    · rw [if_neg h1] at h ⊢
      rw [if_pos h.1, h.2]
      by_cases hx : z = tx p
      · rw [if_pos hx, if_pos hx.symm]
      · rw [if_neg hx, if_neg (fun q => hx q.symm)]
  · rw [if_neg hp, if_neg hp]
theorem fitC_set {i x : Int} {e : RT} (h : if tn e < 0 then k i = 4 ∧ f i = x ∧ s i = -(tn e) - 1 else k i = 3 ∧ f i = x ∧ s i = tn e) (p : Int) : fitC c tx k f s L i p = lfT c tx L (.mulL x e) p := by
  unfold fitC lfT tkC inS
  by_cases hp : p < L
  · rw [if_pos hp, if_pos hp]
    simp only
    by_cases h1 : tn e < 0
    · rw [if_pos h1] at h ⊢
      rw [if_neg (by omega), if_neg (by omega), if_neg (by omega), if_pos h.1, h.2.1, h.2.2]
    · rw [if_neg h1] at h ⊢
      rw [if_neg (by omega), if_neg (by omega), if_pos h.1, h.2.1, h.2.2]
  · rw [if_neg hp, if_neg hp]
def TmC (c tx k f s : Int → Int) (L N : Int) (acc : Int → Bool) (b p : Int) (w : Int → Int) (r : RA) : Prop := Tm (opC k f s N) (fitC c tx k f s L) acc b p w r
/-- what a tree's steps do: closed; with open ends -/
def KTm (c tx k f s : Int → Int) (L N : Int) (acc : Int → Bool) (t : RT) (mo : Option (Int → Int → Prop)) (b : Int) : Prop := ∀ (p : Int) (w : Int → Int) (κ : RK), 0 ≤ p → p ≤ L → match mo with
  | none => (∀ p' w', p + tsh t ≤ p' → p' ≤ L → TmC c tx k f s L N acc (b + tsz t) p' w' (κ p' w')) → TmC c tx k f s L N acc b p w (mt (lfT c tx L) t p w κ)
  | some J => ∀ e r', (∀ j z, b ≤ j → j < b + tsz t + 2 → J j z → j + z = e) → (∀ p' w', p + tsh t ≤ p' → p' ≤ L → TmC c tx k f s L N acc e p' w' (κ p' w')) → TmC c tx k f s L N acc (b + tsz t + 2) p w r' → TmC c tx k f s L N acc b p w (oe (mt (lfT c tx L) t p w κ) r')
theorem KTm_wrp {t : RT} {P : Int → Prop} {J : Int → Int → Prop} {b : Int} (hb : b + tsz t + 2 ≤ N) (h : wrp k f s (tsz t) P (some J) b) (hP : P (b + 1) → KTm c tx k f s L N acc t none (b + 1)) : KTm c tx k f s L N acc t (some J) b := by
  intro p w κ h0 h1 e r' hJ hk hr
  obtain ⟨a1, a2, a3, a4, a5, a6⟩ := h
  have s1 := tsz_0 t
  have e1 : opC k f s N b = (1, b + 1, b + tsz t + 2) := by rw [opC_5 (by omega) a1, a2, a3, show b + (tsz t + 2) = b + tsz t + 2 by omega]
  refine Tm_c (by rw [e1]) ?_ ?_
  · rw [e1]
    refine hP a4 p w κ h0 h1 (fun p' w' q1 q2 => ?_)
    have e2 : opC k f s N (b + 1 + tsz t) = (2, b + 1 + tsz t + f (b + 1 + tsz t), 0) := opC_6 (by omega) a5
    refine Tm_j (by rw [e2]) ?_
    rw [e2]
    have := hJ _ _ (by omega) (by omega) a6
    simp only
    rw [this]
    exact hk p' w' q1 q2
  · rw [e1]
    exact hr
theorem LK_Tm (hL : L ≤ 40) {n : Int} : ∀ (t : RT) (mo : Option (Int → Int → Prop)) (b : Int), TW n t → LK k f s t mo b → 0 ≤ b → b + tsz t + (match mo with | none => 0 | some _ => 2) ≤ N → KTm c tx k f s L N acc t mo b := by
  have wr : ∀ (t : RT) (P : Int → Prop), (∀ b, P b → 0 ≤ b → b + tsz t ≤ N → KTm c tx k f s L N acc t none b) → ∀ (mo : Option (Int → Int → Prop)) (b : Int), wrp k f s (tsz t) P mo b → 0 ≤ b → b + tsz t + (match mo with | none => 0 | some _ => 2) ≤ N → KTm c tx k f s L N acc t mo b := by
    intro t P hP mo b h h0 hb
    cases mo with
    | none => exact hP b h h0 (by simpa using hb)
    | some J => exact KTm_wrp (by simpa using hb) h (fun q => hP (b + 1) q (by omega) (by simp only at hb; omega))
  intro t
  induction t with
  | num z =>
    intro mo b hW h h0 hb
    refine wr (.num z) _ (fun b hp h0 hb p w κ p0 p1 hk => ?_) mo b h h0 hb
    unfold mt
    by_cases hc : z = 0
    · rw [if_pos hc]
      have e : tsz (.num z) = 0 := if_pos hc
      have e2 : tsh (.num z) = 0 := if_pos hc
      have := hk p w (by omega) p1
      rw [e, Int.add_zero] at this
      exact this
    · rw [if_neg hc]
      have hp' : if z = 1 then k b = 2 else k b = 1 ∧ f b = z := by
        rcases hp with hp | hp
        · exact absurd hp hc
        · exact hp
      have e : tsz (.num z) = 1 := if_neg hc
      have e2 : tsh (.num z) = 1 := if_neg hc
      have eo : opC k f s N b = (0, 0, 0) := opC_0 (by omega) (by split at hp' <;> omega)
      by_cases hl : lfT c tx L (.num z) p = true
      · rw [if_pos hl]
        have := lfT_L hl
        refine Tm_t (by rw [eo]) (by rw [fitC_num hc hp']; exact hl) ?_
        have := hk (p + 1) w (by omega) (by omega)
        rw [e] at this
        exact this
      · rw [if_neg hl]
        exact Tm_tf (by rw [eo]) (by rw [fitC_num hc hp']; exact hl)
  | var v =>
    intro mo b hW h h0 hb
    refine wr (.var v) _ (fun b hp h0 hb p w κ p0 p1 hk => ?_) mo b h h0 hb
    have := hk p w (by show p + 0 ≤ p; omega) p1
    have e : tsz (.var v) = 0 := rfl
    rw [e, Int.add_zero] at this
    exact this
  | add x y ihx ihy =>
    intro mo b hW h h0 hb
    have e : tsz (.add x y) = tsz x + tsz y := rfl
    have e2 : tsh (.add x y) = tsh x + tsh y := rfl
    have s1 := tsh_0 x
    have s2 := tsh_0 y
    have z1 := tsz_0 x
    have z2 := tsz_0 y
    refine wr (.add x y) _ (fun b hp h0 hb p w κ p0 p1 hk => ?_) mo b h h0 hb
    refine ihx none b hW.1 hp.1 h0 (by simp only; omega) p w _ p0 p1 (fun p' w' a c => ihy none _ hW.2 hp.2 (by omega) (by simp only; omega) p' w' κ (by omega) c (fun p2 w2 a2 c2 => ?_))
    rw [show b + tsz x + tsz y = b + tsz (.add x y) by omega]
    exact hk p2 w2 (by omega) c2
  | sub x y ihx ihy =>
    intro mo b hW h h0 hb
    have e : tsz (.sub x y) = tsz x + tsz y + 2 := rfl
    have e2 : tsh (.sub x y) = min (tsh x) (tsh y) := rfl
    have z1 := tsz_0 x
    have z2 := tsz_0 y
    cases mo with
    | none =>
      simp only at hb
      obtain ⟨l1, l2⟩ := h
      intro p w κ p0 p1 hk
      refine ihx _ b hW.1 l1 h0 (by simp only; omega) p w κ p0 p1 (b + tsz x + 2 + tsz y) _ (fun j z _ _ hj => hj) (fun p' w' a c => ?_) (ihy none _ hW.2 l2 (by omega) (by simp only; omega) p w κ p0 p1 (fun p' w' a c => ?_))
      · rw [show b + tsz x + 2 + tsz y = b + tsz (.sub x y) by omega]
        exact hk p' w' (by omega) c
      · rw [show b + tsz x + 2 + tsz y = b + tsz (.sub x y) by omega]
        exact hk p' w' (by omega) c
    | some J =>
      simp only at hb
      obtain ⟨l1, l2⟩ := h
      intro p w κ p0 p1 e' r' hJ hk hr
      have ey : KTm c tx k f s L N acc y (some J) (b + tsz x + 2) := KTm_wrp (by omega) l2 (fun q => ihy none _ hW.2 q (by omega) (by simp only; omega))
      show TmC c tx k f s L N acc b p w (oe (oe (mt (lfT c tx L) x p w κ) (mt (lfT c tx L) y p w κ)) r')
      rw [oe_as]
      refine ihx _ b hW.1 l1 h0 (by simp only; omega) p w κ p0 p1 e' _ (fun j z a c => hJ j z a (by omega)) (fun p' w' a c => hk p' w' (by omega) c) (ey p w κ p0 p1 e' r' (fun j z a c => hJ j z (by omega) (by omega)) (fun p' w' a c => hk p' w' (by omega) c) ?_)
      rw [show b + tsz x + 2 + tsz y + 2 = b + tsz (.sub x y) + 2 by omega]
      exact hr
  | neg x ihx =>
    intro mo b hW h h0 hb
    have e : tsz (.neg x) = tsz x + 2 := rfl
    have e2 : tsh (.neg x) = 0 := rfl
    have z1 := tsz_0 x
    refine wr (.neg x) _ (fun b hp h0 hb p w κ p0 p1 hk => ?_) mo b h h0 hb
    obtain ⟨l1, l2, l3, l4, l5, l6⟩ := hp
    have eo : opC k f s N b = (1, b + 1, b + tsz x + 2) := by rw [opC_5 (by omega) l1, l2, l3, show b + (tsz x + 2) = b + tsz x + 2 by omega]
    have ej : opC k f s N (b + 1 + tsz x) = (2, b, 0) := by rw [opC_6 (by omega) l5, l6, show b + 1 + tsz x + (-(tsz x) - 1) = b by omega]
    refine mst_Tm (L := L) eo (fun p w κ' a c hk' => ihx none _ hW.1 l4 (by omega) (by simp only; omega) p w κ' a c (fun p' w' a' c' => Tm_j (by rw [ej]) ?_)) 42 p w p0 p1 (by omega) (fun p' w' a c => ?_)
    · rw [ej]; have := hW.2; exact hk' p' w' (by omega) c'
    · rw [show b + tsz x + 2 = b + tsz (.neg x) by omega]
      exact hk p' w' (by omega) c
  | mulL x y _ =>
    intro mo b hW h h0 hb
    have e : ∀ q r, tsz (.mulL q r) = 1 := fun _ _ => rfl
    have e2 : ∀ q r, tsh (.mulL q r) = 1 := fun _ _ => rfl
    refine wr (.mulL x y) _ (fun b hp h0 hb p w κ p0 p1 hk => ?_) mo b h h0 hb
    rw [e] at hb
    have eo : opC k f s N b = (0, 0, 0) := opC_0 (by omega) (by split at hp <;> omega)
    unfold mt
    by_cases hl : lfT c tx L (.mulL x y) p = true
    · rw [if_pos hl]
      have := lfT_L hl
      refine Tm_t (by rw [eo]) (by rw [fitC_set hp]; exact hl) ?_
      have := hk (p + 1) w (by rw [e2]; omega) (by omega)
      rw [e] at this
      exact this
    · rw [if_neg hl]
      exact Tm_tf (by rw [eo]) (by rw [fitC_set hp]; exact hl)
  | mulR x g ihx =>
    intro mo b hW h h0 hb
    have z1 := tsz_0 x
    refine wr (.mulR x g) _ (fun b hp h0 hb p w κ p0 p1 hk => ?_) mo b h h0 hb
    unfold mt
    by_cases hk0 : g = 0
    · rw [if_pos hk0] at hp ⊢
      obtain ⟨l1, l2, l3, l4⟩ := hp
      have e : tsz (.mulR x g) = tsz x + 1 := if_pos (Or.inl hk0)
      have e2 : tsh (.mulR x g) = tsh x := if_neg (by omega)
      have hs := hW.2.2.2 hk0
      have eo : opC k f s N (b + tsz x) = (1, b, b + tsz x + 1) := by rw [opC_5 (by omega) l2, l3, l4, show b + tsz x + -(tsz x) = b by omega]
      refine ihx none b hW.1 l1 h0 (by simp only; omega) p w _ p0 p1 (fun p' w' a c => ?_)
      refine mst_Tm (L := L) eo (fun p w κ' a c hk' => ihx none _ hW.1 l1 h0 (by simp only; omega) p w κ' a c (fun p' w' a' c' => hk' p' w' (by omega) c')) 42 p' w' (by omega) c (by omega) (fun p2 w2 a2 c2 => ?_)
      rw [show b + tsz x + 1 = b + tsz (.mulR x g) by omega]
      exact hk p2 w2 (by omega) c2
    rw [if_neg hk0] at hp ⊢
    by_cases hk1 : g = -1
    · rw [if_pos hk1] at hp ⊢
      obtain ⟨l1, l2, l3, l4⟩ := hp
      have e : tsz (.mulR x g) = tsz x + 1 := if_pos (Or.inr hk1)
      have e2 : tsh (.mulR x g) = 0 := if_pos hk1
      have s1 := tsh_0 x
      have eo : opC k f s N b = (1, b + 1, b + tsz x + 1) := by rw [opC_5 (by omega) l1, l2, l3, show b + (tsz x + 1) = b + tsz x + 1 by omega]
      refine Tm_c (by rw [eo]) ?_ ?_
      · rw [eo]
        refine ihx none _ hW.1 l4 (by omega) (by simp only; omega) p w κ p0 p1 (fun p' w' a c => ?_)
        rw [show b + 1 + tsz x = b + tsz (.mulR x g) by omega]
        exact hk p' w' (by omega) c
      · rw [eo]
        rw [show b + tsz x + 1 = b + tsz (.mulR x g) by omega]
        exact hk p w (by omega) p1
    · rw [if_neg hk1] at hp ⊢
      obtain ⟨l1, l2, l3, l4, l5⟩ := hp
      have e : tsz (.mulR x g) = tsz x + 2 := if_neg (by omega)
      have e2 : tsh (.mulR x g) = tsh x := if_neg hk1
      have eo : opC k f s N b = (3, 2 * g - 2, 0) := by rw [opC_7 (by omega) l1, l2]
      have ee : opC k f s N (b + 1 + tsz x) = (3, 2 * g - 1, 0) := by rw [opC_7 (by omega) l4, l5, show 2 * g + 1 - 2 = 2 * g - 1 by omega]
      refine Tm_m (by rw [eo]) ?_
      rw [eo]
      refine ihx none _ hW.1 l3 (by omega) (by simp only; omega) p _ _ p0 p1 (fun p' w' a c => Tm_m (by rw [ee]) ?_)
      rw [ee, show b + 1 + tsz x + 1 = b + tsz (.mulR x g) by omega]
      exact hk p' _ (by omega) c
end LKS
