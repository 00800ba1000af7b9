/-! steps that take nothing: no way goes round -/
section FTK
variable {k f s : Int → Int} {N : Int}
def KFT (k f s : Int → Int) (N : Int) (t : RT) (mo : Option (Int → Int → Prop)) (b : Int) : Prop := match mo with
  | none => ((0 < tsh t ∨ FTe (opC k f s N) (b + tsz t)) → FTe (opC k f s N) b) ∧ (FTe (opC k f s N) (b + tsz t) → ∀ i, b ≤ i → i < b + tsz t → FTe (opC k f s N) i)
  | some J => ∀ e, (∀ j z, b ≤ j → j < b + tsz t + 2 → J j z → j + z = e) → FTe (opC k f s N) (b + tsz t + 2) → ((0 < tsh t ∨ FTe (opC k f s N) e) → FTe (opC k f s N) b) ∧ (FTe (opC k f s N) e → ∀ i, b ≤ i → i < b + tsz t + 2 → FTe (opC k f s N) i)
theorem KFT_wrp {t : RT} {P : Int → Prop} {J : Int → Int → Prop} {b : Int} (hb : b + tsz t + 2 ≤ N) (h : wrp k f s (tsz t) P (some J) b) (hP : P (b + 1) → KFT k f s N t none (b + 1)) : KFT k f s N t (some J) b := by
  intro e hJ hn
  obtain ⟨a1, a2, a3, a4, a5, a6⟩ := h
  have s1 := tsz_0 t
  obtain ⟨p1, p2⟩ := hP a4
  have ef : opC k f s N b = (1, b + 1, b + tsz t + 2) := by rw [opC_5 (by omega) a1, a2, a3, show b + (tsz t + 2) = b + tsz t + 2 by omega]
  have ej : opC k f s N (b + 1 + tsz t) = (2, b + 1 + tsz t + f (b + 1 + tsz t), 0) := opC_6 (by omega) a5
  have hj := hJ _ _ (by omega) (by omega) a6
  have jmp : FTe (opC k f s N) e → FTe (opC k f s N) (b + 1 + tsz t) := fun h => FTe_2 (by rw [ej]) (by rw [ej]; simp only; rw [hj]; exact h)
  have ent : (0 < tsh t ∨ FTe (opC k f s N) e) → FTe (opC k f s N) b := fun h => by
    refine FTe_1 (by rw [ef]) ?_ ?_
    · rw [ef]
      exact p1 (h.imp id jmp)
    · rw [ef]; exact hn
  refine ⟨ent, fun he i i0 i1 => ?_⟩
  by_cases e1 : i = b
  · rw [e1]; exact ent (Or.inr he)
  by_cases e2 : i = b + 1 + tsz t
  · rw [e2]; exact jmp he
  · exact p2 (jmp he) i (by omega) (by omega)
theorem LK_FT {n : Int} : ∀ (t : RT) (mo : Option (Int → Int → Prop)) (b : Int), TW n t → LK k f s t mo b → 0 ≤ b → b + tsz t + (match mo with | none => 0 | some _ => 2) ≤ N → KFT k f s N t mo b := by
  have wr : ∀ (t : RT) (P : Int → Prop), (∀ b, P b → 0 ≤ b → b + tsz t ≤ N → KFT k f s N t none b) → ∀ (mo : Option (Int → Int → Prop)) (b : Int), wrp k f s (tsz t) P mo b → 0 ≤ b → b + tsz t + (match mo with | none => 0 | some _ => 2) ≤ N → KFT k f s N t mo b := by
    intro t P hP mo b h h0 hb
    cases mo with
    | none => exact hP b h h0 (by simpa using hb)
    | some J => exact KFT_wrp (by simpa using hb) h (fun q => hP (b + 1) q (by omega) (by simp only at hb; omega))
  intro t
  induction t with
  | num z =>
    intro mo b hW h h0 hb
    refine wr (.num z) _ (fun b hp h0 hb => ?_) mo b h h0 hb
    by_cases hc : z = 0
    · have e : tsz (.num z) = 0 := if_pos hc
      have e2 : tsh (.num z) = 0 := if_pos hc
      refine ⟨fun q => ?_, fun q i i0 i1 => by omega⟩
      rw [e, Int.add_zero] at q
      rcases q with q | q
      · omega
      · exact q
    · have hp' : if z = 1 then k b = 2 else k b = 1 ∧ f b = z := by
        rcases hp with hp | hp
        · exact absurd hp hc
        · exact hp
      have e : tsz (.num z) = 1 := if_neg hc
      have eo : FTe (opC k f s N) b := FTe_0 (Or.inl (by rw [opC_0 (by omega) (by split at hp' <;> omega)]))
      exact ⟨fun _ => eo, fun _ i i0 i1 => by rw [show i = b by omega]; exact eo⟩
  | var v =>
    intro mo b hW h h0 hb
    refine wr (.var v) _ (fun b hp h0 hb => ?_) mo b h h0 hb
    have e : tsz (.var v) = 0 := rfl
    have e2 : tsh (.var v) = 0 := rfl
    refine ⟨fun q => ?_, fun q i i0 i1 => by omega⟩
    rw [e, Int.add_zero] at q
    rcases q with q | q
    · omega
    · exact q
  | add x y ihx ihy =>
    intro mo b hW h h0 hb
    have e : tsz (.add x y) = tsz x + tsz y := rfl
    have e2 : tsh (.add x y) = tsh x + tsh y := rfl
    have z1 := tsz_0 x
    have z2 := tsz_0 y
    have s1 := tsh_0 x
    have s2 := tsh_0 y
    refine wr (.add x y) _ (fun b hp h0 hb => ?_) mo b h h0 hb
    obtain ⟨x1, x2⟩ := ihx none b hW.1 hp.1 h0 (by simp only; omega)
    obtain ⟨y1, y2⟩ := ihy none _ hW.2 hp.2 (by omega) (by simp only; omega)
    rw [show b + tsz x + tsz y = b + tsz (.add x y) by omega] at y1 y2
    refine ⟨fun q => x1 ?_, fun q i i0 i1 => ?_⟩
    · by_cases hx : 0 < tsh x
      · exact Or.inl hx
      · exact Or.inr (y1 (q.imp (fun _ => by omega) id))
    · by_cases hi : i < b + tsz x
      · exact x2 (y1 (Or.inr q)) i i0 hi
      · exact y2 q i (by omega) (by omega)
  | sub x y ihx ihy =>
    intro mo b hW h h0 hb
    have e : tsz (.sub x y) = tsz x + tsz y + 2 := rfl
    have e2 : tsh (.sub x y) = min (tsh x) (tsh y) := rfl
    have z1 := tsz_0 x
    have z2 := tsz_0 y
    cases mo with
    | none =>
      simp only at hb
      obtain ⟨l1, l2⟩ := h
      have hx := ihx _ b hW.1 l1 h0 (by simp only; omega) (b + tsz x + 2 + tsz y) (fun j z _ _ hj => hj)
      obtain ⟨y1, y2⟩ := ihy none _ hW.2 l2 (by omega) (by simp only; omega)
      rw [show b + tsz x + 2 + tsz y = b + tsz (.sub x y) by omega] at hx y1 y2
      refine ⟨fun q => ?_, fun q i i0 i1 => ?_⟩
      · exact (hx (y1 (q.imp (fun _ => by omega) id))).1 (q.imp (fun _ => by omega) id)
      · by_cases hi : i < b + tsz x + 2
        · exact (hx (y1 (Or.inr q))).2 q i i0 hi
        · exact y2 q i (by omega) (by omega)
    | some J =>
      simp only at hb
      obtain ⟨l1, l2⟩ := h
      intro e' hJ hn
      have ey : KFT k f s N y (some J) (b + tsz x + 2) := KFT_wrp (by omega) l2 (fun q => ihy none _ hW.2 q (by omega) (by simp only; omega))
      rw [show b + tsz (.sub x y) + 2 = b + tsz x + 2 + tsz y + 2 by omega] at hn
      obtain ⟨y1, y2⟩ := ey e' (fun j z a c hj => hJ j z (by omega) (by omega) hj) hn
      have hx := ihx _ b hW.1 l1 h0 (by simp only; omega) e' (fun j z a c hj => hJ j z a (by omega) hj)
      refine ⟨fun q => ?_, fun q i i0 i1 => ?_⟩
      · exact (hx (y1 (q.imp (fun _ => by omega) id))).1 (q.imp (fun _ => by omega) id)
      · by_cases hi : i < b + tsz x + 2
        · exact (hx (y1 (Or.inr q))).2 q i i0 hi
        · exact y2 q i (by omega) (by omega)
  | neg x ihx =>
    intro mo b hW h h0 hb
    have e : tsz (.neg x) = tsz x + 2 := rfl
    have e2 : tsh (.neg x) = 0 := rfl
    have z1 := tsz_0 x
    refine wr (.neg x) _ (fun b hp h0 hb => ?_) mo b h h0 hb
    obtain ⟨l1, l2, l3, l4, l5, l6⟩ := hp
    have eo : opC k f s N b = (1, b + 1, b + tsz x + 2) := by rw [opC_5 (by omega) l1, l2, l3, show b + (tsz x + 2) = b + tsz x + 2 by omega]
    have ej : opC k f s N (b + 1 + tsz x) = (2, b, 0) := by rw [opC_6 (by omega) l5, l6, show b + 1 + tsz x + (-(tsz x) - 1) = b by omega]
    obtain ⟨x1, x2⟩ := ihx none _ hW.1 l4 (by omega) (by simp only; omega)
    have ent : FTe (opC k f s N) (b + tsz (.neg x)) → FTe (opC k f s N) b := fun q => by
      refine FTe_1 (by rw [eo]) ?_ ?_
      · rw [eo]; exact x1 (Or.inl hW.2)
      · rw [eo]; simp only; rw [show b + tsz x + 2 = b + tsz (.neg x) by omega]; exact q
    have jmp : FTe (opC k f s N) (b + tsz (.neg x)) → FTe (opC k f s N) (b + 1 + tsz x) := fun q => FTe_2 (by rw [ej]) (by rw [ej]; exact ent q)
    refine ⟨fun q => ent (by rcases q with q | q; omega; exact q), fun q i i0 i1 => ?_⟩
    by_cases e1 : i = b
    · rw [e1]; exact ent q
    by_cases e3 : i = b + 1 + tsz x
    · rw [e3]; exact jmp q
    · exact x2 (jmp q) i (by omega) (by omega)
  | mulL x y _ =>
    intro mo b hW h h0 hb
    have e : ∀ q r, tsz (.mulL q r) = 1 := fun _ _ => rfl
    refine wr (.mulL x y) _ (fun b hp h0 hb => ?_) mo b h h0 hb
    rw [e] at hb
    have eo : FTe (opC k f s N) b := FTe_0 (Or.inl (by rw [opC_0 (by omega) (by split at hp <;> omega)]))
    exact ⟨fun _ => eo, fun _ i i0 i1 => by rw [e] at i1; rw [show i = b by omega]; exact eo⟩
  | mulR x g ihx =>
    intro mo b hW h h0 hb
    have z1 := tsz_0 x
    refine wr (.mulR x g) _ (fun b hp h0 hb => ?_) mo b h h0 hb
    by_cases hk0 : g = 0
    · rw [if_pos hk0] at hp
      obtain ⟨l1, l2, l3, l4⟩ := hp
      have e : tsz (.mulR x g) = tsz x + 1 := if_pos (Or.inl hk0)
      have hs := hW.2.2.2 hk0
      have eo : opC k f s N (b + tsz x) = (1, b, b + tsz x + 1) := by rw [opC_5 (by omega) l2, l3, l4, show b + tsz x + -(tsz x) = b by omega]
      obtain ⟨x1, x2⟩ := ihx none b hW.1 l1 h0 (by simp only; omega)
      have ent := x1 (Or.inl hs)
      have lp : FTe (opC k f s N) (b + tsz (.mulR x g)) → FTe (opC k f s N) (b + tsz x) := fun q => by
        refine FTe_1 (by rw [eo]) ?_ ?_
        · rw [eo]; exact ent
        · rw [eo]; simp only; rw [show b + tsz x + 1 = b + tsz (.mulR x g) by omega]; exact q
      refine ⟨fun _ => ent, fun q i i0 i1 => ?_⟩
      by_cases e1 : i = b + tsz x
      · rw [e1]; exact lp q
      · exact x2 (lp q) i i0 (by omega)
    rw [if_neg hk0] at hp
    by_cases hk1 : g = -1
    · rw [if_pos hk1] at hp
      obtain ⟨l1, l2, l3, l4⟩ := hp
      have e : tsz (.mulR x g) = tsz x + 1 := if_pos (Or.inr hk1)
      have e2 : tsh (.mulR x g) = 0 := if_pos hk1
      have eo : opC k f s N b = (1, b + 1, b + tsz x + 1) := by rw [opC_5 (by omega) l1, l2, l3, show b + (tsz x + 1) = b + tsz x + 1 by omega]
      obtain ⟨x1, x2⟩ := ihx none _ hW.1 l4 (by omega) (by simp only; omega)
      rw [show b + 1 + tsz x = b + tsz (.mulR x g) by omega] at x1 x2
      have ent : FTe (opC k f s N) (b + tsz (.mulR x g)) → FTe (opC k f s N) b := fun q => by
        refine FTe_1 (by rw [eo]) ?_ ?_
        · rw [eo]; exact x1 (Or.inr q)
        · rw [eo]; simp only; rw [show b + tsz x + 1 = b + tsz (.mulR x g) by omega]; exact q
      refine ⟨fun q => ent (by rcases q with q | q; omega; exact q), fun q i i0 i1 => ?_⟩
      by_cases e1 : i = b
      · rw [e1]; exact ent q
      · exact x2 q i (by omega) (by omega)
    · rw [if_neg hk1] at hp
      obtain ⟨l1, l2, l3, l4, l5⟩ := hp
      have e : tsz (.mulR x g) = tsz x + 2 := if_neg (by omega)
      have e2 : tsh (.mulR x g) = tsh x := if_neg hk1
      have eo : opC k f s N b = (3, 2 * g - 2, 0) := by rw [opC_7 (by omega) l1, l2]
      have ee : opC k f s N (b + 1 + tsz x) = (3, 2 * g - 1, 0) := by rw [opC_7 (by omega) l4, l5, show 2 * g + 1 - 2 = 2 * g - 1 by omega]
      obtain ⟨x1, x2⟩ := ihx none _ hW.1 l3 (by omega) (by simp only; omega)
      have nt : FTe (opC k f s N) (b + tsz (.mulR x g)) → FTe (opC k f s N) (b + 1 + tsz x) := fun q => FTe_3 (by rw [ee]) (by rw [show b + 1 + tsz x + 1 = b + tsz (.mulR x g) by omega]; exact q)
      have ent : (0 < tsh (.mulR x g) ∨ FTe (opC k f s N) (b + tsz (.mulR x g))) → FTe (opC k f s N) b := fun q => FTe_3 (by rw [eo]) (x1 (q.imp (fun _ => by omega) nt))
      refine ⟨ent, fun q i i0 i1 => ?_⟩
      by_cases e1 : i = b
      · rw [e1]; exact ent (Or.inr q)
      by_cases e3 : i = b + 1 + tsz x
      · rw [e3]; exact nt q
      · exact x2 (nt q) i (by omega) (by omega)
end FTK
