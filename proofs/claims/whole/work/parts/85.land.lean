/-! open jumps land -/
section LND
variable {k f s : Int → Int}
theorem LK_ns {t : RT} (h : ∀ x y, t ≠ .sub x y) {J : Int → Int → Prop} {b : Int} : LK k f s t (some J) b = wrp k f s (tsz t) (fun b => LK k f s t none b) (some J) b := by
  cases t with
  | sub x y => exact absurd rfl (h x y)
  | _ => rfl
def pend : Int → Int → Prop := fun _ z => z = 0
def land (e : Int) : Int → Int → Prop := fun j z => j + z = e
/-- no jump of a finished part leads nowhere -/
theorem LK_nz : ∀ (t : RT) (mo : Option (Int → Int → Prop)) (b : Int), LK k f s t mo b → (match mo with | none => True | some J => ∀ j z, b ≤ j → j < b + tsz t + 2 → J j z → z ≠ 0) → ∀ i, b ≤ i → i < b + tsz t + (match mo with | none => 0 | some _ => 2) → k i = 6 → f i ≠ 0 := by
  have wr : ∀ (sz : Int) (P : Int → Prop), 0 ≤ sz → (∀ b, P b → ∀ i, b ≤ i → i < b + sz → k i = 6 → f i ≠ 0) → ∀ (mo : Option (Int → Int → Prop)) (b : Int), wrp k f s sz P mo b → (match mo with | none => True | some J => ∀ j z, b ≤ j → j < b + sz + 2 → J j z → z ≠ 0) → ∀ i, b ≤ i → i < b + sz + (match mo with | none => 0 | some _ => 2) → k i = 6 → f i ≠ 0 := by
    intro sz P hz hP mo b h hm i a c h6
    cases mo with
    | none => exact hP b h i a (by simpa using c) h6
    | some J =>
      simp only at hm c
      obtain ⟨a1, a2, a3, a4, a5, a6⟩ := h
      by_cases e1 : i = b
      · rw [e1] at h6; omega
      by_cases e2 : i = b + 1 + sz
      · rw [e2]; exact hm _ _ (by omega) (by omega) a6
      · exact hP _ a4 i (by omega) (by omega) h6
  intro t
  induction t with
  | num z =>
    intro mo b h hm i a c h6
    refine wr (tsz (.num z)) _ (tsz_0 _) (fun b hp i a c h6 => ?_) mo b h hm i a c h6
    exfalso
    by_cases hc : z = 0
    · have e : tsz (.num z) = 0 := if_pos hc
      omega
    · have e : tsz (.num z) = 1 := if_neg hc
      rw [show i = b by omega] at h6
      rcases hp with hp | hp
      · exact hc hp
      · split at hp <;> omega
  | var v =>
    intro mo b h hm i a c h6
    refine wr (tsz (.var v)) _ (tsz_0 _) (fun b hp i a c h6 => ?_) mo b h hm i a c h6
    have e : tsz (.var v) = 0 := rfl
    omega
  | add x y ihx ihy =>
    intro mo b h hm i a c h6
    have z1 := tsz_0 x
    have z2 := tsz_0 y
    refine wr (tsz x + tsz y) _ (by omega) (fun b hp i a c h6 => ?_) mo b h hm i a c h6
    by_cases hi : i < b + tsz x
    · exact ihx none b hp.1 trivial i a (by simpa using hi) h6
    · exact ihy none _ hp.2 trivial i (by omega) (by simp only; omega) h6
  | sub x y ihx ihy =>
    intro mo b h hm i a c h6
    have e : tsz (.sub x y) = tsz x + tsz y + 2 := rfl
    have z1 := tsz_0 x
    have z2 := tsz_0 y
    cases mo with
    | none =>
      simp only at c
      obtain ⟨l1, l2⟩ := h
      by_cases hi : i < b + tsz x + 2
      · exact ihx _ b l1 (fun j z a c hj => by omega) i a (by simpa using hi) h6
      · exact ihy none _ l2 trivial i (by omega) (by simp only; omega) h6
    | some J =>
      simp only at c hm
      obtain ⟨l1, l2⟩ := h
      by_cases hi : i < b + tsz x + 2
      · exact ihx _ b l1 (fun j z a c hj => hm j z a (by omega) hj) i a (by simpa using hi) h6
      · exact wr (tsz y) _ z2 (fun b hp i a c h6 => ihy none b hp trivial i a (by simpa using c) h6) (some J) _ l2 (fun j z a c hj => hm j z (by omega) (by omega) hj) i (by omega) (by simp only; omega) h6
  | neg x ihx =>
    intro mo b h hm i a c h6
    have z1 := tsz_0 x
    refine wr (tsz x + 2) _ (by omega) (fun b hp i a c h6 => ?_) mo b h hm i a c h6
    obtain ⟨l1, l2, l3, l4, l5, l6⟩ := hp
    by_cases e1 : i = b
    · rw [e1] at h6; omega
    by_cases e2 : i = b + 1 + tsz x
    · rw [e2]; omega
    · exact ihx none _ l4 trivial i (by omega) (by simp only; omega) h6
  | mulL x y _ =>
    intro mo b h hm i a c h6
    refine wr 1 _ (by omega) (fun b hp i a c h6 => ?_) mo b h hm i a c h6
    rw [show i = b by omega] at h6
    split at hp <;> omega
  | mulR x g ihx =>
    intro mo b h hm i a c h6
    have z1 := tsz_0 x
    refine wr (tsz (.mulR x g)) _ (tsz_0 _) (fun b hp i a c h6 => ?_) mo b h hm i a c h6
    by_cases hk0 : g = 0
    · rw [if_pos hk0] at hp
      have e : tsz (.mulR x g) = tsz x + 1 := if_pos (Or.inl hk0)
      obtain ⟨l1, l2, l3, l4⟩ := hp
      by_cases e1 : i = b + tsz x
      · rw [e1] at h6; omega
      · exact ihx none _ l1 trivial i a (by simp only; omega) h6
    rw [if_neg hk0] at hp
    by_cases hk1 : g = -1
    · rw [if_pos hk1] at hp
      have e : tsz (.mulR x g) = tsz x + 1 := if_pos (Or.inr hk1)
      obtain ⟨l1, l2, l3, l4⟩ := hp
      by_cases e1 : i = b
      · rw [e1] at h6; omega
      · exact ihx none _ l4 trivial i (by omega) (by simp only; omega) h6
    · rw [if_neg hk1] at hp
      have e : tsz (.mulR x g) = tsz x + 2 := if_neg (by omega)
      obtain ⟨l1, l2, l3, l4, l5⟩ := hp
      by_cases e1 : i = b
      · rw [e1] at h6; omega
      by_cases e2 : i = b + 1 + tsz x
      · rw [e2] at h6; omega
      · exact ihx none _ l3 trivial i (by omega) (by simp only; omega) h6
/-- the landing of jumps from F on, at e -/
def lnd (k f : Int → Int) (F e : Int) : Int → Int := fun j => if F ≤ j ∧ j < e ∧ k j = 6 ∧ f j = 0 then e - j else f j
theorem LK_keep {F e : Int} {t : RT} {b : Int} (h : LK k f s t none b) : LK k (lnd k f F e) s t none b := by
  have := LK_mv (k' := k) (f' := lnd k f F e) (s' := s) (dl := 0) t none none b h trivial (fun i a c => ?_)
  · rw [Int.add_zero] at this; exact this
  · rw [Int.add_zero]
    refine ⟨rfl, ?_, rfl⟩
    unfold lnd
    rw [if_neg]
    rintro ⟨_, _, h6, h0⟩
    exact LK_nz t none b h trivial i a c h6 h0
theorem LK_land {F e : Int} : ∀ (t : RT) (b : Int), LK k f s t (some pend) b → F ≤ b → b + tsz t + 2 ≤ e → LK k (lnd k f F e) s t (some (land e)) b := by
  have wr : ∀ (t : RT) (b : Int), wrp k f s (tsz t) (fun b => LK k f s t none b) (some pend) b → F ≤ b → b + tsz t + 2 ≤ e → wrp k (lnd k f F e) s (tsz t) (fun b => LK k (lnd k f F e) s t none b) (some (land e)) b := by
    intro t b h hF he
    have z1 := tsz_0 t
    obtain ⟨a1, a2, a3, a4, a5, a6⟩ := h
    refine ⟨a1, ?_, a3, LK_keep a4, a5, ?_⟩
    · unfold lnd
      rw [if_neg (by omega)]
      exact a2
    · unfold land lnd
      unfold pend at a6
      rw [if_pos ⟨by omega, by omega, a5, a6⟩]
      omega
  intro t
  induction t with
  | sub x y ihx ihy =>
    intro b h hF he
    have e' : tsz (.sub x y) = tsz x + tsz y + 2 := rfl
    have z1 := tsz_0 x
    have z2 := tsz_0 y
    obtain ⟨l1, l2⟩ := h
    exact ⟨ihx b l1 hF (by omega), wr y _ l2 (by omega) (by omega)⟩
  | num z => intro b h hF he; exact wr (.num z) b h hF he
  | var v => intro b h hF he; exact wr (.var v) b h hF he
  | add x y _ _ => intro b h hF he; exact wr (.add x y) b h hF he
  | neg x _ => intro b h hF he; exact wr (.neg x) b h hF he
  | mulL x y _ => intro b h hF he; exact wr (.mulL x y) b h hF he
  | mulR x g _ => intro b h hF he; exact wr (.mulR x g) b h hF he
end LND
