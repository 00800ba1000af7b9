/-! THE SOUNDNESS OF THE SMALL MACHINE -/
theorem exC_mem {M : JM} {pc ln : Nat} {r : List Nat} {L : List (Option Value)} {st : List Value} {i : Instr} {js : JS} (h : exC M pc ln r L st i = some js) :
    (∃ F : JF, js = .inl F ∧ F.2.2.2 = M) ∨ ∃ (mid' : Nat) (args' : List Value) (L' : List (Option Value)) (st' : List Value), js = .inr (.inr (mid', args', (pc + ln, L', st', M))) := by
  unfold exC at h
  split at h
  · split at h
    · split at h
      · split at h
        · cases h; exact Or.inl ⟨_, rfl, rfl⟩
        · cases h
      · cases h
    · split at h
      · cases h; exact Or.inr ⟨_, _, _, _, rfl⟩
      · cases h
  · split at h
    · split at h
      · cases h; exact Or.inr ⟨_, _, _, _, rfl⟩
      · cases h
    · cases h
  · split at h
    · split at h
      · split at h
        · split at h
          · cases h; exact Or.inl ⟨_, rfl, rfl⟩
          · cases h
        · cases h; exact Or.inr ⟨_, _, _, _, rfl⟩
      · cases h
    · cases h
  · cases h
def leM (M M' : JM) : Prop := M.1 ≤ M'.1 ∧ M.2.1 ≤ M'.2.1
theorem leM.rf {M : JM} : leM M M := ⟨Nat.le_refl _, Nat.le_refl _⟩
theorem leM.tr {A B C : JM} (h : leM A B) (k : leM B C) : leM A C := ⟨Nat.le_trans h.1 k.1, Nat.le_trans h.2 k.2⟩
theorem exO_mem {M : JM} {pc ln : Nat} {r : List Nat} {L : List (Option Value)} {st : List Value} {i : Instr} {js : JS} (h : exO M pc ln r L st i = some js) :
    (∃ F : JF, js = .inl F ∧ leM M F.2.2.2) ∨ ∃ n, i = .new n ∧ 100 ≤ r.getD 0 0 ∧ stw st ≤ 8 ∧ js = .inr (.inl (.inr (r.getD 0 0 - 100), mthr M)) := by
  unfold exO at h
  split at h
  · split at h
    · split at h
      · split at h
        · cases h; exact Or.inl ⟨_, rfl, leM.rf⟩
        · cases h
      · cases h
    · cases h
  · split at h
    · split at h
      · cases h; exact Or.inl ⟨_, rfl, leM.rf⟩
      · cases h
    · cases h
  · split at h
    · cases h; exact Or.inl ⟨_, rfl, leM.rf⟩
    · cases h
  · split at h
    · rename_i h1
      split at h
      · rename_i h2; cases h; exact Or.inr ⟨_, rfl, h1, h2, rfl⟩
      · cases h
    · cases h; exact Or.inl ⟨_, rfl, by unfold mnew; exact ⟨Nat.le_succ _, Nat.le_add_right _ _⟩⟩
  · split at h
    · cases h; exact Or.inl ⟨_, rfl, by unfold mnew; exact ⟨Nat.le_succ _, Nat.le_add_right _ _⟩⟩
    · cases h
  · split at h
    · cases h; exact Or.inl ⟨_, rfl, by unfold mnew; exact ⟨Nat.le_succ _, Nat.le_add_right _ _⟩⟩
    · cases h
  · split at h
    · cases h; exact Or.inl ⟨_, rfl, leM.rf⟩
    · cases h
  · split at h
    · cases h; exact Or.inl ⟨_, rfl, leM.rf⟩
    · cases h
  · split at h
    · split at h
      · cases h; exact Or.inl ⟨_, rfl, leM.rf⟩
      · cases h
    · cases h
  · cases h
/-- what a step can be: on in the frame, a return, a throw, a call -/
theorem step_kinds {X : JX} {mid pc : Nat} {L : List (Option Value)} {st : List Value} {M : JM} {js : JS} (h : step X mid (pc, L, st, M) = some js) :
    ∃ (i : Instr) (ln : Nat) (r : List Nat), cd mid pc = some (i, ln, r) ∧
    ((∃ F : JF, js = .inl F ∧ leM M F.2.2.2) ∨
     (∃ v, st = [v] ∧ rOk i (mR mid) v = true ∧ js = .inr (.inl (.inl (some v), M))) ∨
     (st = [] ∧ i = .return_ ∧ mR mid = none ∧ js = .inr (.inl (.inl none, M))) ∨
     (∃ n, i = .new n ∧ 100 ≤ r.getD 0 0 ∧ stw st ≤ 8 ∧ js = .inr (.inl (.inr (r.getD 0 0 - 100), mthr M))) ∨
     (∃ (mid' : Nat) (args' : List Value) (L' : List (Option Value)) (st' : List Value), exC M pc ln r L st i = some js ∧ js = .inr (.inr (mid', args', (pc + ln, L', st', M))))) := by
  unfold step at h
  simp only at h
  cases hcd : cd mid pc with
  | none => rw [hcd] at h; cases h
  | some q =>
  obtain ⟨i, ln, r⟩ := q
  rw [hcd] at h
  simp only at h
  refine ⟨i, ln, r, rfl, ?_⟩
  cases hld : ldK i with
  | some kn =>
    obtain ⟨k, n⟩ := kn
    rw [hld] at h
    simp only at h
    split at h
    · split at h
      · cases h; exact Or.inl ⟨_, rfl, leM.rf⟩
      · cases h
    · cases h
  | none =>
  rw [hld] at h
  simp only at h
  cases hst : stK i with
  | some kn =>
    obtain ⟨k, n⟩ := kn
    rw [hst] at h
    simp only at h
    split at h
    · split at h
      · split at h
        · cases h; exact Or.inl ⟨_, rfl, leM.rf⟩
        · cases h
      · cases h
    · cases h
  | none =>
  rw [hst] at h
  simp only at h
  cases hcs : cst i r with
  | some v =>
    rw [hcs] at h
    cases h; exact Or.inl ⟨_, rfl, leM.rf⟩
  | none =>
  rw [hcs] at h
  simp only at h
  split at h
  · split at h
    · cases h; exact Or.inl ⟨_, rfl, leM.rf⟩
    · cases h
  cases hso : sop i st with
  | some st2 =>
    rw [hso] at h
    cases h; exact Or.inl ⟨_, rfl, leM.rf⟩
  | none =>
  rw [hso] at h
  simp only at h
  cases hbo : bop i st with
  | some q =>
    obtain ⟨b, st2⟩ := q
    rw [hbo] at h
    cases h; exact Or.inl ⟨_, rfl, leM.rf⟩
  | none =>
  rw [hbo] at h
  simp only at h
  split at h
  · split at h
    · split at h
      · split at h
        · cases h; exact Or.inl ⟨_, rfl, leM.rf⟩
        · cases h
      · cases h
    · cases h
  split at h
  · split at h
    · split at h
      · split at h
        · split at h
          · cases h; exact Or.inl ⟨_, rfl, leM.rf⟩
          · cases h
        · cases h
      · cases h
    · cases h
  have key : ∀ st', st' = st → (match exO M pc ln r L st' i with | some s => some s | none => exC M pc ln r L st' i) = some js → ((∃ F : JF, js = .inl F ∧ leM M F.2.2.2) ∨
     (∃ v, st = [v] ∧ rOk i (mR mid) v = true ∧ js = .inr (.inl (.inl (some v), M))) ∨
     (st = [] ∧ i = .return_ ∧ mR mid = none ∧ js = .inr (.inl (.inl none, M))) ∨
     (∃ n, i = .new n ∧ 100 ≤ r.getD 0 0 ∧ stw st ≤ 8 ∧ js = .inr (.inl (.inr (r.getD 0 0 - 100), mthr M))) ∨
     (∃ (mid' : Nat) (args' : List Value) (L' : List (Option Value)) (st' : List Value), exC M pc ln r L st i = some js ∧ js = .inr (.inr (mid', args', (pc + ln, L', st', M))))) := by
    rintro st' rfl h
    cases hexo : exO M pc ln r L st' i with
    | some q =>
      rw [hexo] at h
      cases h
      rcases exO_mem hexo with h1 | h1
      · exact Or.inl h1
      · exact Or.inr (Or.inr (Or.inr (Or.inl h1)))
    | none =>
      rw [hexo] at h
      simp only at h
      rcases exC_mem h with ⟨F, h1, h2⟩ | ⟨a, b, c, d, h1⟩
      · exact Or.inl ⟨F, h1, by rw [h2]; exact leM.rf⟩
      · exact Or.inr (Or.inr (Or.inr (Or.inr ⟨a, b, c, d, h, h1⟩)))
  split at h
  · split at h
    · rename_i hro
      cases h
      exact Or.inr (Or.inl ⟨_, rfl, hro, rfl⟩)
    · exact key _ rfl h
  · split at h
    · rename_i hi
      split at h
      · rename_i hm
        cases h
        exact Or.inr (Or.inr (Or.inl ⟨rfl, hi, hm, rfl⟩))
      · cases h
    · exact key _ rfl h
  · exact key _ rfl h
theorem run_mono {X : JX} : ∀ (n d mid : Nat) (F : JF) (r : JR) (M' : JM), run X n d mid F = some (r, M') → leM F.2.2.2 M' := by
  intro n
  induction n with
  | zero => intro d mid F r M' h; cases h
  | succ n ih =>
    intro d mid F r M' h
    obtain ⟨pc, L, st, M⟩ := F
    unfold run at h
    cases hs : step X mid (pc, L, st, M) with
    | none => rw [hs] at h; cases h
    | some js =>
    rw [hs] at h
    obtain ⟨i, ln, rr, hcd, hk⟩ := step_kinds hs
    rcases hk with ⟨F, rfl, hle⟩ | ⟨v, -, -, rfl⟩ | ⟨-, -, -, rfl⟩ | ⟨q, -, -, -, rfl⟩ | ⟨mid', args', L', st', -, rfl⟩
    · exact hle.tr (ih d mid F r M' h)
    · cases h; exact leM.rf
    · cases h; exact leM.rf
    · cases h; exact ⟨Nat.le_succ _, Nat.le_add_right _ _⟩
    · simp only at h
      cases d with
      | zero => cases h
      | succ d =>
      simp only at h
      split at h
      case isFalse => cases h
      cases hr : run X n d mid' (ent mid' args' M) with
      | none => rw [hr] at h; cases h
      | some q =>
      obtain ⟨r1, M1⟩ := q
      have h1 : leM M M1 := ih d mid' _ r1 M1 hr
      rw [hr] at h
      cases r1 with
      | inl v =>
        simp only at h
        exact h1.tr (ih (d + 1) mid _ r M' h)
      | inr e =>
        simp only at h
        split at h
        · cases h
        split at h
        · cases h; exact h1
        · split at h
          · cases h
          · split at h
            · exact h1.tr (ih (d + 1) mid _ r M' h)
            · cases h
theorem rok_sw {i : Instr} (h : isSw i = true) (ty : Option FieldType) (v : Value) : rOk i ty v = false := by
  unfold isSw at h
  split at h <;> first | (cases h; done) | rfl
theorem hdl_ok {pc e : Nat} {q : Nat × Nat} : ∀ (hs : List (Nat × Nat × Nat × Nat × Nat)), hdl hs pc e = some q → ∃ (pre : List (Nat × Nat × Nat × Nat × Nat)) (x : Nat × Nat × Nat × Nat × Nat) (suf : List (Nat × Nat × Nat × Nat × Nat)), hs = pre ++ x :: suf ∧ x.1 ≤ pc ∧ pc < x.2.1 ∧ x.2.2.1 = e ∧ x.2.2.2 = q ∧ ∀ z ∈ pre, ¬ (z.1 ≤ pc ∧ pc < z.2.1 ∧ z.2.2.1 = e) := by
  intro hs
  induction hs with
  | nil => intro h; cases h
  | cons h0 hs ih =>
    intro h
    unfold hdl at h
    split at h
    · rename_i hc
      exact ⟨[], h0, hs, rfl, hc.1, hc.2.1, hc.2.2, Option.some.inj h, fun z hz => nomatch hz⟩
    · rename_i hc
      obtain ⟨pre, x, suf, h1, h2, h3, h4, h5, h6⟩ := ih h
      refine ⟨h0 :: pre, x, suf, by rw [h1]; rfl, h2, h3, h4, h5, fun z hz => ?_⟩
      rcases List.mem_cons.mp hz with rfl | hz
      · exact hc
      · exact h6 z hz
section JR8
variable {p : Program} {l : Launch} {e : Env} {R : Room} {s : State} {m : MethodId} {args : Array Value} {below : List Frame} {meth : Method} {c : Code} {Q : State → Prop}
variable {mid z0 l0 d : Nat} {D : va_G} {tyC : Nat → ClassId} {base : Nat} {X : JX}
/-- caught -/
theorem S_catch (hC : CX p l s m args meth c mid base D tyC X) {pc k t u : Nat} {ls : Array Slot} {rest : List Value} {L : List (Option Value)} {M' : JM} {H1 : Heap} {locs1 : List Loc} {cells slots : Nat} {ce : Cell} {q : Addr} (hL : LH ls (mL mid) L) (hk5 : k < 5) (hh : hdl (mX mid) pc k = some (t, u)) (hw : u = 0 ∨ wide L[u - 1]? = false) (hcell : H1[q]? = some ce) (hv : ce.vm = .none) (hcl : s.vm.findClass (exN k) = some ce.cls)
    (kk : ∀ ls' : Array Slot, LH ls' (mL mid) (L.set u none) → W p l e R s m args below meth c H1 locs1 cells slots Q (F0 m t ls' [])) : vx_W p l e R s m args below meth c H1 locs1 cells slots Q (F0 m pc ls rest) q := by
  obtain ⟨hexec, hb, hret, hml, hown, hts, hlocks, hnm, htb, htr0, hE, hbs, hX, hmid⟩ := id hC
  obtain ⟨pre, x, suf, h1, h2, h3, h4, h5, h6⟩ := hdl_ok _ hh
  have hH := (chk_ml hmid).2.2
  unfold chkH at hH
  simp only [Bool.and_eq_true, decide_eq_true_eq] at hH
  obtain ⟨hlen, hall⟩ := hH
  have hall := List.all_eq_true.mp hall
  -- the class file's row at each place
  have row : ∀ (j : Nat) (y : Nat × Nat × Nat × Nat × Nat), (mX mid)[j]? = some y → ∃ z : Nat × Nat × Nat × Nat, (mH mid)[j]? = some z ∧ z.1 = y.1 ∧ z.2.1 = y.2.1 ∧ y.2.2.1 < 5 ∧ z.2.2.2 ≠ 0 ∧ inT (.classLink (own mid) z.2.2.2 (exN y.2.2.1)) = true ∧ inT (.castable (exN y.2.2.1) (exN y.2.2.1)) = true ∧
      (∃ i ln, decode (mB mid) z.2.2.1 = .ok (i, ln) ∧ ln = iln i ∧ stK i = some (4, y.2.2.2.2) ∧ y.2.2.2.1 = z.2.2.1 + ln) ∧ y.2.2.2.2 < mL mid := by
    intro j y hy
    have hj : j < (mH mid).length := by rw [hlen]; exact (List.getElem?_eq_some_iff.mp hy).1
    obtain ⟨z, hz⟩ : ∃ z, (mH mid)[j]? = some z := ⟨_, List.getElem?_eq_getElem hj⟩
    have hzip : ((mH mid).zip (mX mid))[j]? = some (z, y) := by rw [List.getElem?_zip_eq_some]; exact ⟨hz, hy⟩
    have h9 := hall _ (List.mem_of_getElem? hzip)
    simp only [Bool.and_eq_true, decide_eq_true_eq] at h9
    obtain ⟨⟨⟨⟨⟨⟨⟨⟨a1, a2⟩, a3⟩, a4⟩, a5⟩, a6⟩, a7⟩, a8⟩, -⟩ := h9
    refine ⟨z, hz, a1, a2, a3, a4, a5, a6, ?_, a8⟩
    split at a7
    · rename_i i ln hd
      simp only [Bool.and_eq_true, decide_eq_true_eq] at a7
      exact ⟨i, ln, hd, a7.1.1, a7.1.2, a7.2⟩
    · cases a7
  have hxj : (mX mid)[pre.length]? = some x := by rw [h1]; simp
  obtain ⟨z, hz, z1, z2, z3, z4, z5, z6, ⟨i, ln, hdc, hln, hstk, htg⟩, z8⟩ := row _ _ hxj
  have inT_gl : ∀ (n : Nat) (C : String), inT (.classLink (own mid) n C) = true → Cond.classLink (own mid) n C ∈ GL := by
    intro n C h
    unfold inT at h
    simp only [Bool.and_eq_true, decide_eq_true_eq] at h
    exact List.mem_filter.mpr ⟨h.1, rfl⟩
  have hcast : Cond.castable (exN k) (exN k) ∈ NL := by
    rw [h4] at z6
    unfold inT at z6
    simp only [Bool.and_eq_true, decide_eq_true_eq] at z6
    exact List.mem_filter.mpr ⟨z6.1, rfl⟩
  have hsplit : c.exceptionTable.toList = tableOf ((mH mid).take pre.length) ++ (⟨z.1, z.2.1, z.2.2.1, z.2.2.2⟩ : ExceptionTableEntry) :: tableOf ((mH mid).drop (pre.length + 1)) := by
    have hm0 : 0 < mid := by
      rcases Nat.eq_zero_or_pos mid with h | h
      · subst h; cases hh
      · exact h
    rw [htb hm0]
    have hlt := (List.getElem?_eq_some_iff.mp hz).1
    have e0 : (mH mid)[pre.length] = z := (List.getElem?_eq_some_iff.mp hz).2
    have e1 : mH mid = (mH mid).take pre.length ++ z :: (mH mid).drop (pre.length + 1) := by
      rw [← e0, List.getElem_cons_drop, List.take_append_drop]
    unfold tableOf
    conv => lhs; rw [e1]
    rw [List.map_append, List.map_cons]
  have hst : ∃ L', stL L u (.ref q) = some L' ∧ ∀ ls', LH ls' (mL mid) L' → LH ls' (mL mid) (L.set u none) := by
    have hu2 : x.2.2.2.2 = u := by rw [h5]
    have hul : u < L.length := by rw [hL.1, ← hu2]; exact z8
    refine ⟨L.set u (some (.ref q)), ?_, fun ls' h => ?_⟩
    · unfold stL
      rw [if_neg (by simp [Value.category]), if_pos ⟨hul, hw⟩]
    · have := h.drop u
      rw [List.set_set] at this
      exact this
  obtain ⟨L', hL', hLL⟩ := hst
  refine vx_catch hown _ _ _ hsplit ?_ ?_ z4 (hts _ (inT_gl _ _ z5)) (va_Nw.use rfl (hE.1 _ (by rw [h4]; exact hcast))) hcell hv hcl ?_
  · intro y hy
    obtain ⟨w, hw, rfl⟩ := List.mem_map.mp hy
    obtain ⟨j, hj⟩ := List.getElem?_of_mem hw
    have hjl : j < pre.length := by
      have := (List.getElem?_eq_some_iff.mp hj).1
      rw [List.length_take] at this
      omega
    have hw2 : (mH mid)[j]? = some w := by rw [List.getElem?_take_of_lt hjl] at hj; exact hj
    have hjx : (mX mid)[j]? = some pre[j] := by rw [h1, List.getElem?_append_left hjl, List.getElem?_eq_getElem hjl]
    obtain ⟨w', hw', y1, y2, y3, y4, y5, -, -, -⟩ := row j _ hjx
    have : w' = w := Option.some.inj (hw'.symm.trans hw2)
    subst this
    have hno := h6 _ (List.getElem_mem hjl)
    by_cases hcov : pre[j].1 ≤ pc ∧ pc < pre[j].2.1
    · right
      refine ⟨y4, exN pre[j].2.2.1, hts _ (inT_gl _ _ y5), ?_⟩
      exact hE.2.2.2.2.2.2.2 k _ hk5 y3 (fun h => hno ⟨hcov.1, hcov.2, h.symm⟩)
    · left
      simp only [covers, y1, y2]
      simp only [Bool.and_eq_false_iff, decide_eq_false_iff_not]
      omega
  · simp only [covers, z1, z2]
    simp [h2, h3]
  · have hq : x.2.2.2 = (t, u) := h5
    have hu : x.2.2.2.2 = u := by rw [hq]
    have ht : x.2.2.2.1 = t := by rw [hq]
    rw [hu] at hstk
    rw [ht] at htg
    subst hln
    refine S_st hexec hb hstk hdc hL hL' rfl (fun ls' hl => ?_)
    rw [← htg]
    exact kk ls' (hLL ls' hl)
end JR8
