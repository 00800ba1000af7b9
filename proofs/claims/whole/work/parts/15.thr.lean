/-! 'throw new E("text")' as one step -/
theorem thr_all {k : Nat} (h : k < 5) : ∀ w ∈ (jx_atoms "RegexTracer" (icX k) (exN k) (ixX k) (bxX k)).filter vx_no, w ∈ GL ∨ w ∈ NL := by
  have key : ((jx_atoms "RegexTracer" (icX k) (exN k) (ixX k) (bxX k)).filter vx_no).all inT = true := by
    rcases (show k = 0 ∨ k = 1 ∨ k = 2 ∨ k = 3 ∨ k = 4 by omega) with rfl | rfl | rfl | rfl | rfl
    · exact thr_0
    · exact thr_1
    · exact thr_2
    · exact thr_3
    · exact thr_4
  intro w hw
  have h1 := List.all_eq_true.mp key w hw
  unfold inT at h1
  simp only [Bool.and_eq_true, decide_eq_true_eq, Bool.or_eq_true] at h1
  rcases h1.2 with h2 | h2
  · exact Or.inl (List.mem_filter.mpr ⟨h1.1, h2⟩)
  · exact Or.inr (List.mem_filter.mpr ⟨h1.1, h2⟩)
theorem bx_ok (k : Nat) : decode (bxX k) 0 = .ok (.aload_n 0, 1) ∧ decode (bxX k) 1 = .ok (.aload_n 1, 1) ∧ decode (bxX k) 2 = .ok (.invokespecial (ixX k), 3) ∧ decode (bxX k) 5 = .ok (.return_, 1) := by
  unfold bxX ixX
  split
  · decide +kernel
  · decide +kernel
theorem ex_fit {k : Nat} (h : k < 5) : Bundle.fit (exN k) = true := by
  rcases (show k = 0 ∨ k = 1 ∨ k = 2 ∨ k = 3 ∨ k = 4 by omega) with rfl | rfl | rfl | rfl | rfl <;> decide +kernel
section JR7
variable {p : Program} {l : Launch} {e : Env} {R : Room} {s : State} {m : MethodId} {args : Array Value} {below : List Frame} {meth : Method} {c : Code} {H : Heap} {locs : List Loc} {cells slots : Nat}
variable {pc mid n : Nat} {ls : Array Slot} {st : List Value} {D : va_G} {tyC : Nat → ClassId} {base : Nat} {M : JM} {X : JX} {r : List Nat}
theorem S_thr (hC : CX p l s m args meth c mid base D tyC X) (hS : va_S (fun q => base ≤ q) s.heap H locs) (hsize : ls.size = mL mid) (h100 : 100 ≤ r.getD 0 0) (hchk : chT mid pc n r = true) (hw8 : stw st ≤ 8) (hR : 9 ≤ R.frames ∧ 120 ≤ R.locals) (hRc : cells + 1 ≤ R.cells) (hRs : slots + 6 ≤ R.slots)
    (d0 : decode (mB mid) pc = .ok (.new n, 3)) {Qc : Array Value → State → Outcome → State → Prop} {XC : String → State → State → Prop} {free : Addr → Prop}
    (hx : ∀ t : State, t.heap.size = H.size + 1 → (∀ q : Nat, q < H.size → t.heap[q]? = H[q]?) → XC (exN (r.getD 0 0 - 100)) s t) (hf : ∀ z ∈ locs, free z.base) :
    W p l e R s m args below meth c H locs cells slots (vx_MQ below Qc XC args s (cells + 1) (slots + 6) free) (F0 m pc ls st) := by
  obtain ⟨hexec, hb, hret, hml, hown, hts, hlocks, hnm, htb, htr0, hE, hbs, hX, hmid⟩ := id hC
  obtain ⟨k, hk⟩ : ∃ k, k = r.getD 0 0 - 100 := ⟨_, rfl⟩
  unfold chT at hchk
  rw [← hk] at hchk hx
  simp only [Bool.and_eq_true, decide_eq_true_eq] at hchk
  obtain ⟨⟨⟨⟨⟨⟨h105, hw1⟩, hw2⟩, hsl⟩, hownR⟩, hic⟩, hmH⟩ := hchk
  have hk5 : k < 5 := by omega
  split at hsl
  · rename_i o si tx hSL
    simp only [Bool.and_eq_true, decide_eq_true_eq] at hsl
    obtain ⟨⟨ho, d3⟩, hdd⟩ := hsl
    subst ho
    obtain ⟨lc, hlc, d4, d6, d9⟩ : ∃ lc : Nat, ((lc = 2 ∧ decode (mB mid) (pc + 4) = .ok (.ldc si, 2)) ∨ (lc = 3 ∧ decode (mB mid) (pc + 4) = .ok (.ldc_w si, 3))) ∧ True ∧ decode (mB mid) (pc + 4 + lc) = .ok (.invokespecial (r.getD 4 0), 3) ∧ decode (mB mid) (pc + 4 + lc + 3) = .ok (.athrow, 1) := by
      split at hdd
      · simp only [Bool.and_eq_true, decide_eq_true_eq] at hdd
        exact ⟨2, Or.inl ⟨rfl, hdd.1.1⟩, trivial, hdd.1.2, hdd.2⟩
      · simp only [Bool.and_eq_true, decide_eq_true_eq] at hdd
        exact ⟨3, Or.inr ⟨rfl, hdd.1.1⟩, trivial, hdd.1.2, hdd.2⟩
    obtain ⟨sa, hstr⟩ := hE.2.1 _ (List.mem_of_getElem? hSL)
    have hout : ∀ x ∈ c.exceptionTable.toList, covers x (pc + 4 + lc + 3) = false := by
      have hm0 : 0 < mid := by
        rcases Nat.eq_zero_or_pos mid with h | h
        · subst h; exact absurd hownR (by decide)
        · exact h
      rw [htb hm0, hmH]
      intro x hx
      cases hx
    rw [hic] at d6
    intro T hT X
    have htr : e.platform.stackTraces = false := (show e.platform.stackTraces = l.stackTraces by rw [X.admits.platform]).trans htr0
    have Y := vx_rebase X (R' := { frames := R.frames, locals := R.locals, cells := 1, slots := 6 }) (Nat.le_refl _) (Nat.le_refl _) hRc hRs
    obtain ⟨s', hA⟩ : ∃ z, z = (T.setVm s.vm).setFrames (.invoking m args :: below) := ⟨_, rfl⟩
    rw [← hA] at Y
    have hvm : s'.vm = s.vm := by rw [hA]; rfl
    have hhp : s'.heap = H := by rw [hA]; exact hT
    have hW0 : s.WarmedH s'.vm := by rw [hvm]; exact State.WarmedH.refl s
    have hts' : ∀ w ∈ GL, w.before args s' = true := fun w hw => word_at hW0 (good_of_word (GL_good w hw)) (hts w hw)
    have hE' : EN base D tyC s' s'.heap := hE.warm hW0 (fun a h1 h2 => by rw [hhp]; exact hS.2.1 a h1 h2)
    have hU' := hE'.2.2.1
    have hN' := hE'.2.2.2.1
    have h : ∀ w ∈ jx_atoms "RegexTracer" (icX k) (exN k) (ixX k) (bxX k), w.before args s' = true := by
      refine vx_own (fun w hw => ?_) (vx_isRefq hU'.1) (vx_isRefq hN'.1) hU'.2.word hN'.2.word
      rcases thr_all hk5 w hw with h1 | h1
      · exact hts' w h1
      · have h2 := (List.mem_filter.mp h1).2
        refine va_Nw.use ?_ (hE'.1 w h1)
        unfold nlk at h2
        split at h2 <;> first | (cases h2; done) | rfl
    have hown' : s'.vm.findClass (own mid) = some m.cls := by rw [hvm]; exact hown
    have hins : (Cond.instantiable (exN k) 6).before args s' = true := h _ (by simp [jx_atoms])
    obtain ⟨vm₁, cX, kX, hfX, hkX, -, -, X₁, st1⟩ := Y.newCold hexec (own := own mid) (C := exN k) (index := n) (n := 6) hown' (hts' _ (gw_in hw1)) hins (hts' _ (gw_in hw2))
      (g := F0 m pc ls st) rfl (by rw [hb]; exact d0) (Nat.le_refl _) (Nat.le_refl _)
    generalize hT1 : (T.setVm vm₁).pushCell { cls := cX, slots := kX.instanceTypes.map defaultValue, vm := .none } = T1 at X₁ st1
    have hcat : (Value.ref T.heap.size).category = 1 := rfl
    have hcellA : T1.heap[T.heap.size]? = some (freshCell cX kX) := by rw [← hT1]; exact State.heap_pushCell_size _ _
    have d3' : decode c.code (pc + 3) = .ok (.dup, 1) := by rw [hb]; exact d3
    have hstr' : vk_R (own mid) si tx sa s' := vk_R.warm hW0 hstr
    obtain ⟨g0, g1, g2, g5⟩ := bx_ok k
    have hw8' : (st.map fun v => v.category).sum ≤ 8 := hw8
    obtain ⟨U, hsteps, hrun, hend, hW, hsame, ce, hce, hcv, hcl0⟩ := jx_ctor X₁ hexec htr (own := own mid) (cls := exN k) (ic := icX k) (ix := ixX k) (bx := bxX k) g0 g1 g2 g5 hown' (ex_fit hk5) (by rw [hownR]; exact h) (fun x hx => nomatch hx) hfX hkX hcellA (by rw [hhp, hT]; exact Nat.le_refl _) (msg := .ref sa) rfl
      (g := { method := m, pc := pc + 4 + lc, locals := ls, stack := .ref sa :: .ref T.heap.size :: .ref T.heap.size :: st, locked := none }) rfl (by rw [hml]; exact hsize) rfl rfl (rest := st) rfl
      (by rw [hb]; exact d6) (by rw [hb]; exact d9) hout (by show 5 < R.frames; omega) (by simp only [List.map_cons, List.sum_cons, hcat]; show 2 * 0 + _ + 81 ≤ R.locals; omega) hlocks
    obtain ⟨f1, f2⟩ := vx_frame hsame
    rw [hhp] at f1 f2
    have hWs : s.WarmedH U.vm := State.WarmedH.trans hW0 hW
    have hcl : s.vm.findClass (exN k) = some ce.cls := by
      rw [hvm] at hcl0
      exact hcl0
    have hsz1 : U.heap.size ≤ H.size + 1 := by
      have h9 := hsame.2.2.1
      have h10 : U.heap.size ≤ s'.heap.size + (0 + 1) := h9
      rw [hhp] at h10
      exact h10
    have hsz2 : H.size < U.heap.size := by
      have := (Array.getElem?_eq_some_iff.mp hce).1
      rw [hT] at this
      exact this
    have hall : s.sameButNew ({ U with vm := s.vm } : State) locs (cells + 1) (slots + 6) := by
      subst hA
      obtain ⟨e1, e2⟩ := hsame
      rw [State.setFrames_setFrames] at e1
      have h2 : (T.setVm s.vm).sameButNew ({ U with vm := s.vm } : State) [] (0 + 1) (0 + 6) := ⟨e1, e2⟩
      have h3 := X.same.trans h2
      rw [List.append_nil] at h3
      exact h3.mono (by omega) (by omega)
    refine ⟨U, ?_, .threw T.heap.size, hrun, hend, Or.inr ⟨T.heap.size, rfl, exN k, ce, locs, hx U (by omega) (fun q hq => f2 q hq (fun z hz => nomatch hz)), hce, hcv, hcl, hWs, hall, hf⟩⟩
    refine st1 _ ?_
    show Steps p.tables e below (T1.setTop { method := m, pc := pc + 3, locals := ls, stack := .ref T.heap.size :: st, locked := none }) _
    jvm_step X₁.here [X₁.here.top, hexec, d3', Value.category]
    rcases hlc with ⟨rfl, d4'⟩ | ⟨rfl, d4'⟩
    · exact X₁.ldcString hexec (own := own mid) (text := tx) (index := si) (a := sa) hown' hstr'.1 hstr'.2
        (g := { method := m, pc := pc + 4, locals := ls, stack := .ref T.heap.size :: .ref T.heap.size :: st, locked := none }) rfl (by rw [hb]; exact d4') _ hsteps
    · exact X₁.ldcStringW hexec (own := own mid) (text := tx) (index := si) (a := sa) hown' hstr'.1 hstr'.2
        (g := { method := m, pc := pc + 4, locals := ls, stack := .ref T.heap.size :: .ref T.heap.size :: st, locked := none }) rfl (by rw [hb]; exact d4') _ hsteps
  · cases hsl
end JR7
