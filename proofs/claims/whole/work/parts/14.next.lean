/-! one step of the small machine that goes on in the same frame -/
def CX (p : Program) (l : Launch) (s : State) (m : MethodId) (args : Array Value) (meth : Method) (c : Code) (mid base : Nat) (D : va_G) (tyC : Nat → ClassId) (X : JX) : Prop :=
  p.tables.exec = Jvm.exec ∧ c.code = mB mid ∧ meth.sig.returnType = mR mid ∧ c.maxLocals = mL mid ∧ s.vm.findClass (own mid) = some m.cls ∧ (∀ w ∈ GL, w.before args s = true) ∧ meth.locks = false ∧ ((mN mid).name = "<init>" → meth.name = "<init>") ∧
  (0 < mid → c.exceptionTable.toList = tableOf (mH mid)) ∧ l.stackTraces = false ∧ EN base D tyC s s.heap ∧ base ≤ s.heap.size ∧ (mid = 0 → va_X X.1 X.2.1 X.2.2 s s.heap ∧ X.1 < s.heap.size ∧ X.1 < base) ∧ mid < NM
theorem sw_no {i : Instr} (h : isSw i = true) (r : List Nat) (st : List Value) : ldK i = none ∧ stK i = none ∧ cst i r = none ∧ sop i st = none ∧ bop i st = none ∧ isAld i = false ∧ isAst i = false := by
  unfold isSw at h
  split at h <;> first | (cases h; done) | skip
  · exact ⟨rfl, rfl, rfl, rfl, rfl, rfl, rfl⟩
  · exact ⟨rfl, rfl, rfl, rfl, rfl, rfl, rfl⟩
theorem chk_cst {mid pc : Nat} {i : Instr} {r : List Nat} (h : chkR mid pc i r = true) : ∀ n : Nat, (i = .ldc n ∨ i = .ldc_w n) → Cond.constant (own mid) n (Int32.ofNat (r.getD 0 0)) ∈ GL := by
  rintro n (rfl | rfl)
  · exact gw_in h
  · exact gw_in h
theorem chk_btg {mid pc : Nat} {i : Instr} {r : List Nat} (h : chkR mid pc i r = true) : ∀ o, btg i = some o → (pc : Int) + o = (r.getD 0 0 : Nat) := by
  intro o ho
  unfold btg at ho
  split at ho <;> first | (cases ho; done) | skip
  all_goals (cases ho; exact of_decide_eq_true h)
section JR6
variable {p : Program} {l : Launch} {e : Env} {R : Room} {s : State} {m : MethodId} {args : Array Value} {below : List Frame} {meth : Method} {c : Code} {H : Heap} {locs : List Loc} {Q : State → Prop}
variable {pc mid z0 l0 : Nat} {ls : Array Slot} {st : List Value} {D : va_G} {tyC : Nat → ClassId} {base : Nat} {M : JM} {L : List (Option Value)} {X : JX}
theorem S_scr (hC : CX p l s m args meth c mid base D tyC X) {i : Instr} {st' : List Value} {cells slots : Nat} (h0 : mid = 0) (hs : scrOp X i st = some st') (hS : va_S (fun q => base ≤ q) s.heap H locs) (hdg : decode (mB mid) pc = .ok (i, iln i))
    (kk : W p l e R s m args below meth c H locs cells slots Q (F0 m (pc + iln i) ls st')) : W p l e R s m args below meth c H locs cells slots Q (F0 m pc ls st) := by
  obtain ⟨hx, hb, hr, hml, hown, hts, hlk, hnm, htb, htr, hE, hbs, hX, hmid⟩ := hC
  obtain ⟨hXa, hXl, hXb⟩ := hX h0
  unfold scrOp at hs
  split at hs
  · split at hs
    · rename_i h; cases hs
      obtain ⟨rfl, hin⟩ := h
      exact va_sld hx hb hXa hXl (by omega) hS hin hdg kk
    · cases hs
  · split at hs
    · rename_i h; cases hs
      subst h
      exact va_slen hx hb hXa hXl (by omega) hS hdg kk
    · cases hs
  · cases hs
theorem S_math (hC : CX p l s m args meth c mid base D tyC X) {n : Nat} {r : List Nat} {st' : List Value} {cells slots : Nat} (hs : mathOp (r.getD 0 0) st = some st') (hw8 : stw st' ≤ 9) (hlen : ls.size = mL mid) (hchk : chkR mid pc (.invokestatic n) r = true) (hR : 9 ≤ R.frames ∧ 120 ≤ R.locals) (hc : cells ≤ R.cells) (hsl : slots ≤ R.slots) (hdg : decode (mB mid) pc = .ok (.invokestatic n, 3))
    (kk : W p l e R s m args below meth c H locs cells slots Q (F0 m (pc + 3) ls st')) : W p l e R s m args below meth c H locs cells slots Q (F0 m pc ls st) := by
  obtain ⟨hx, hb, hr, hml, hown, hts, hlk, hnm, htb, htr, hE, hbs, hX, hmid⟩ := hC
  unfold mathOp at hs
  split at hs
  · rename_i y x rest
    simp only [chkR] at hchk
    split at hs
    · rename_i hk
      rw [if_pos hk] at hchk
      simp only [Bool.and_eq_true] at hchk
      cases hs
      refine va_mmin hx hb (hml.trans hlen.symm) hown (hts _ (gw_in hchk.1.1.1)) (hts _ (gw_in hchk.1.1.2)) (hts _ (gw_in hchk.1.2)) (hts _ (gw_in hchk.2)) (by omega) ?_ hc hsl hdg kk
      simp only [stw, List.map_cons, List.sum_cons] at hw8
      omega
    · rename_i hk
      rw [if_neg hk] at hchk
      split at hs
      · rename_i hk1
        rw [if_pos hk1] at hchk
        simp only [Bool.and_eq_true] at hchk
        cases hs
        refine va_mmax hx hb (hml.trans hlen.symm) hown (hts _ (gw_in hchk.1.1.1)) (hts _ (gw_in hchk.1.1.2)) (hts _ (gw_in hchk.1.2)) (hts _ (gw_in hchk.2)) (by omega) ?_ hc hsl hdg kk
        simp only [stw, List.map_cons, List.sum_cons] at hw8
        omega
      · cases hs
  · cases hs
/-- exO, going on -/
theorem S_exO (hC : CX p l s m args meth c mid base D tyC X) {i : Instr} {ln pc' : Nat} {r : List Nat} {L' : List (Option Value)} {st' : List Value} {M' : JM} (hM : MR D tyC base M H) (hS : va_S (fun q => base ≤ q) s.heap H locs) (hL : LH ls (mL mid) L) (hz : z0 ≤ M.1) (hl0 : l0 ≤ M.2.1)
    (hdg : decode (mB mid) pc = .ok (i, ln)) (hln : ln = iln i ∨ isSw i = true) (hchk : chkR mid pc i r = true) (hstep : exO M pc ln r L st i = some (.inl (pc', L', st', M'))) (hroom : M'.1 - z0 ≤ R.cells ∧ M'.2.1 - l0 ≤ R.slots)
    (kk : ∀ (ls' : Array Slot) (H' : Heap) (locs' : List Loc), MR D tyC base M' H' → va_S (fun q => base ≤ q) s.heap H' locs' → LH ls' (mL mid) L' → W p l e R s m args below meth c H' locs' (M'.1 - z0) (M'.2.1 - l0) Q (F0 m pc' ls' st')) : W p l e R s m args below meth c H locs (M.1 - z0) (M.2.1 - l0) Q (F0 m pc ls st) := by
  obtain ⟨hx, hb, hr, hml, hown, hts, hlk, hnm, htb, htr, hE, hbs, hX, hmid⟩ := id hC
  unfold exO at hstep
  split at hstep
  · -- getfield
    rcases hln with rfl | hsw
    · split at hstep
      · rename_i a rest c0 fs ha
        split at hstep
        · rename_i hc0
          subst hc0
          split at hstep
          · rename_i v hv
            cases hstep
            exact S_getf hx hb hts hown hE hM hchk ha hv hdg (kk ls H locs hM hS hL)
          · cases hstep
        · cases hstep
      · cases hstep
    · cases hsw
  · -- putfield
    rcases hln with rfl | hsw
    · split at hstep
      · rename_i v a rest c0 fs ha
        split at hstep
        · rename_i hc0
          obtain ⟨rfl, h2, h3⟩ := hc0
          cases hstep
          simp only [chkR, Bool.and_eq_true] at hchk
          exact S_putf hx hb hts hown hnm hE hM hS hchk.1 hchk.2 ha h2 h3 hdg (fun H1 locs1 hM1 hS1 => kk ls H1 locs1 hM1 hS1 hL)
        · cases hstep
      · cases hstep
    · cases hsw
  · -- arraylength
    rcases hln with rfl | hsw
    · split at hstep
      · rename_i a rest t n g ha
        cases hstep
        exact S_alen hx hb hE.2.2.2.2.1 hM ha hdg (kk ls H locs hM hS hL)
      · cases hstep
    · cases hsw
  · -- new
    rcases hln with rfl | hsw
    · split at hstep
      · split at hstep <;> cases hstep
      · rename_i h100
        cases hstep
        simp only [chkR] at hchk
        rw [if_neg h100] at hchk
        split at hchk
        · rename_i C T N hcl
          simp only [Bool.and_eq_true] at hchk
          have e1 : M.1 + 1 - z0 = M.1 - z0 + 1 := by omega
          have e2 : M.2.1 + (clD (r.getD 0 0)).length - l0 = M.2.1 - l0 + (clD (r.getD 0 0)).length := by omega
          have k1 : M.1 - z0 + 1 ≤ R.cells := by rw [← e1]; exact hroom.1
          have k2 : M.2.1 - l0 + (clD (r.getD 0 0)).length ≤ R.slots := by rw [← e2]; exact hroom.2
          refine S_new hx hb hts hown hE hM hS hbs hcl hchk.1.1 hchk.1.2 hchk.2 hdg k1 k2 (fun H1 hM1 hS1 => ?_)
          have := kk ls H1 locs hM1 hS1 hL
          simp only [mnew] at this
          rw [e1, e2] at this
          exact this
        · cases hchk
    · cases hsw
  · -- newarray
    rcases hln with rfl | hsw
    · rename_i ty n rest
      split at hstep
      · rename_i hn
        cases hstep
        simp only [chkR, Bool.and_eq_true, decide_eq_true_eq] at hchk
        have e1 : M.1 + 1 - z0 = M.1 - z0 + 1 := by omega
        have e2 : M.2.1 + n.toNatClampNeg - l0 = M.2.1 - l0 + n.toNatClampNeg := by omega
        have k1 : M.1 - z0 + 1 ≤ R.cells := by rw [← e1]; exact hroom.1
        have k2 : M.2.1 - l0 + n.toNatClampNeg ≤ R.slots := by rw [← e2]; exact hroom.2
        refine S_newa hx hb hts hE hM hS hbs hchk.1.1 hchk.1.2 hchk.2 hn.1 hn.2 hdg k1 k2 (fun H1 hM1 hS1 => ?_)
        have := kk ls H1 locs hM1 hS1 hL
        simp only [mnew] at this
        rw [e1, e2] at this
        exact this
      · cases hstep
    · cases hsw
  · -- anewarray
    rcases hln with rfl | hsw
    · rename_i ix n rest
      split at hstep
      · rename_i hn
        cases hstep
        simp only [chkR, Bool.and_eq_true, decide_eq_true_eq, Bool.or_eq_true] at hchk
        have e1 : M.1 + 1 - z0 = M.1 - z0 + 1 := by omega
        have e2 : M.2.1 + n.toNatClampNeg - l0 = M.2.1 - l0 + n.toNatClampNeg := by omega
        have k1 : M.1 - z0 + 1 ≤ R.cells := by rw [← e1]; exact hroom.1
        have k2 : M.2.1 - l0 + n.toNatClampNeg ≤ R.slots := by rw [← e2]; exact hroom.2
        have kk2 : ∀ H1 : Heap, MR D tyC base (mnew M n.toNatClampNeg (.inl (r.getD 0 0, n.toNatClampNeg, fun _ => .null))) H1 → va_S (fun q => base ≤ q) s.heap H1 locs → W p l e R s m args below meth c H1 locs (M.1 - z0 + 1) (M.2.1 - l0 + n.toNatClampNeg) Q (F0 m (pc + 3) ls (.ref M.1 :: rest)) := by
          intro H1 hM1 hS1
          have := kk ls H1 locs hM1 hS1 hL
          simp only [mnew] at this
          rw [e1, e2] at this
          exact this
        rcases hchk with ⟨h5, hw⟩ | ⟨h6, hw⟩
        · exact S_anew hx hb hown hE hM hS hbs (hts _ (gw_in hw)) hE.2.2.2.2.2.1 (by omega) (by rw [h5]; rfl) hn.1 hn.2 hdg k1 k2 kk2
        · exact S_anew hx hb hown hE hM hS hbs (hts _ (gw_in hw)) hE.2.2.2.2.2.2.1 (by omega) (by rw [h6]; rfl) hn.1 hn.2 hdg k1 k2 kk2
      · cases hstep
    · cases hsw
  · -- tableswitch
    split at hstep
    · rename_i t ht
      cases hstep
      simp only [chkR, Bool.and_eq_true, decide_eq_true_eq] at hchk
      exact S_tsw hx hb hchk.1.1.1 hchk.1.1.2 hchk.1.2 hchk.2 ht hdg (kk ls H locs hM hS hL)
    · cases hstep
  · -- lookupswitch
    rename_i dflt ps x rest
    split at hstep
    · rename_i t ht
      cases hstep
      simp only [chkR, Bool.and_eq_true, decide_eq_true_eq] at hchk
      obtain ⟨⟨⟨h1, h2⟩, h3⟩, h4⟩ := hchk
      have h0 : r[0]? = some (r.getD 0 0) := by
        have : 0 < r.length := by omega
        rw [List.getD_eq_getElem?_getD, List.getElem?_eq_getElem this]; rfl
      rw [h0] at ht
      exact lv_lookup hx hb hdg h1 rfl (swL_ok h3 ps.toList (r.drop 1) (by simp; omega) h4 ht) (kk ls H locs hM hS hL)
    · cases hstep
  · -- iinc
    rcases hln with rfl | hsw
    · split at hstep
      · rename_i k n st0 x hx2
        split at hstep
        · rename_i hwd
          cases hstep
          exact S_iinc hx hb hL hx2 hwd hdg (fun ls' hl => kk ls' H locs hM hS hl)
        · cases hstep
      · cases hstep
    · cases hsw
  · cases hstep
theorem S_next (hC : CX p l s m args meth c mid base D tyC X) {pc' : Nat} {L' : List (Option Value)} {st' : List Value} {M' : JM} (hM : MR D tyC base M H) (hS : va_S (fun q => base ≤ q) s.heap H locs) (hL : LH ls (mL mid) L) (hz : z0 ≤ M.1) (hl0 : l0 ≤ M.2.1) (hR : 9 ≤ R.frames ∧ 120 ≤ R.locals)
    (hstep : step X mid (pc, L, st, M) = some (.inl (pc', L', st', M'))) (hroom : M'.1 - z0 ≤ R.cells ∧ M'.2.1 - l0 ≤ R.slots)
    (kk : ∀ (ls' : Array Slot) (H' : Heap) (locs' : List Loc), MR D tyC base M' H' → va_S (fun q => base ≤ q) s.heap H' locs' → LH ls' (mL mid) L' → W p l e R s m args below meth c H' locs' (M'.1 - z0) (M'.2.1 - l0) Q (F0 m pc' ls' st')) : W p l e R s m args below meth c H locs (M.1 - z0) (M.2.1 - l0) Q (F0 m pc ls st) := by
  obtain ⟨hx, hb, hr, hml, hown, hts, hlk, hnm, htb, htr, hE, hbs, hX, hmid⟩ := id hC
  unfold step at hstep
  simp only at hstep
  cases hcd : cd mid pc with
  | none => rw [hcd] at hstep; cases hstep
  | some q =>
  obtain ⟨i, ln, r⟩ := q
  rw [hcd] at hstep
  simp only at hstep
  obtain ⟨hdg, hln, hm0, hchk⟩ := chk_sp hmid hcd
  cases hld : ldK i with
  | some kn =>
    obtain ⟨k, n⟩ := kn
    rw [hld] at hstep
    simp only at hstep
    rcases hln with rfl | hsw
    · split at hstep
      · rename_i v hv
        split at hstep
        · rename_i hk
          cases hstep
          exact S_ld hx hb hld hdg (hL.2.2.2 _ _ hv) hk (kk ls H locs hM hS hL)
        · cases hstep
      · cases hstep
    · rw [(sw_no hsw r st).1] at hld; cases hld
  | none =>
  rw [hld] at hstep
  simp only at hstep
  cases hst : stK i with
  | some kn =>
    obtain ⟨k, n⟩ := kn
    rw [hst] at hstep
    simp only at hstep
    rcases hln with rfl | hsw
    · split at hstep
      · rename_i v rest
        split at hstep
        · rename_i hk
          split at hstep
          · rename_i L2 hL2
            cases hstep
            exact S_st hx hb hst hdg hL hL2 hk (fun ls' hl => kk ls' H locs hM hS hl)
          · cases hstep
        · cases hstep
      · cases hstep
    · rw [(sw_no hsw r st).2.1] at hst; cases hst
  | none =>
  rw [hst] at hstep
  simp only at hstep
  cases hcs : cst i r with
  | some v =>
    rw [hcs] at hstep
    simp only at hstep
    rcases hln with rfl | hsw
    · cases hstep
      exact S_cst hx hb hown (fun n h => hts _ (chk_cst hchk n h)) hcs hdg (kk ls H locs hM hS hL)
    · rw [(sw_no hsw r st).2.2.1] at hcs; cases hcs
  | none =>
  rw [hcs] at hstep
  simp only at hstep
  split at hstep
  · rename_i hr1
    split at hstep
    · rename_i st2 hsc
      cases hstep
      have hmz : mid = 0 := by
        rcases hm0 with h | h
        · exact h
        · exact absurd hr1 h
      rcases hln with rfl | hsw
      · exact S_scr hC hmz hsc hS hdg (kk ls H locs hM hS hL)
      · unfold scrOp at hsc
        split at hsc <;> first | (cases hsw; done) | (cases hsc; done)
    · cases hstep
  cases hso : sop i st with
  | some st2 =>
    rw [hso] at hstep
    simp only at hstep
    rcases hln with rfl | hsw
    · cases hstep
      exact S_sop hx hb hso hdg (kk ls H locs hM hS hL)
    · rw [(sw_no hsw r st).2.2.2.1] at hso; cases hso
  | none =>
  rw [hso] at hstep
  simp only at hstep
  cases hbo : bop i st with
  | some q =>
    obtain ⟨b, st2⟩ := q
    rw [hbo] at hstep
    simp only at hstep
    rcases hln with rfl | hsw
    · cases hstep
      exact S_bop hx hb hbo hdg (chk_btg hchk) (kk ls H locs hM hS hL)
    · rw [(sw_no hsw r st).2.2.2.2.1] at hbo; cases hbo
  | none =>
  rw [hbo] at hstep
  simp only at hstep
  split at hstep
  · rename_i hal
    rcases hln with rfl | hsw
    · split at hstep
      · rename_i k a rest
        split at hstep
        · rename_i t n g ha
          split at hstep
          · rename_i hc
            cases hstep
            exact S_ald hx hb hE.2.2.2.2.1 hM ha hal hc.1 hc.2 hdg (kk ls H locs hM hS hL)
          · cases hstep
        · cases hstep
      · cases hstep
    · rw [(sw_no hsw r st).2.2.2.2.2.1] at hal; cases hal
  split at hstep
  · rename_i hal
    rcases hln with rfl | hsw
    · split at hstep
      · rename_i v k a rest
        split at hstep
        · rename_i t n g ha
          split at hstep
          · rename_i w hw
            split at hstep
            · rename_i hin
              cases hstep
              exact S_ast hx hb hE.2.2.2.2.1 hM hS (fun q h => h) ha hw hin hdg (fun H1 locs1 hM1 hS1 => kk ls H1 locs1 hM1 hS1 hL)
            · cases hstep
          · cases hstep
        · cases hstep
      · cases hstep
    · rw [(sw_no hsw r st).2.2.2.2.2.2] at hal; cases hal
  have key : (match exO M pc ln r L st i with | some s => some s | none => exC M pc ln r L st i) = some (.inl (pc', L', st', M')) → W p l e R s m args below meth c H locs (M.1 - z0) (M.2.1 - l0) Q (F0 m pc ls st) := by
    intro hstep
    cases hexo : exO M pc ln r L st i with
    | some q =>
      rw [hexo] at hstep
      simp only at hstep
      cases hstep
      exact S_exO hC hM hS hL hz hl0 hdg hln hchk hexo hroom kk
    | none =>
      rw [hexo] at hstep
      simp only at hstep
      unfold exC at hstep
      split at hstep
      · -- invokestatic
        rcases hln with rfl | hsw
        · split at hstep
          · split at hstep
            · rename_i st2 hmo
              split at hstep
              · rename_i hw8
                cases hstep
                exact S_math hC hmo (by omega) hL.2.1 hchk hR hroom.1 hroom.2 hdg (kk ls H locs hM hS hL)
              · cases hstep
            · cases hstep
          · split at hstep <;> cases hstep
        · cases hsw
      · split at hstep
        · split at hstep <;> cases hstep
        · cases hstep
      · -- invokespecial
        rcases hln with rfl | hsw
        · rename_i n
          split at hstep
          · rename_i b rest hst2
            split at hstep
            · rename_i hw8
              split at hstep
              · rename_i h2000
                split at hstep
                · rename_i h10
                  cases hstep
                  simp only [chkR] at hchk
                  rw [if_pos h2000] at hchk
                  simp only [Bool.and_eq_true] at hchk
                  rw [h10] at hst2
                  have hst3 : st = .ref b :: st' := hst2
                  subst hst3
                  refine W.objInit hx hb hown (hts _ (gw_in hchk.1.1)) (hts _ (gw_in hchk.1.2)) (hts _ (gw_in hchk.2)) rfl (by rw [hml]; exact hL.2.1) rfl hdg (by omega) ?_ (kk ls H locs hM hS hL)
                  have h8 := lv_room (m := m) (pc := pc) (ls := ls) (rest := Value.ref b :: st') hw8.1
                  omega
                · cases hstep
              · cases hstep
            · cases hstep
          · cases hstep
        · cases hsw
      · cases hstep
  split at hstep
  · split at hstep
    · cases hstep
    · exact key hstep
  · split at hstep
    · split at hstep <;> cases hstep
    · exact key hstep
  · exact key hstep
end JR6
