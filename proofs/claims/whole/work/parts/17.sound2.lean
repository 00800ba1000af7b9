/-! the frame, by induction on the fuel; every method; the law's own frame -/
theorem S_ret {p : Program} {l : Launch} {e : Env} {R : Room} {s : State} {m : MethodId} {args : Array Value} {below : List Frame} {meth : Method} {c : Code} {H : Heap} {locs : List Loc} {cells slots : Nat} {cc : ByteArray} {pc : Nat} {ls : Array Slot} {i : Instr} {v : Option Value}
    {Qc : Array Value → State → Outcome → State → Prop} {free : Addr → Prop} (hexec : p.tables.exec = Jvm.exec) (hb : c.code = cc) (hlocks : meth.locks = false) (hdg : decode cc pc = .ok (i, iln i)) {ty : Option FieldType} (hr : meth.sig.returnType = ty)
    (hv : (v = none ∧ i = .return_ ∧ ty = none) ∨ ∃ w, v = some w ∧ rOk i ty w = true) (hq : ∀ t : State, t.heap = H → s.WarmedH t.vm → Qc args s (.returned v) t) (hf : ∀ q ∈ locs, free q.base) :
    W p l e R s m args below meth c H locs cells slots (MQ below Qc args s cells slots free) (F0 m pc ls v.toList) := by
  rcases hv with ⟨rfl, rfl, rfl⟩ | ⟨w, rfl, hw⟩
  · exact W.vret hexec hb hr hq hf hdg hlocks
  · unfold rOk at hw
    split at hw <;> first | (cases hw; done) | skip
    · exact W.iret hexec hb hr hq hf hdg hlocks
    · rename_i x
      have hx : narrow .boolean (.int x) = .int x := by
        have : x = 0 ∨ x = 1 := by simpa using hw
        rcases this with h | h <;> subst h <;> rfl
      exact W.zret hexec hb hr hx hq hf hdg hlocks
    · rename_i x
      have hx : narrow .char (.int x) = .int x := by
        simp only [Bool.and_eq_true, decide_eq_true_eq] at hw
        obtain ⟨j, hj, rfl⟩ := nI_of2 (n := 65535) (by decide) (fun h => absurd (Int32.le_iff_toInt_le.mp hw.1) (by have := Int32.lt_iff_toInt_lt.mp h; omega)) hw.2
        exact (pk_charN (by omega)).1
      exact W.zret hexec hb hr hx hq hf hdg hlocks
    · exact W.fret hexec hb hr hq hf hdg hlocks
    · exact W.dret hexec hb hr hq hf hdg hlocks
    · exact W.aret hexec hb hr (Or.inl ⟨_, rfl⟩) (Or.inr ⟨_, rfl⟩) hq hf hdg hlocks
    · exact W.aret hexec hb hr (Or.inl ⟨_, rfl⟩) (Or.inl rfl) hq hf hdg hlocks
section JR9
variable {p : Program} {l : Launch} {e : Env} {R : Room} {s : State} {m : MethodId} {args : Array Value} {below : List Frame} {meth : Method} {c : Code} {Q : State → Prop}
variable {mid z0 l0 d : Nat} {D : va_G} {tyC : Nat → ClassId} {base : Nat} {X : JX}
/-- the frame: what comes of a run that ends, at its end -/
theorem sndF (hC : CX p l s m args meth c mid base D tyC X) (hR : d + 10 ≤ R.frames ∧ 32 * d + 120 ≤ R.locals) (hR9 : 9 ≤ R.frames ∧ 120 ≤ R.locals) (rF : JR) (MF : JM) (hroom : MF.1 - z0 ≤ R.cells ∧ MF.2.1 - l0 ≤ R.slots)
    (hret : ∀ (v : Option Value) (pc : Nat) (i : Instr) (ls : Array Slot) (H : Heap) (locs : List Loc), rF = .inl v → MR D tyC base MF H → va_S (fun q => base ≤ q) s.heap H locs → decode (mB mid) pc = .ok (i, iln i) → ((v = none ∧ i = .return_ ∧ mR mid = none) ∨ ∃ w, v = some w ∧ rOk i (mR mid) w = true) →
      W p l e R s m args below meth c H locs (MF.1 - z0) (MF.2.1 - l0) Q (F0 m pc ls v.toList))
    (hthr : ∀ (k pc n : Nat) (r : List Nat) (st : List Value) (ls : Array Slot) (M : JM) (H : Heap) (locs : List Loc), rF = .inr k → MF = mthr M → z0 ≤ M.1 → l0 ≤ M.2.1 → MR D tyC base M H → va_S (fun q => base ≤ q) s.heap H locs → ls.size = mL mid → 100 ≤ r.getD 0 0 → chT mid pc n r = true → k = r.getD 0 0 - 100 → stw st ≤ 8 → decode (mB mid) pc = .ok (.new n, 3) →
      W p l e R s m args below meth c H locs (M.1 - z0) (M.2.1 - l0) Q (F0 m pc ls st))
    (hout : ∀ (k pc : Nat) (st : List Value) (ls : Array Slot) (H : Heap) (locs : List Loc) (ce : Cell) (q : Addr), rF = .inr k → k < 5 → mX mid = [] → MR D tyC base MF H → va_S (fun q => base ≤ q) s.heap H locs → H[q]? = some ce → ce.vm = .none → s.vm.findClass (exN k) = some ce.cls →
      vx_W p l e R s m args below meth c H locs (MF.1 - z0) (MF.2.1 - l0) Q (F0 m pc ls st) q) :
    ∀ n : Nat, (∀ k, k < n → ∀ (d' mid' : Nat) (args' : List Value) (M1 : JM) (r1 : JR) (M1' : JM), d = d' + 1 → 0 < mid' → mid' < NM → (entL args').length ≤ mL mid' → run X k d' mid' (ent mid' args' M1) = some (r1, M1') → CMet l base D tyC d' mid' args' M1 r1 M1') →
    ∀ (pc : Nat) (L : List (Option Value)) (st : List Value) (M : JM) (ls : Array Slot) (H : Heap) (locs : List Loc), run X n d mid (pc, L, st, M) = some (rF, MF) → MR D tyC base M H → va_S (fun q => base ≤ q) s.heap H locs → LH ls (mL mid) L → z0 ≤ M.1 → l0 ≤ M.2.1 →
      W p l e R s m args below meth c H locs (M.1 - z0) (M.2.1 - l0) Q (F0 m pc ls st) := by
  obtain ⟨hx, hb, hr, hml, hown, hts, hlk, hnm, htb, htr, hE, hbs, hXs, hmid⟩ := id hC
  intro n
  induction n with
  | zero => intro _ pc L st M ls H locs h; cases h
  | succ n ih =>
    intro hIH pc L st M ls H locs h hM hS hL hz hl0
    have ih2 := ih (fun k hk => hIH k (Nat.lt_succ_of_lt hk))
    have hmono := run_mono (n + 1) d mid (pc, L, st, M) rF MF h
    unfold run at h
    cases hs : step X mid (pc, L, st, M) with
    | none => rw [hs] at h; cases h
    | some js =>
    rw [hs] at h
    obtain ⟨i, ln, r, hcd, hk⟩ := step_kinds hs
    obtain ⟨hdg, hln, hm0, hchk⟩ := chk_sp hmid hcd
    rcases hk with ⟨F, rfl, hle⟩ | ⟨v, rfl, hro, rfl⟩ | ⟨rfl, rfl, hmr, rfl⟩ | ⟨q, rfl, h100, hw8, rfl⟩ | ⟨mid', args', L', st', hexc, rfl⟩
    · obtain ⟨pc', L', st', M'⟩ := F
      simp only at h
      have hm2 : leM M' MF := run_mono n d mid (pc', L', st', M') rF MF h
      exact S_next hC hM hS hL hz hl0 hR9 hs ⟨by have := hm2.1; have := hroom.1; omega, by have := hm2.2; have := hroom.2; omega⟩ (fun ls' H' locs' hM' hS' hL' => ih2 pc' L' st' M' ls' H' locs' h hM' hS' hL' (Nat.le_trans hz hle.1) (Nat.le_trans hl0 hle.2))
    · simp only at h
      have h1 : Sum.inl (some v) = rF ∧ M = MF := by cases h; exact ⟨rfl, rfl⟩
      obtain ⟨h1, h2⟩ := h1
      subst h1; subst h2
      have hln2 : ln = iln i := by
        rcases hln with h | h
        · exact h
        · rw [rok_sw h] at hro; cases hro
      subst hln2
      exact hret (some v) pc i ls H locs rfl hM hS hdg (Or.inr ⟨v, rfl, hro⟩)
    · simp only at h
      have h1 : Sum.inl none = rF ∧ M = MF := by cases h; exact ⟨rfl, rfl⟩
      obtain ⟨h1, h2⟩ := h1
      subst h1; subst h2
      have hln2 : ln = iln .return_ := by
        rcases hln with h | h
        · exact h
        · cases h
      subst hln2
      exact hret none pc .return_ ls H locs rfl hM hS hdg (Or.inl ⟨rfl, rfl, hmr⟩)
    · simp only at h
      have h1 : Sum.inr (r.getD 0 0 - 100) = rF ∧ mthr M = MF := by cases h; exact ⟨rfl, rfl⟩
      obtain ⟨h1, h2⟩ := h1
      subst h1; subst h2
      have hln2 : ln = 3 := by
        rcases hln with h | h
        · exact h
        · cases h
      subst hln2
      simp only [chkR] at hchk
      rw [if_pos h100] at hchk
      exact hthr _ pc q r st ls M H locs rfl rfl hz hl0 hM hS hL.2.1 h100 hchk rfl hw8 hdg
    · simp only at h
      cases d with
      | zero => cases h
      | succ d =>
      simp only at h
      split at h
      case isFalse => cases h
      rename_i hentl
      cases hr1 : run X n d mid' (ent mid' args' M) with
      | none => rw [hr1] at h; cases h
      | some q =>
      obtain ⟨r1, M1⟩ := q
      have hm1 : leM M M1 := run_mono n d mid' (ent mid' args' M) r1 M1 hr1
      rw [hr1] at h
      have hmF : leM M1 MF := by
        cases r1 with
        | inl v =>
          simp only at h
          exact run_mono n (d + 1) mid _ rF MF h
        | inr k =>
          simp only at h
          split at h
          · cases h
          split at h
          · cases h; exact leM.rf
          · split at h
            · cases h
            · split at h
              · exact run_mono n (d + 1) mid _ rF MF h
              · cases h
      have e1 : M.1 - z0 + (M1.1 - M.1) = M1.1 - z0 := by have := hm1.1; omega
      have e2 : M.2.1 - l0 + (M1.2.1 - M.2.1) = M1.2.1 - l0 := by have := hm1.2; omega
      have hf : M.1 - z0 + (M1.1 - M.1) ≤ R.cells ∧ M.2.1 - l0 + (M1.2.1 - M.2.1) ≤ R.slots := by
        rw [e1, e2]
        have := hmF.1; have := hmF.2; have := hroom.1; have := hroom.2
        omega
      have hR2 : d + 11 ≤ R.frames ∧ 32 * d + 152 ≤ R.locals := ⟨by omega, by omega⟩
      have hz1 : z0 ≤ M1.1 := Nat.le_trans hz hm1.1
      have hl1 : l0 ≤ M1.2.1 := Nat.le_trans hl0 hm1.2
      have hln3 : ln = 3 := by
        unfold exC at hexc
        split at hexc <;> first | (cases hexc; done) | (rcases hln with h | h; exact h; cases h)
      subst hln3
      -- behind the call
      have back : ∀ (a : Array Value) , vx_Run p l e R s m args below meth c H locs (M.1 - z0) (M.2.1 - l0) (M1.1 - M.1) (M1.2.1 - M.2.1) (F0 m pc ls st) st' (QcJ base D tyC r1 M1 a) (XcJ base D tyC r1 M1) (fun q => base ≤ q) → L' = L → W p l e R s m args below meth c H locs (M.1 - z0) (M.2.1 - l0) Q (F0 m pc ls st) := by
        rintro a hrun rfl
        refine S_call hrun hS (fun v H1 locs1 hv hM1 hS1 => ?_) (fun k H1 locs1 ce q hk hk5 hM1 hS1 hce hcv hcl => ?_)
        · subst hv
          rw [e1, e2]
          simp only at h
          exact ih2 (pc + 3) L' (v.toList ++ st') M1 ls H1 locs1 h hM1 hS1 hL hz1 hl1
        · subst hk
          rw [e1, e2]
          simp only at h
          split at h
          · cases h
          split at h
          · rename_i hmx
            have h1 : Sum.inr k = rF ∧ M1 = MF := by cases h; exact ⟨rfl, rfl⟩
            obtain ⟨h1, h2⟩ := h1
            subst h1; subst h2
            exact hout k pc st' ls H1 locs1 ce q rfl hk5 hmx hM1 hS1 hce hcv hcl
          · split at h
            · cases h
            · rename_i t u hh
              split at h
              · rename_i hw
                exact S_catch (M' := M1) hC hL hk5 hh hw hce hcv hcl (fun ls' hl => ih2 t (L'.set u none) [] M1 ls' H1 locs1 h hM1 hS1 hl hz1 hl1)
              · cases h
      unfold exC at hexc
      split at hexc
      · rename_i n0
        split at hexc
        · split at hexc
          · split at hexc <;> cases hexc
          · cases hexc
        · rename_i hlt
          split at hexc
          · rename_i hc
            have hq := Sum.inr.inj (Sum.inr.inj (Option.some.inj hexc))
            have q1 : mid' = r.getD 0 0 := (congrArg Prod.fst hq).symm
            have q2 : args' = (st.take (r.getD 1 0)).reverse := (congrArg (fun z => z.2.1) hq).symm
            have q3 : L' = L := (congrArg (fun z => z.2.2.2.1) hq).symm
            have q4 : st' = st.drop (r.getD 1 0) := (congrArg (fun z => z.2.2.2.2.1) hq).symm
            subst q1; subst q2; subst q4
            have hv : chV r = true := by
              simp only [chkR] at hchk
              rw [if_neg (by omega), if_neg (by omega)] at hchk
              simp only [Bool.and_eq_true] at hchk
              exact hchk.1.1.1.1
            have hCm := hIH n (Nat.lt_succ_self n) d (r.getD 0 0) _ M r1 M1 rfl (chV_sp hv).1 (chV_sp hv).2.1 hentl hr1
            exact back _ (S_runS hx hb hml hown hts hE hM hS hbs hL.2.1 hR2 hchk hlt hc.1 hc.2 hCm hdg hf) q3
          · cases hexc
      · rename_i n0
        split at hexc
        · rename_i b rest hst2
          split at hexc
          · rename_i hc
            have hq := Sum.inr.inj (Sum.inr.inj (Option.some.inj hexc))
            have q1 : mid' = r.getD 0 0 := (congrArg Prod.fst hq).symm
            have q2 : args' = .ref b :: (st.take (r.getD 1 0)).reverse := (congrArg (fun z => z.2.1) hq).symm
            have q3 : L' = L := (congrArg (fun z => z.2.2.2.1) hq).symm
            have q4 : st' = rest := (congrArg (fun z => z.2.2.2.2.1) hq).symm
            subst q1; subst q2; subst q4
            have hv : chV r = true := by
              simp only [chkR, Bool.and_eq_true] at hchk
              exact hchk.1.1.1.1.1.1.1
            have hCm := hIH n (Nat.lt_succ_self n) d (r.getD 0 0) _ M r1 M1 rfl (chV_sp hv).1 (chV_sp hv).2.1 hentl hr1
            exact back _ (S_runV hx hb hml hown hts hE hM hS hbs hL.2.1 hR2 hchk hst2 hc.1 hc.2.1 hc.2.2 hCm hdg hf) q3
          · cases hexc
        · cases hexc
      · rename_i n0
        split at hexc
        · rename_i b rest hst2
          split at hexc
          · rename_i hc
            split at hexc
            · split at hexc <;> cases hexc
            · rename_i h2000
              have hq := Sum.inr.inj (Sum.inr.inj (Option.some.inj hexc))
              have q1 : mid' = r.getD 0 0 := (congrArg Prod.fst hq).symm
              have q2 : args' = .ref b :: (st.take (r.getD 1 0)).reverse := (congrArg (fun z => z.2.1) hq).symm
              have q3 : L' = L := (congrArg (fun z => z.2.2.2.1) hq).symm
              have q4 : st' = rest := (congrArg (fun z => z.2.2.2.2.1) hq).symm
              subst q1; subst q2; subst q4
              have hv : chV r = true := by
                simp only [chkR] at hchk
                rw [if_neg h2000] at hchk
                simp only [Bool.and_eq_true] at hchk
                exact hchk.1.1.1.1.1.1.1
              have hCm := hIH n (Nat.lt_succ_self n) d (r.getD 0 0) _ M r1 M1 rfl (chV_sp hv).1 (chV_sp hv).2.1 hentl hr1
              cases r1 with
              | inl v => exact back _ (S_runI hx hb hml hown hts hE hM hS hbs hL.2.1 hR2 hchk h2000 hst2 hc.2 hc.1 hCm hdg hf) q3
              | inr k =>
                simp only at h
                rw [if_pos (by unfold isI; rw [hcd])] at h
                cases h
          · cases hexc
        · cases hexc
      · cases hexc
end JR9
theorem ent_LH {args : List Value} (mid : Nat) (M : JM) (h : (entL args).length ≤ mL mid) : (ent mid args M).2.1.length = mL mid ∧ ∀ (i : Nat) (v : Value), (ent mid args M).2.1[i]? = some (some v) → (i, v) ∈ lv_args 0 args := by
  refine ⟨by simp [ent]; omega, ?_⟩
  have key : ∀ (as : List Value) (k i : Nat) (v : Value), (entL as)[i]? = some (some v) → (k + i, v) ∈ lv_args k as := by
    intro as
    induction as with
    | nil => intro k i v h; simp [entL] at h
    | cons a as ih =>
      intro k i v h
      unfold entL at h
      unfold lv_args
      split at h
      · rename_i hc
        rw [if_pos hc]
        cases i with
        | zero => simp at h; subst h; exact List.mem_cons_self
        | succ i =>
          cases i with
          | zero => simp at h
          | succ i =>
            have h2 := ih (k + 2) i v (by simpa using h)
            exact List.mem_cons_of_mem _ (by rw [show k + (i + 1 + 1) = k + 2 + i by omega]; exact h2)
      · rename_i hc
        rw [if_neg hc]
        cases i with
        | zero => simp at h; subst h; exact List.mem_cons_self
        | succ i =>
          have h2 := ih (k + 1) i v (by simpa using h)
          exact List.mem_cons_of_mem _ (by rw [show k + (i + 1) = k + 1 + i by omega]; exact h2)
  intro i v hi
  have hi2 : (entL args ++ List.replicate (mL mid - (entL args).length) (none : Option Value))[i]? = some (some v) := hi
  by_cases hlt : i < (entL args).length
  · rw [List.getElem?_append_left hlt] at hi2
    have := key args 0 i v hi2
    rw [Nat.zero_add] at this
    exact this
  · rw [List.getElem?_append_right (by omega)] at hi2
    have := List.mem_of_getElem? hi2
    exact absurd (List.eq_of_mem_replicate this) (by simp)
theorem entL_len (args : List Value) : (lg_sl args).length = (entL args).length := by
  induction args with
  | nil => rfl
  | cons v vs ih =>
    unfold entL
    have h1 : lg_sl (v :: vs) = (if v.category = 2 then [Slot.val v, Slot.second] else [Slot.val v]) ++ lg_sl vs := by
      unfold lg_sl
      rw [List.flatMap_cons]
    rw [h1, List.length_append, ih]
    split
    · simp; omega
    · simp; omega
/-- EVERY METHOD DOES WHAT ITS RUN SAYS -/
theorem sound (l : Launch) (htr : l.stackTraces = false) (base : Nat) (D : va_G) (tyC : Nat → ClassId) (X : JX) : ∀ (n d mid : Nat) (args : List Value) (M : JM) (r : JR) (M' : JM), 0 < mid → mid < NM → (entL args).length ≤ mL mid → run X n d mid (ent mid args M) = some (r, M') → CMet l base D tyC d mid args M r M' := by
  intro n
  induction n using Nat.strongRecOn with
  | _ n IH =>
  intro d mid args M r M' h0 hmid hent hrun
  have hmono : leM M M' := run_mono n d mid (ent mid args M) r M' hrun
  obtain ⟨hml13, hplain, hH⟩ := chk_ml hmid
  have hXH : mH mid = [] → mX mid = [] := by
    intro h
    unfold chkH at hH
    simp only [Bool.and_eq_true, decide_eq_true_eq] at hH
    have := hH.1
    rw [h] at this
    exact List.length_eq_zero_iff.mp this.symm
  -- the body, wherever it stands
  have body : ∀ p e s m (args0 : Array Value) below meth c s₁, BodyLoose p l (mN mid) (headSpec (wsM mid) (rmJ d (M'.1 - M.1) (M'.2.1 - M.2.1))) (mB mid) (mL mid) (mR mid) e s m args0 below meth c s₁ → c.maxLocals = mL mid → c.exceptionTable.toList = tableOf (mH mid) → PcJ base D tyC args M args0 s →
      W p l e (headSpec (wsM mid) (rmJ d (M'.1 - M.1) (M'.2.1 - M.2.1))).room s m args0 below meth c s.heap [] 0 0 (vx_MQ below (QcJ base D tyC r M') (XcJ base D tyC r M') args0 s (M'.1 - M.1) (M'.2.1 - M.2.1) (fun q => base ≤ q)) (entryFrame m args0 (mL mid)) := by
    intro p e s m args0 below meth c s₁ B hml htab hP
    obtain ⟨rfl, hM, hE, hbs⟩ := hP
    have hts := atoms_spec (ws := wsM mid) B.pre
    have hCX : CX p l s m args.toArray meth c mid base D tyC X :=
      ⟨B.exec, B.bytes, B.returns, hml, findClass_of_methodNamed B.named, fun w h => hts w (List.mem_cons_of_mem _ h), B.notSynchronized, (fun h => (name_of_methodNamed B.named B.method).1.trans h), (fun _ => htab), htr, hE, hbs, fun h => absurd h (by omega), hmid⟩
    rw [lg_entry_eq]
    have hl0 := lv_entry args (n := mL mid) (by rw [entL_len]; exact hent)
    generalize (lg_sl args ++ List.replicate (mL mid - (lg_sl args).length) Slot.unset).toArray = ls at hl0 ⊢
    obtain ⟨hL1, hL2⟩ := ent_LH (args := args) mid M hent
    have hL : LH ls (mL mid) (ent mid args M).2.1 := ⟨hL1, hl0.1, hl0.2.1, fun i v h => hl0.2.2 (i, v) (hL2 i v h)⟩
    have key := sndF (p := p) (e := e) (R := rmJ d (M'.1 - M.1) (M'.2.1 - M.2.1)) (below := below) (Q := vx_MQ below (QcJ base D tyC r M') (XcJ base D tyC r M') args.toArray s (M'.1 - M.1) (M'.2.1 - M.2.1) (fun q => base ≤ q)) (z0 := M.1) (l0 := M.2.1) (d := d) hCX ⟨Nat.le_refl _, Nat.le_refl _⟩ ⟨by show 9 ≤ d + 10; omega, by show 120 ≤ 32 * d + 120; omega⟩ r M' ⟨Nat.le_refl _, Nat.le_refl _⟩ ?_ ?_ ?_ n
      (fun k hk d' mid' args' M1 r1 M1' hd h1 h2 h3 h4 => IH k hk d' mid' args' M1 r1 M1' h1 h2 h3 h4) 0 (ent mid args M).2.1 [] M ls s.heap [] hrun hM va_S.rf hL (Nat.le_refl _) (Nat.le_refl _)
    · rw [Nat.sub_self, Nat.sub_self] at key
      exact key
    · intro v pc i ls H locs hv hMR hS hdg hk
      refine vx_ret (S_ret B.exec B.bytes B.notSynchronized hdg B.returns hk (fun t ht hW => ⟨⟨v, hv, rfl⟩, by rw [ht]; exact hMR, hS.F ht⟩) (fun q hq => hS.2.2 q hq))
    · intro k pc q rr st ls M1 H locs hk hMF hz hl hMR hS hls h100 hch hkr hw8 hdg
      subst hMF
      have e1 : (mthr M1).1 - M.1 = M1.1 - M.1 + 1 := by show M1.1 + 1 - M.1 = _; omega
      have e2 : (mthr M1).2.1 - M.2.1 = M1.2.1 - M.2.1 + 6 := by show M1.2.1 + 6 - M.2.1 = _; omega
      have hk5 : k < 5 := by
        unfold chT at hch
        simp only [Bool.and_eq_true, decide_eq_true_eq] at hch
        omega
      have := S_thr (p := p) (e := e) (R := rmJ d ((mthr M1).1 - M.1) ((mthr M1).2.1 - M.2.1)) (below := below) (cells := M1.1 - M.1) (slots := M1.2.1 - M.2.1) hCX hS hls h100 hch hw8 ⟨by show 9 ≤ d + 10; omega, by show 120 ≤ 32 * d + 120; omega⟩ (by show _ ≤ (mthr M1).1 - M.1; omega) (by show _ ≤ (mthr M1).2.1 - M.2.1; omega) hdg
        (Qc := QcJ base D tyC r (mthr M1)) (XC := XcJ base D tyC r (mthr M1)) (free := fun q => base ≤ q)
        (fun t hz1 hq1 => ⟨⟨k, hk, hk5, by rw [hkr]⟩, hMR.thr hz1 hq1, ⟨Nat.le_trans hS.1 (by omega), fun q h1 h2 => by rw [hq1 q (Nat.lt_of_lt_of_le h1 hS.1)]; exact hS.2.1 q h1 h2⟩⟩) (fun q hq => hS.2.2 q hq)
      rw [e1, e2] at this ⊢
      exact this
    · intro k pc st ls H locs ce q hk hk5 hmx hMR hS hce hcv hcl
      refine vx_out ?_ B.notSynchronized hce hcv hcl (fun t ht hW => ⟨⟨k, hk, hk5, rfl⟩, by rw [ht]; exact hMR, hS.F ht⟩) (fun z hz => hS.2.2 z hz) (Nat.le_refl _) (Nat.le_refl _)
      intro x hx
      rw [htab] at hx
      have : mH mid = [] := by
        unfold chkH at hH
        simp only [Bool.and_eq_true, decide_eq_true_eq] at hH
        have := hH.1
        rw [hmx] at this
        exact List.length_eq_zero_iff.mp this
      rw [this] at hx
      cases hx
  unfold CMet
  by_cases hh : mH mid = []
  · refine vx_ofW (cc := mB mid) (maxL := mL mid) (ret := mR mid) (ws' := GL) hplain (by unfold wsM wdM; rw [if_pos hh]) (fun p e s m args0 below meth c s₁ B hml ht hP => body p e s m args0 below meth c s₁ B hml ?_ hP)
    rw [hh]
    cases hc : c.exceptionTable.toList with
    | nil => rfl
    | cons x xs => exact absurd (ht x (by rw [hc]; exact List.mem_cons_self)) id
  · refine vx_ofWH (cc := mB mid) (maxL := mL mid) (ret := mR mid) (hh := mH mid) (ws' := GL) hplain (by unfold wsM wdM; rw [if_neg hh]) (fun p e s m args0 below meth c s₁ B hml hP => body p e s m args0 below meth c s₁ B hml (vx_table (x := mN mid) B (bytes := mB mid) (maxL' := mL mid) (ret' := mR mid) ?_) hP)
    have hts := atoms_spec (ws := wsM mid) B.pre
    have := hts (wdM mid) List.mem_cons_self
    unfold wdM at this
    rw [if_neg hh] at this
    exact this
