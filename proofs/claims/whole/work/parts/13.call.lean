/-! contracts out of runs: what is said of a method, and calls of it -/
def PcJ (base : Nat) (D : va_G) (tyC : Nat → ClassId) (args : List Value) (M : JM) : Array Value → State → Prop := va_Pc args (fun U => MR D tyC base M U.heap ∧ EN base D tyC U U.heap ∧ base ≤ U.heap.size)
def QcJ (base : Nat) (D : va_G) (tyC : Nat → ClassId) (r : JR) (M' : JM) : Array Value → State → Outcome → State → Prop := fun _ st o t => (∃ v, r = .inl v ∧ o = .returned v) ∧ MR D tyC base M' t.heap ∧ va_F (fun q => base ≤ q) st t
def XcJ (base : Nat) (D : va_G) (tyC : Nat → ClassId) (r : JR) (M' : JM) : String → State → State → Prop := fun E st t => (∃ k, r = .inr k ∧ k < 5 ∧ E = exN k) ∧ MR D tyC base M' t.heap ∧ va_F (fun q => base ≤ q) st t
def rmJ (d k n : Nat) : Room := { frames := d + 10, cells := k, slots := n, locals := 32 * d + 120 }
def CMet (l : Launch) (base : Nat) (D : va_G) (tyC : Nat → ClassId) (d mid : Nat) (args : List Value) (M : JM) (r : JR) (M' : JM) : Prop :=
  vx_Met l (mN mid) (wsM mid) (rmJ d (M'.1 - M.1) (M'.2.1 - M.2.1)) (PcJ base D tyC args M) (QcJ base D tyC r M') (XcJ base D tyC r M') (M'.1 - M.1) (M'.2.1 - M.2.1) (fun q => base ≤ q)
theorem met_of {l : Launch} {base : Nat} {D : va_G} {tyC : Nat → ClassId} {d mid : Nat} {args : List Value} {M M' : JM} {v : Option Value} (h : CMet l base D tyC d mid args M (.inl v) M') :
    Met l (mN mid) (wsM mid) (rmJ d (M'.1 - M.1) (M'.2.1 - M.2.1)) (PcJ base D tyC args M) (QcJ base D tyC (.inl v) M') (M'.1 - M.1) (M'.2.1 - M.2.1) (fun q => base ≤ q) := by
  intro p e ha hc hk s m args' below hf happ hP hK
  obtain ⟨n, o, h1, h2, h3, h4⟩ := h p e ha hc hk s m args' below hf happ hP hK
  refine ⟨n, o, h1, h2, h3, ?_⟩
  rcases h4 with h4 | ⟨q, -, E, ce, L, ⟨⟨k, hk, -⟩, -⟩, -⟩
  · exact h4
  · cases hk
theorem pc_blind {base : Nat} {D : va_G} {tyC : Nat → ClassId} {args : List Value} {M : JM} : FrameBlind (PcJ base D tyC args M) :=
  fun a U g mk q => ⟨q.1, q.2.1, q.2.2.1.blind, q.2.2.2⟩
theorem chk_cd {mid pc ln : Nat} {i : Instr} {r : List Nat} (hm : mid < NM) (h : cd mid pc = some (i, ln, r)) : chkI mid (pc, i, ln, r) = true := by
  have h1 := chk_all hm
  unfold chkM at h1
  simp only [Bool.and_eq_true] at h1
  have h2 := List.all_eq_true.mp h1.1.1.1
  have key : ∀ l : List CI, lk l pc = some (i, ln, r) → (pc, i, ln, r) ∈ l := by
    intro l
    induction l with
    | nil => intro h; cases h
    | cons c l ih =>
      intro h
      unfold lk at h
      split at h
      · rename_i hc
        obtain ⟨c1, c2⟩ := c
        have h2 : c2 = (i, ln, r) := Option.some.inj h
        have h3 : c1 = pc := hc
        rw [h2, h3]
        exact List.mem_cons_self
      · exact List.mem_cons_of_mem _ (ih h)
  exact h2 _ (key _ h)
theorem chk_sp {mid pc ln : Nat} {i : Instr} {r : List Nat} (hm : mid < NM) (h : cd mid pc = some (i, ln, r)) :
    decode (mB mid) pc = .ok (i, ln) ∧ (ln = iln i ∨ isSw i = true) ∧ (mid = 0 ∨ r ≠ [1]) ∧ chkR mid pc i r = true := by
  have h1 := chk_cd hm h
  unfold chkI at h1
  simp only [Bool.and_eq_true, decide_eq_true_eq, Bool.or_eq_true] at h1
  exact ⟨h1.1.1.1, h1.1.1.2, h1.1.2, h1.2⟩
theorem chk_ml {mid : Nat} (hm : mid < NM) : mL mid ≤ 13 ∧ plainName (own mid) = true ∧ chkH mid = true := by
  have h1 := chk_all hm
  unfold chkM at h1
  simp only [Bool.and_eq_true, decide_eq_true_eq] at h1
  exact ⟨h1.2, h1.1.2, h1.1.1.2⟩
section JR4
variable {p : Program} {l : Launch} {e : Env} {R : Room} {s : State} {m : MethodId} {args : Array Value} {below : List Frame} {meth : Method} {c : Code} {H : Heap} {locs : List Loc} {cells slots : Nat} {Q : State → Prop}
variable {pc mc ms : Nat} {ls : Array Slot} {st0 rest : List Value} {D : va_G} {tyC : Nat → ClassId} {base : Nat} {M' : JM} {a : Array Value} {r : JR}
theorem S_call (hr : vx_Run p l e R s m args below meth c H locs cells slots mc ms (F0 m pc ls st0) rest (QcJ base D tyC r M' a) (XcJ base D tyC r M') (fun q => base ≤ q)) (hS : va_S (fun q => base ≤ q) s.heap H locs)
    (kk : ∀ (v : Option Value) (H1 : Heap) (locs1 : List Loc), r = .inl v → MR D tyC base M' H1 → va_S (fun q => base ≤ q) s.heap H1 locs1 → W p l e R s m args below meth c H1 locs1 (cells + mc) (slots + ms) Q (F0 m (pc + 3) ls (v.toList ++ rest)))
    (kx : ∀ (k : Nat) (H1 : Heap) (locs1 : List Loc) (ce : Cell) (q : Addr), r = .inr k → k < 5 → MR D tyC base M' H1 → va_S (fun q => base ≤ q) s.heap H1 locs1 → H1[q]? = some ce → ce.vm = .none → s.vm.findClass (exN k) = some ce.cls → vx_W p l e R s m args below meth c H1 locs1 (cells + mc) (slots + ms) Q (F0 m pc ls rest) q) :
    W p l e R s m args below meth c H locs cells slots Q (F0 m pc ls st0) := by
  intro T hT X
  rcases hr T hT X with ⟨v, st₀, t, T', L, h0, X', hL, e1, e2, ⟨⟨v', hv, ho⟩, hMR, hF⟩, st⟩ | ⟨q, st₀, t, T', L, E, ce, h0, X', hL, e1, e2, ⟨⟨k, hk, hk5, hE⟩, hMR, hF⟩, hce, hcv, hcl, st⟩
  · cases ho
    obtain ⟨k1, k2, k3⟩ := vx_keep h0 e1 hS (fun q _ h => h) (fun q h => h) hL hF
    obtain ⟨t2, a1, b1⟩ := kk v T'.heap (locs ++ L) hv (by rw [e1]; exact hMR) k3 T' rfl X'
    exact ⟨t2, st t2 a1, b1⟩
  · subst hE
    obtain ⟨k1, k2, k3⟩ := vx_keep h0 e1 hS (fun q _ h => h) (fun q h => h) hL hF
    obtain ⟨t2, a1, b1⟩ := kx k T'.heap (locs ++ L) ce q hk hk5 (by rw [e1]; exact hMR) k3 (by rw [e1]; exact hce) hcv hcl T' rfl X'
    exact ⟨t2, st.trans a1, b1⟩
end JR4
/-- words of the good list, as a caller hands them on -/
theorem gi_of {ws : List Cond} (h : ∀ w ∈ ws, w ∈ GL) : GoodIn GL ws := fun w hw => ⟨h w hw, good_of_word (GL_good w (h w hw))⟩
theorem wsM_gl {mid k : Nat} (h : gw k (wdM mid) = true) : ∀ w ∈ wsM mid, w ∈ GL := by
  intro w hw
  rcases List.mem_cons.mp hw with rfl | hw
  · exact gw_in h
  · exact hw
theorem chV_sp {r : List Nat} (h : chV r = true) : 0 < r.getD 0 0 ∧ r.getD 0 0 < NM ∧ (mN (r.getD 0 0)).cls ≠ "java/lang/invoke/MethodHandle" ∧ (mN (r.getD 0 0)).cls ≠ "java/lang/invoke/VarHandle" ∧ (parseMethodDescriptor (mN (r.getD 0 0)).desc).map (fun d => d.parameters.length) = some (r.getD 1 0) := by
  unfold chV at h
  simp only [Bool.and_eq_true, decide_eq_true_eq] at h
  exact ⟨h.1.1.1.1, h.1.1.1.2, h.1.1.2, h.1.2, h.2⟩
theorem tk_len {n : Nat} {st : List Value} (h : n ≤ st.length) : ((st.take n).reverse).length = n := by
  rw [List.length_reverse, List.length_take, Nat.min_eq_left h]
theorem stk_split {n : Nat} {st : List Value} : st = ((st.take n).reverse).reverse ++ st.drop n := by
  rw [List.reverse_reverse, List.take_append_drop]
section JR5
variable {p : Program} {l : Launch} {e : Env} {R : Room} {s : State} {m : MethodId} {args : Array Value} {below : List Frame} {meth : Method} {c : Code} {H : Heap} {locs : List Loc} {cells slots : Nat} {Q : State → Prop}
variable {pc mid d n : Nat} {ls : Array Slot} {st : List Value} {D : va_G} {tyC : Nat → ClassId} {base : Nat} {M M' : JM} {rr : JR} {r : List Nat}
theorem hR_of (h : d + 11 ≤ R.frames ∧ 32 * d + 152 ≤ R.locals) {k n mc : Nat} (hm : mc < NM) : (rmJ d k n).frames + 1 ≤ R.frames ∧ 8 + (mL mc + 11) + (rmJ d k n).locals ≤ R.locals := by
  have := (chk_ml hm).1
  exact ⟨h.1, by show 8 + (mL mc + 11) + (32 * d + 120) ≤ R.locals; omega⟩
theorem pre_of (hE : EN base D tyC s s.heap) (hM : MR D tyC base M H) (hS : va_S (fun q => base ≤ q) s.heap H locs) (hbs : base ≤ s.heap.size) {as : List Value} {U : State} (hU : U.heap = H) (hW : s.WarmedH U.vm) : PcJ base D tyC as M as.toArray U :=
  ⟨rfl, by rw [hU]; exact hM, hE.warm hW (fun a h1 h2 => by rw [hU]; exact hS.2.1 a h1 h2), by rw [hU]; exact Nat.le_trans hbs hS.1⟩
theorem S_runV (hexec : p.tables.exec = Jvm.exec) (hb : c.code = mB mid) (hml : c.maxLocals = mL mid) (hown : s.vm.findClass (own mid) = some m.cls) (htsG : ∀ w ∈ GL, w.before args s = true) (hE : EN base D tyC s s.heap) (hM : MR D tyC base M H) (hS : va_S (fun q => base ≤ q) s.heap H locs) (hbs : base ≤ s.heap.size) (hls : ls.size = mL mid) (hR : d + 11 ≤ R.frames ∧ 32 * d + 152 ≤ R.locals)
    (hc : chkR mid pc (.invokevirtual n) r = true) {b : Nat} {rest : List Value} (hst : st.drop (r.getD 1 0) = .ref b :: rest) (hcl : mcl M b = some (r.getD 7 99)) (hlen : r.getD 1 0 ≤ st.length) (hw8 : stw rest ≤ 8) (hC : CMet l base D tyC d (r.getD 0 0) (.ref b :: (st.take (r.getD 1 0)).reverse) M rr M') (hdg : decode (mB mid) pc = .ok (.invokevirtual n, 3)) (hf : cells + (M'.1 - M.1) ≤ R.cells ∧ slots + (M'.2.1 - M.2.1) ≤ R.slots) :
    vx_Run p l e R s m args below meth c H locs cells slots (M'.1 - M.1) (M'.2.1 - M.2.1) (F0 m pc ls st) rest (QcJ base D tyC rr M' (Value.ref b :: (st.take (r.getD 1 0)).reverse).toArray) (XcJ base D tyC rr M') (fun q => base ≤ q) := by
  simp only [chkR, Bool.and_eq_true, decide_eq_true_eq] at hc
  obtain ⟨⟨⟨⟨⟨⟨⟨hv, h2⟩, h3⟩, h4⟩, h5⟩, h6⟩, h7⟩, h8⟩ := hc
  obtain ⟨v1, v2, v3, v4, v5⟩ := chV_sp hv
  have hws : wsM (r.getD 0 0) = Cond.code (mN (r.getD 0 0)) (mB (r.getD 0 0)) (mL (r.getD 0 0)) (mR (r.getD 0 0)) :: GL := by
    unfold wsM wdM; rw [if_pos h7]
  have hrecv : ∃ cellB : Cell, H[b]? = some cellB ∧ cellB.vm.isStatics = false ∧ s.vm.findClass (mN (r.getD 0 0)).cls = some cellB.cls := by
    unfold mcl at hcl
    split at hcl
    · rename_i ci fs hb2
      cases hcl
      obtain ⟨-, r', hr', ⟨cell, q1, q2, q3, -⟩, -⟩ := hM.2 b _ hb2
      rw [hr'] at h8
      have hfc := (hE.2.2.2.2.1.1 _ _ hr').2.1
      refine ⟨cell, q1, by rw [q3]; rfl, ?_⟩
      rw [q2, ← Option.some.inj h8]
      exact hfc
    · cases hcl
  refine vx_runV (As := (st.take (r.getD 1 0)).reverse) (rest := rest) (Ts := GL) (nL := mL mid) (n := r.getD 1 0) (C := (mN (r.getD 0 0)).cls) (maxL := mL (r.getD 0 0)) (bytes := mB (r.getD 0 0)) (ret := mR (r.getD 0 0)) ⟨hexec, hb, hml, hown, htsG⟩ hC (cwV _ htsG (gi_of ?_) hws rfl rfl ⟨rfl, v3, v4, v5⟩ (hR_of hR v2)) ⟨pc_blind, hrecv, fun U hU hW => pre_of hE hM hS hbs hU hW⟩ rfl (tk_len hlen) hls ?_ (lv_room hw8) hdg hf
  · intro w hw
    simp only [wsV, List.mem_append, List.mem_cons, List.not_mem_nil, or_false] at hw
    rcases hw with (rfl | rfl | rfl | rfl) | hw
    · exact gw_in h2
    · exact gw_in h3
    · exact gw_in h4
    · exact gw_in h5
    · exact wsM_gl h6 w hw
  · show st = _
    rw [List.reverse_reverse, ← hst, List.take_append_drop]
theorem S_runS (hexec : p.tables.exec = Jvm.exec) (hb : c.code = mB mid) (hml : c.maxLocals = mL mid) (hown : s.vm.findClass (own mid) = some m.cls) (htsG : ∀ w ∈ GL, w.before args s = true) (hE : EN base D tyC s s.heap) (hM : MR D tyC base M H) (hS : va_S (fun q => base ≤ q) s.heap H locs) (hbs : base ≤ s.heap.size) (hls : ls.size = mL mid) (hR : d + 11 ≤ R.frames ∧ 32 * d + 152 ≤ R.locals)
    (hc : chkR mid pc (.invokestatic n) r = true) (hlt : ¬ 1000 ≤ r.getD 0 0) (hlen : r.getD 1 0 ≤ st.length) (hw8 : stw (st.drop (r.getD 1 0)) ≤ 8) (hC : CMet l base D tyC d (r.getD 0 0) ((st.take (r.getD 1 0)).reverse) M rr M') (hdg : decode (mB mid) pc = .ok (.invokestatic n, 3)) (hf : cells + (M'.1 - M.1) ≤ R.cells ∧ slots + (M'.2.1 - M.2.1) ≤ R.slots) :
    vx_Run p l e R s m args below meth c H locs cells slots (M'.1 - M.1) (M'.2.1 - M.2.1) (F0 m pc ls st) (st.drop (r.getD 1 0)) (QcJ base D tyC rr M' ((st.take (r.getD 1 0)).reverse).toArray) (XcJ base D tyC rr M') (fun q => base ≤ q) := by
  simp only [chkR] at hc
  rw [if_neg (by omega), if_neg (by omega)] at hc
  simp only [Bool.and_eq_true] at hc
  obtain ⟨⟨⟨⟨hv, h2⟩, h3⟩, h4⟩, h5⟩ := hc
  obtain ⟨v1, v2, v3, v4, v5⟩ := chV_sp hv
  have hsig : ∀ sig, parseMethodDescriptor (mN (r.getD 0 0)).desc = some sig → r.getD 1 0 = sig.parameters.length := by
    intro sig h
    rw [h] at v5
    exact (Option.some.inj v5).symm
  have hst : st = ((st.take (r.getD 1 0)).reverse).reverse ++ st.drop (r.getD 1 0) := stk_split
  by_cases hh : mH (r.getD 0 0) = []
  · have hws : wsM (r.getD 0 0) = Cond.code (mN (r.getD 0 0)) (mB (r.getD 0 0)) (mL (r.getD 0 0)) (mR (r.getD 0 0)) :: GL := by
      unfold wsM wdM; rw [if_pos hh]
    exact vx_runS (As := (st.take (r.getD 1 0)).reverse) (rest := st.drop (r.getD 1 0)) (Ts := GL) (nL := mL mid) (n := r.getD 1 0) (maxL := mL (r.getD 0 0)) (bytes := mB (r.getD 0 0)) (ret := mR (r.getD 0 0)) ⟨hexec, hb, hml, hown, htsG⟩ hC
      ⟨callB_of _ htsG (gi_of (wsM_gl h5)) hws rfl rfl (htsG _ (gw_in h4)) (htsG _ (gw_in h2)) ⟨v3, v4, v5⟩ (hR_of hR v2), htsG _ (gw_in h3)⟩ ⟨pc_blind, fun U hU hW => pre_of hE hM hS hbs hU hW⟩ rfl (tk_len hlen) hls hst (lv_room hw8) hdg hf
  · have hws : wsM (r.getD 0 0) = Cond.codeWith (mN (r.getD 0 0)) (mB (r.getD 0 0)) (mL (r.getD 0 0)) (mR (r.getD 0 0)) (mH (r.getD 0 0)) :: GL := by
      unfold wsM wdM; rw [if_neg hh]
    have hcw : Cond.codeWith (mN (r.getD 0 0)) (mB (r.getD 0 0)) (mL (r.getD 0 0)) (mR (r.getD 0 0)) (mH (r.getD 0 0)) ∈ wsM (r.getD 0 0) := by rw [hws]; exact List.mem_cons_self
    exact vx_runSX (As := (st.take (r.getD 1 0)).reverse) (rest := st.drop (r.getD 1 0)) (Ts := GL) (nL := mL mid) (n := r.getD 1 0) (maxL := mL (r.getD 0 0)) (bytes := mB (r.getD 0 0)) (ret := mR (r.getD 0 0)) ⟨hexec, hb, hml, hown, htsG⟩ hC
      ⟨⟨rfl, rfl, (hR_of hR v2).1, (hR_of hR v2).2, pay_in htsG (gi_of (wsM_gl h5)), hcw⟩, htsG _ (wsM_gl h5 _ hcw), htsG _ (gw_in h4), ⟨v3, v4⟩, hsig, htsG _ (gw_in h2), htsG _ (gw_in h3)⟩ ⟨pc_blind, fun U hU hW => pre_of hE hM hS hbs hU hW⟩ rfl (tk_len hlen) hls hst (lv_room hw8) hdg hf
theorem S_runI (hexec : p.tables.exec = Jvm.exec) (hb : c.code = mB mid) (hml : c.maxLocals = mL mid) (hown : s.vm.findClass (own mid) = some m.cls) (htsG : ∀ w ∈ GL, w.before args s = true) (hE : EN base D tyC s s.heap) (hM : MR D tyC base M H) (hS : va_S (fun q => base ≤ q) s.heap H locs) (hbs : base ≤ s.heap.size) (hls : ls.size = mL mid) (hR : d + 11 ≤ R.frames ∧ 32 * d + 152 ≤ R.locals)
    (hc : chkR mid pc (.invokespecial n) r = true) (hn0 : ¬ r.getD 0 0 = 2000) {b : Nat} {rest : List Value} {v : Option Value} (hst : st.drop (r.getD 1 0) = .ref b :: rest) (hlen : r.getD 1 0 ≤ st.length) (hw8 : stw rest ≤ 8) (hC : CMet l base D tyC d (r.getD 0 0) (.ref b :: (st.take (r.getD 1 0)).reverse) M (.inl v) M') (hdg : decode (mB mid) pc = .ok (.invokespecial n, 3)) (hf : cells + (M'.1 - M.1) ≤ R.cells ∧ slots + (M'.2.1 - M.2.1) ≤ R.slots) :
    vx_Run p l e R s m args below meth c H locs cells slots (M'.1 - M.1) (M'.2.1 - M.2.1) (F0 m pc ls st) rest (QcJ base D tyC (.inl v) M' (Value.ref b :: (st.take (r.getD 1 0)).reverse).toArray) (XcJ base D tyC (.inl v) M') (fun q => base ≤ q) := by
  simp only [chkR] at hc
  rw [if_neg hn0] at hc
  simp only [Bool.and_eq_true, decide_eq_true_eq] at hc
  obtain ⟨⟨⟨⟨⟨⟨⟨hv, h2⟩, h3⟩, h4⟩, h5⟩, h6⟩, h7⟩, h8⟩ := hc
  obtain ⟨v1, v2, v3, v4, v5⟩ := chV_sp hv
  have hws : wsM (r.getD 0 0) = Cond.code (mN (r.getD 0 0)) (mB (r.getD 0 0)) (mL (r.getD 0 0)) none :: GL := by
    unfold wsM wdM; rw [if_pos h6, h8]
  have hst2 : st = ((st.take (r.getD 1 0)).reverse).reverse ++ .ref b :: rest := by rw [List.reverse_reverse, ← hst, List.take_append_drop]
  have hp : PreS s H (PcJ base D tyC (.ref b :: (st.take (r.getD 1 0)).reverse) M) (.ref b :: (st.take (r.getD 1 0)).reverse) := ⟨pc_blind, fun U hU hW => pre_of hE hM hS hbs hU hW⟩
  intro T hT X
  left
  split at h2
  · exact va_runIN (As := (st.take (r.getD 1 0)).reverse) (rest := rest) (Ts := GL) (nL := mL mid) (n := r.getD 1 0) (host := "RegexTracer") (maxL := mL (r.getD 0 0)) (bytes := mB (r.getD 0 0)) ⟨hexec, hb, hml, hown, htsG⟩ (met_of hC)
      ⟨va_cnB _ htsG (gi_of (wsM_gl h5)) hws rfl rfl (hE.1 _ (nw_in h2)) (htsG _ (gw_in h4)) ⟨v3, v4, v5⟩ (hR_of hR v2), h7, htsG _ (gw_in h3)⟩ hp rfl (tk_len hlen) hls hst2 (lv_room hw8) hdg hf T hT X
  · exact va_runI (As := (st.take (r.getD 1 0)).reverse) (rest := rest) (Ts := GL) (nL := mL mid) (n := r.getD 1 0) (maxL := mL (r.getD 0 0)) (bytes := mB (r.getD 0 0)) ⟨hexec, hb, hml, hown, htsG⟩ (met_of hC)
      (cwI _ htsG (gi_of (wsM_gl h5)) hws rfl rfl (htsG _ (gw_in h4)) (htsG _ (gw_in h2)) (htsG _ (gw_in h3)) h7 ⟨v3, v4, v5⟩ (hR_of hR v2)) hp rfl (tk_len hlen) hls hst2 (lv_room hw8) hdg hf T hT X
end JR5
