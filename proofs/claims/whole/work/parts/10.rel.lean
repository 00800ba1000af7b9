/-! THE SMALL MACHINE AND THE MACHINE: what it means that a heap holds a memory, and the rows of the kit said once for each kind of instruction -/
def jat (D : va_G) (tyC : Nat → ClassId) (a : Nat) (e : JE) (H : Heap) : Prop := match e with
  | .inl (t, n, g) => t < 7 ∧ H[a]? = some (arrV (tyC t) n g)
  | .inr (ci, fs) => ∃ r : vw_C, clz[ci]? = some r ∧ t_OB a (D.1 ci) r.2.2 (D.2 ci) H (vp_V fs) ∧ fs.length = r.2.2
def MR (D : va_G) (tyC : Nat → ClassId) (base : Nat) (M : JM) (H : Heap) : Prop := H.size = M.1 ∧ ∀ (a : Nat) (e : JE), M.2.2 a = some e → base ≤ a ∧ jat D tyC a e H
def KT (D : va_G) (tyC : Nat → ClassId) (U : State) : Prop := (∀ (c : Nat) (q : vw_C), clz[c]? = some q → u_Kn U q.1 q.2.1 q.2.2 (D.1 c) (D.2 c)) ∧ ∀ t : Nat, t < 7 → ArrOfT U (tyC t) (atY t) ∧ va_RA U (tyC t) (atY t)
theorem jat.kept {D : va_G} {tyC : Nat → ClassId} {a : Nat} {e : JE} {H H1 : Heap} (h : jat D tyC a e H) (hq : H1[a]? = H[a]?) : jat D tyC a e H1 := by
  rcases e with ⟨t, n, g⟩ | ⟨ci, fs⟩
  · exact ⟨h.1, hq.trans h.2⟩
  · obtain ⟨r, h1, h2, h3⟩ := h
    exact ⟨r, h1, h2.kept hq, h3⟩
theorem jat.lt {D : va_G} {tyC : Nat → ClassId} {a : Nat} {e : JE} {H : Heap} (h : jat D tyC a e H) : a < H.size := by
  rcases e with ⟨t, n, g⟩ | ⟨ci, fs⟩
  · exact (Array.getElem?_eq_some_iff.mp h.2).1
  · obtain ⟨r, h1, ⟨cell, h2, -⟩, -⟩ := h
    exact (Array.getElem?_eq_some_iff.mp h2).1
theorem KT.moved {D : va_G} {tyC : Nat → ClassId} {u U : State} (hvm : u.vm.Alike U.vm) (h : KT D tyC u) : KT D tyC U := ⟨fun c q hq => u_Kn_moved hvm (h.1 c q hq), fun t ht => ⟨arrOfT_moved hvm (h.2 t ht).1, (h.2 t ht).2.moved hvm⟩⟩
/-- a write -/
theorem MR.set {D : va_G} {tyC : Nat → ClassId} {base : Nat} {M : JM} {H H1 : Heap} {a : Nat} {e0 e : JE} (h : MR D tyC base M H) (h0 : M.2.2 a = some e0) (z : H1.size = H.size) (oq : ∀ q : Nat, q ≠ a → H1[q]? = H[q]?) (he : jat D tyC a e H1) : MR D tyC base (mset M a e) H1 := by
  refine ⟨z.trans h.1, fun q f hq => ?_⟩
  by_cases hqa : q = a
  · subst hqa
    have : f = e := by
      have h2 : va_up M.2.2 q (some e) q = some f := hq
      rw [va_up_self] at h2
      exact (Option.some.inj h2).symm
    subst this
    exact ⟨(h.2 q e0 h0).1, he⟩
  · have h2 : va_up M.2.2 a (some e) q = some f := hq
    rw [va_up_ne _ _ hqa] at h2
    exact ⟨(h.2 q f h2).1, (h.2 q f h2).2.kept (oq q hqa)⟩
/-- a new cell -/
theorem MR.push {D : va_G} {tyC : Nat → ClassId} {base n : Nat} {M : JM} {H H1 : Heap} {e : JE} (h : MR D tyC base M H) (hb : base ≤ H.size) (z : H1.size = H.size + 1) (oq : ∀ q : Nat, q < H.size → H1[q]? = H[q]?) (he : jat D tyC M.1 e H1) : MR D tyC base (mnew M n e) H1 := by
  refine ⟨by rw [z, h.1]; rfl, fun q f hq => ?_⟩
  have h2 : va_up M.2.2 M.1 (some e) q = some f := hq
  by_cases hqa : q = M.1
  · subst hqa
    rw [va_up_self] at h2
    have := Option.some.inj h2
    subst this
    exact ⟨by rw [← h.1]; exact hb, he⟩
  · rw [va_up_ne _ _ hqa] at h2
    exact ⟨(h.2 q f h2).1, (h.2 q f h2).2.kept (oq q (h.2 q f h2).2.lt)⟩
/-- a cell that nobody asks for -/
theorem MR.thr {D : va_G} {tyC : Nat → ClassId} {base : Nat} {M : JM} {H H1 : Heap} (h : MR D tyC base M H) (z : H1.size = H.size + 1) (oq : ∀ q : Nat, q < H.size → H1[q]? = H[q]?) : MR D tyC base (mthr M) H1 :=
  ⟨by rw [z, h.1]; rfl, fun q f hq => ⟨(h.2 q f hq).1, (h.2 q f hq).2.kept (oq q (h.2 q f hq).2.lt)⟩⟩
/-- locals -/
def LH (ls : Array Slot) (nL : Nat) (L : List (Option Value)) : Prop := L.length = nL ∧ ls.size = nL ∧ lv_wf ls ∧ ∀ (i : Nat) (v : Value), L[i]? = some (some v) → ls[i]? = some (.val v)
def lvO (k : Nat) (L : List (Option Value)) : List (Nat × Value) := match L with
  | [] => []
  | none :: L => lvO (k + 1) L
  | some v :: L => (k, v) :: lvO (k + 1) L
theorem lvO_mem : ∀ (L : List (Option Value)) (k i : Nat) (v : Value), (i, v) ∈ lvO k L ↔ k ≤ i ∧ L[i - k]? = some (some v) := by
  intro L
  induction L with
  | nil => intro k i v; simp [lvO]
  | cons o L ih =>
    intro k i v
    have key : ∀ (hki : k + 1 ≤ i), (o :: L)[i - k]? = L[i - (k + 1)]? := by
      intro hki
      rw [show i - k = (i - (k + 1)) + 1 by omega, List.getElem?_cons_succ]
    cases o with
    | none =>
      rw [show lvO k (none :: L) = lvO (k + 1) L from rfl, ih]
      constructor
      · intro ⟨h1, h2⟩
        exact ⟨by omega, by rw [key h1]; exact h2⟩
      · intro ⟨h1, h2⟩
        by_cases he : i = k
        · subst he; simp at h2
        · exact ⟨by omega, by rw [← key (by omega)]; exact h2⟩
    | some w =>
      rw [show lvO k (some w :: L) = (k, w) :: lvO (k + 1) L from rfl, List.mem_cons, ih]
      constructor
      · rintro (h | ⟨h1, h2⟩)
        · cases h; simp
        · exact ⟨by omega, by rw [key h1]; exact h2⟩
      · intro ⟨h1, h2⟩
        by_cases he : i = k
        · subst he; simp at h2; left; rw [h2]
        · exact Or.inr ⟨by omega, by rw [← key (by omega)]; exact h2⟩
theorem LH.has {ls : Array Slot} {nL : Nat} {L : List (Option Value)} (h : LH ls nL L) : lv_has ls nL (lvO 0 L) :=
  ⟨h.2.1, h.2.2.1, fun q hq => h.2.2.2 q.1 q.2 ((lvO_mem L 0 q.1 q.2).mp hq).2⟩
theorem LH.st1 {ls ls' : Array Slot} {nL i : Nat} {L : List (Option Value)} {v : Value} (h : LH ls nL L) (hw : i = 0 ∨ wide L[i - 1]? = false)
    (h' : lv_has ls' nL ((i, v) :: (lvO 0 L).filter (fun q => !(q.1 == i) && !(q.1 + 1 == i && q.2.category == 2)))) : LH ls' nL (L.set i (some v)) := by
  refine ⟨by simpa using h.1, h'.1, h'.2.1, fun j w hj => ?_⟩
  by_cases hji : j = i
  · subst hji
    have : w = v := by
      rw [List.getElem?_set] at hj
      split at hj
      · split at hj
        · cases hj; rfl
        · cases hj
      · exact absurd rfl (by assumption)
    subst this
    exact h'.2.2 (j, w) List.mem_cons_self
  · rw [List.getElem?_set_ne (Ne.symm hji)] at hj
    refine h'.2.2 (j, w) (List.mem_cons_of_mem _ (List.mem_filter.mpr ⟨(lvO_mem L 0 j w).mpr ⟨Nat.zero_le _, by simpa using hj⟩, ?_⟩))
    simp only [Bool.and_eq_true, Bool.not_eq_true', beq_eq_false_iff_ne, ne_eq, hji, not_false_eq_true, true_and, Bool.and_eq_false_iff]
    by_cases hc : j + 1 = i
    · right
      rcases hw with hw | hw
      · omega
      · rw [show i - 1 = j by omega, hj] at hw
        cases w <;> simp_all [wide, Value.category]
    · left; exact hc
theorem LH.st2 {ls ls' : Array Slot} {nL i : Nat} {L : List (Option Value)} {v : Value} (h : LH ls nL L) (hi : i + 1 < L.length) (hw : i = 0 ∨ wide L[i - 1]? = false)
    (h' : lv_has ls' nL ((i, v) :: (lvO 0 L).filter (fun q => !(q.1 == i) && (!(q.1 == i + 1) && !(q.1 + 1 == i && q.2.category == 2))))) : LH ls' nL ((L.set i (some v)).set (i + 1) none) := by
  refine ⟨by simpa using h.1, h'.1, h'.2.1, fun j w hj => ?_⟩
  by_cases hj1 : j = i + 1
  · subst hj1
    rw [List.getElem?_set_self (by simpa using hi)] at hj
    cases hj
  · rw [List.getElem?_set_ne (Ne.symm hj1)] at hj
    by_cases hji : j = i
    · subst hji
      rw [List.getElem?_set_self (by omega)] at hj
      have : w = v := by cases hj; rfl
      subst this
      exact h'.2.2 (j, w) List.mem_cons_self
    · rw [List.getElem?_set_ne (Ne.symm hji)] at hj
      refine h'.2.2 (j, w) (List.mem_cons_of_mem _ (List.mem_filter.mpr ⟨(lvO_mem L 0 j w).mpr ⟨Nat.zero_le _, by simpa using hj⟩, ?_⟩))
      simp only [Bool.and_eq_true, Bool.not_eq_true', beq_eq_false_iff_ne, ne_eq, hji, hj1, not_false_eq_true, true_and, Bool.and_eq_false_iff]
      by_cases hc : j + 1 = i
      · right
        rcases hw with hw | hw
        · omega
        · rw [show i - 1 = j by omega, hj] at hw
          cases w <;> simp_all [wide, Value.category]
      · left; exact hc
theorem LH.drop {ls : Array Slot} {nL : Nat} {L : List (Option Value)} (h : LH ls nL L) (k : Nat) : LH ls nL (L.set k none) := by
  refine ⟨by simpa using h.1, h.2.1, h.2.2.1, fun j w hj => ?_⟩
  by_cases hjk : j = k
  · subst hjk
    rw [List.getElem?_set] at hj
    simp at hj
  · rw [List.getElem?_set_ne (Ne.symm hjk)] at hj
    exact h.2.2.2 j w hj
theorem stL_1 {L L' : List (Option Value)} {n : Nat} {v : Value} (hc : v.category = 1) (h : stL L n v = some L') : (n < L.length ∧ (n = 0 ∨ wide L[n - 1]? = false)) ∧ L' = L.set n (some v) := by
  unfold stL at h
  rw [if_neg (by omega)] at h
  split at h
  · rename_i h2; exact ⟨h2, (Option.some.inj h).symm⟩
  · cases h
theorem stL_2 {L L' : List (Option Value)} {n : Nat} {v : Value} (hc : v.category = 2) (h : stL L n v = some L') : (n + 1 < L.length ∧ (n = 0 ∨ wide L[n - 1]? = false)) ∧ L' = (L.set n (some v)).set (n + 1) none := by
  unfold stL at h
  rw [if_pos hc] at h
  split at h
  · rename_i h2; exact ⟨h2, (Option.some.inj h).symm⟩
  · cases h
section JR1
variable {p : Program} {l : Launch} {e : Env} {R : Room} {s : State} {m : MethodId} {args : Array Value} {below : List Frame} {meth : Method} {c : Code} {H : Heap} {locs : List Loc} {cells slots : Nat} {Q : State → Prop}
variable {cc : ByteArray} {pc : Nat} {ls : Array Slot} {st : List Value} {i : Instr}
theorem S_ld (hexec : p.tables.exec = Jvm.exec) (hb : c.code = cc) {k n : Nat} {v : Value} (hk : ldK i = some (k, n)) (hdg : decode cc pc = .ok (i, iln i)) (hl : ls[n]? = some (.val v)) (hv : kOk k v = true)
    (kk : W p l e R s m args below meth c H locs cells slots Q (F0 m (pc + iln i) ls (v :: st))) : W p l e R s m args below meth c H locs cells slots Q (F0 m pc ls st) := by
  unfold ldK at hk
  split at hk <;> first | (cases hk; done) | skip
  all_goals cases hk
  all_goals cases v <;> first | (exfalso; revert hv; simp [kOk]; done) | skip
  · exact lv_iload hexec hb hdg hl kk
  · exact lv_iload_n hexec hb hdg rfl hl kk
  · exact lv_lload hexec hb hdg hl kk
  · exact lv_lload_n hexec hb hdg rfl hl kk
  · exact lv_fload hexec hb hdg hl kk
  · exact lv_dload hexec hb hdg hl kk
  · exact lv_aloadN hexec hb hdg hl kk
  · exact lv_aload hexec hb hdg hl kk
  · exact lv_aload_nN hexec hb hdg rfl hl kk
  · exact lv_aload_n hexec hb hdg rfl hl kk
theorem S_st (hexec : p.tables.exec = Jvm.exec) (hb : c.code = cc) {k n nL : Nat} {v : Value} {L L' : List (Option Value)} (hk : stK i = some (k, n)) (hdg : decode cc pc = .ok (i, iln i)) (h : LH ls nL L) (hL : stL L n v = some L') (hv : kOk k v = true)
    (kk : ∀ ls' : Array Slot, LH ls' nL L' → W p l e R s m args below meth c H locs cells slots Q (F0 m (pc + iln i) ls' st)) : W p l e R s m args below meth c H locs cells slots Q (F0 m pc ls (v :: st)) := by
  have hlen := h.1
  unfold stK at hk
  split at hk <;> first | (cases hk; done) | skip
  all_goals cases hk
  all_goals cases v <;> first | (exfalso; revert hv; simp [kOk]; done) | skip
  all_goals first | obtain ⟨h2, rfl⟩ := stL_1 rfl hL | obtain ⟨h2, rfl⟩ := stL_2 rfl hL
  · exact lv_istore hexec hb hdg h.has (by omega) rfl (fun ls' hl => kk ls' (h.st1 h2.2 hl))
  · exact lv_istore_n hexec hb hdg rfl h.has (by omega) rfl (fun ls' hl => kk ls' (h.st1 h2.2 hl))
  · exact lv_lstore hexec hb hdg h.has (by omega) rfl (fun ls' hl => kk ls' (h.st2 h2.1 h2.2 hl))
  · exact lv_lstore_n hexec hb hdg rfl h.has (by omega) rfl (fun ls' hl => kk ls' (h.st2 h2.1 h2.2 hl))
  · exact lv_fstore hexec hb hdg h.has (by omega) rfl (fun ls' hl => kk ls' (h.st1 h2.2 hl))
  · exact lv_dstore hexec hb hdg h.has (by omega) rfl (fun ls' hl => kk ls' (h.st2 h2.1 h2.2 hl))
  · exact lv_astoreN hexec hb hdg h.has (by omega) rfl (fun ls' hl => kk ls' (h.st1 h2.2 hl))
  · exact lv_astore hexec hb hdg h.has (by omega) rfl (fun ls' hl => kk ls' (h.st1 h2.2 hl))
  · exact lv_astore_nN hexec hb hdg rfl h.has (by omega) rfl (fun ls' hl => kk ls' (h.st1 h2.2 hl))
  · exact lv_astore_n hexec hb hdg rfl h.has (by omega) rfl (fun ls' hl => kk ls' (h.st1 h2.2 hl))
theorem S_cst (hexec : p.tables.exec = Jvm.exec) (hb : c.code = cc) {own : String} {r : List Nat} {v : Value} (hown : s.vm.findClass own = some m.cls) (hw : ∀ n : Nat, (i = .ldc n ∨ i = .ldc_w n) → (Cond.constant own n (Int32.ofNat (r.getD 0 0))).before args s = true)
    (hc : cst i r = some v) (hdg : decode cc pc = .ok (i, iln i))
    (kk : W p l e R s m args below meth c H locs cells slots Q (F0 m (pc + iln i) ls (v :: st))) : W p l e R s m args below meth c H locs cells slots Q (F0 m pc ls st) := by
  unfold cst at hc
  split at hc <;> first | (cases hc; done) | skip
  · cases hc; exact lv_iconst hexec hb hdg rfl kk
  · cases hc; exact lv_bipush hexec hb hdg rfl kk
  · cases hc; exact lv_sipush hexec hb hdg rfl kk
  · cases hc; exact lv_lconst hexec hb hdg rfl kk
  · split at hc
    · rename_i h0; subst h0; cases hc; exact lv_fconst0 hexec hb hdg kk
    · cases hc
  · split at hc
    · rename_i h0; subst h0; cases hc; exact lv_dconst0 hexec hb hdg kk
    · cases hc
  · cases hc; exact lv_null hexec hb hdg kk
  · cases hc; exact lv_ldc hexec hb hown (hw _ (Or.inl rfl)) hdg kk
  · cases hc; exact lv_ldcw hexec hb hown (hw _ (Or.inr rfl)) hdg kk
end JR1
theorem nl_warm {w : Cond} (hk : nlk w = true) {s U : State} (hW : s.WarmedH U.vm) (h : va_Nw w s) : va_Nw w U := by
  unfold nlk at hk
  split at hk <;> first | (cases hk; done) | skip
  · exact va_Nw.warmC hW h
  · exact va_Nw.warmD hW h
  · exact va_Nw.warmF hW h
  · exact va_Nw.warmM hW h
theorem nc_moved {C T : String} {s U : State} (hvm : s.vm.Alike U.vm) (h : va_Nc C T s) : va_Nc C T U := by
  obtain ⟨c, t, h1, h2, h3⟩ := h
  exact ⟨c, t, by rw [hvm.findClass]; exact h1, by rw [hvm.findClass]; exact h2, by rw [hvm.assignable]; exact h3⟩
def EN (base : Nat) (D : va_G) (tyC : Nat → ClassId) (U : State) (H : Heap) : Prop :=
  (∀ w ∈ NL, va_Nw w U) ∧ (∀ q ∈ SL, ∃ sa : Nat, vk_R q.1 q.2.1 q.2.2 sa U) ∧ vx_Zq Bundle.tN "UNASSIGNED_STACK" Bundle.steD (fun q => base ≤ q) U H ∧ vx_Zq Bundle.tN "SUPPRESSED_SENTINEL" Bundle.listD (fun q => base ≤ q) U H ∧
  KT D tyC U ∧ va_AO "RegexTracer$Pattern" U ∧ va_AO "RegexTracer$Content" U ∧ ∀ i j : Nat, i < 5 → j < 5 → i ≠ j → va_Nc (exN i) (exN j) U
theorem EN.warm {base : Nat} {D : va_G} {tyC : Nat → ClassId} {s U : State} {H H1 : Heap} (h : EN base D tyC s H) (hW : s.WarmedH U.vm) (hq : ∀ a : Nat, a < H.size → ¬ base ≤ a → H1[a]? = H[a]?) : EN base D tyC U H1 := by
  obtain ⟨h1, h2, h3, h4, h5, h6, h7, h8⟩ := h
  refine ⟨fun w hw => nl_warm (List.mem_filter.mp hw).2 hW (h1 w hw), fun q hq2 => ?_, (h3.moved hW.alike).kept hq, (h4.moved hW.alike).kept hq, h5.moved hW.alike, h6.moved hW.alike, h7.moved hW.alike, fun i j hi hj hij => nc_moved hW.alike (h8 i j hi hj hij)⟩
  obtain ⟨sa, hsa⟩ := h2 q hq2
  exact ⟨sa, hsa.warm hW⟩
theorem EN.blind {base : Nat} {D : va_G} {tyC : Nat → ClassId} {U : State} {g : JFrame} {mk : MethodId} {a : Array Value} (h : EN base D tyC U U.heap) : EN base D tyC (U.calling g mk a) (U.calling g mk a).heap :=
  EN.warm (H1 := (U.calling g mk a).heap) h (State.WarmedH.refl U) (fun _ _ _ => rfl)
