/-! the words that every method's contract rests on, and what stays true of the tables and of what nobody writes -/
def GL : List Cond := lw_tbl.filter goodWord
def gw (i : Nat) (w : Cond) : Bool := decide (lw_tbl[i]? = some w) && goodWord w
theorem gw_in {i : Nat} {w : Cond} (h : gw i w = true) : w ∈ GL := by
  simp only [gw, Bool.and_eq_true, decide_eq_true_eq] at h
  exact List.mem_filter.mpr ⟨List.mem_of_getElem? h.1, h.2⟩
def wdM (mid : Nat) : Cond := if mH mid = [] then .code (mN mid) (mB mid) (mL mid) (mR mid) else .codeWith (mN mid) (mB mid) (mL mid) (mR mid) (mH mid)
def wsM (mid : Nat) : List Cond := wdM mid :: GL
def nlk (w : Cond) : Bool := match w with
  | .castable _ _ => true | .declares _ => true | .fieldLinkNest .. => true | .methodLinkNest .. => true | _ => false
def NL : List Cond := lw_tbl.filter nlk
def nw (i : Nat) (w : Cond) : Bool := decide (lw_tbl[i]? = some w) && nlk w
theorem nw_in {i : Nat} {w : Cond} (h : nw i w = true) : w ∈ NL := by
  simp only [nw, Bool.and_eq_true, decide_eq_true_eq] at h
  exact List.mem_filter.mpr ⟨List.mem_of_getElem? h.1, h.2⟩
theorem nl_warm {w : Cond} (hk : nlk w = true) {s U : State} (hW : s.WarmedH U.vm) (h : va_Nw w s) : va_Nw w U := by
  unfold nlk at hk
  split at hk <;> first | (cases hk; done) | skip
  · exact va_Nw.warmC hW h
  · exact va_Nw.warmD hW h
  · exact va_Nw.warmF hW h
  · exact va_Nw.warmM hW h
theorem nc_moved {C T : String} {s U : State} (hvm : s.vm.Alike U.vm) (h : va_Nc C T s) : va_Nc C T U := by
  obtain ⟨c, t, h1, h2, h3⟩ := h
  exact ⟨c, t, by rw [hvm.findClass]; exact h1, by rw [hvm.findClass]; exact h2, by rw [hvm.assignable]; exact h3⟩
def EN (base : Nat) (D : va_G) (tyC : Nat → ClassId) (U : State) (H : Heap) : Prop :=
  (∀ w ∈ NL, va_Nw w U) ∧ (∀ q ∈ SL, ∃ sa : Nat, vk_R q.1 q.2.1 q.2.2 sa U) ∧ vx_Zq Bundle.tN "UNASSIGNED_STACK" Bundle.steD (fun q => base ≤ q) U H ∧ vx_Zq Bundle.tN "SUPPRESSED_SENTINEL" Bundle.listD (fun q => base ≤ q) U H ∧
  KT D tyC U ∧ va_AO "RegexTracer$Pattern" U ∧ va_AO "RegexTracer$Content" U ∧ ∀ i j : Nat, i < 5 → j < 5 → i ≠ j → va_Nc (exN i) (exN j) U
theorem EN.warm {base : Nat} {D : va_G} {tyC : Nat → ClassId} {s U : State} {H H1 : Heap} (h : EN base D tyC s H) (hW : s.WarmedH U.vm) (hq : ∀ a : Nat, a < H.size → ¬ base ≤ a → H1[a]? = H[a]?) : EN base D tyC U H1 := by
  obtain ⟨h1, h2, h3, h4, h5, h6, h7, h8⟩ := h
  refine ⟨fun w hw => nl_warm (List.mem_filter.mp hw).2 hW (h1 w hw), fun q hq2 => ?_, (h3.moved hW.alike).kept hq, (h4.moved hW.alike).kept hq, h5.moved hW.alike, h6.moved hW.alike, h7.moved hW.alike, fun i j hi hj hij => nc_moved hW.alike (h8 i j hi hj hij)⟩
  obtain ⟨sa, hsa⟩ := h2 q hq2
  exact ⟨sa, hsa.warm hW⟩
theorem EN.blind {base : Nat} {D : va_G} {tyC : Nat → ClassId} {U : State} {g : JFrame} {mk : MethodId} {a : Array Value} (h : EN base D tyC U U.heap) : EN base D tyC (U.calling g mk a) (U.calling g mk a).heap :=
  EN.warm (H1 := (U.calling g mk a).heap) h (State.WarmedH.refl U) (fun _ _ _ => rfl)
theorem GL_good : ∀ w ∈ GL, goodWord w = true := fun _ h => (List.mem_filter.mp h).2
theorem wd_good (mid : Nat) : goodWord (wdM mid) = true := by
  unfold wdM
  split <;> rfl
theorem gl_inlaid : ((List.range 10).all fun ci => match clz[ci]? with
  | some (C, T, N) => (u_ws C T N).all fun w => decide (w ∈ lw_tbl) && goodWord w
  | none => false) = true := by decide +kernel
theorem clz_ws {ci : Nat} {C : String} {T : u_T} {N : Nat} (h : clz[ci]? = some (C, T, N)) : ∀ w ∈ u_ws C T N, w ∈ GL := by
  have hlt : ci < 10 := (List.getElem?_eq_some_iff.mp h).1
  have h1 := List.all_eq_true.mp gl_inlaid ci (List.mem_range.mpr hlt)
  rw [h] at h1
  intro w hw
  have h2 := List.all_eq_true.mp h1 w hw
  simp only [Bool.and_eq_true, decide_eq_true_eq] at h2
  exact List.mem_filter.mpr h2
