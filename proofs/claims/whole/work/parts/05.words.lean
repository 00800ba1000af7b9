/-! readers of the tables, the words that every method's contract rests on -/
def mOf (mid : Nat) : MI := match mid / 40 with
  | 0 => mts_0.getD (mid % 40) m_0 | 1 => mts_1.getD (mid % 40) m_0 | 2 => mts_2.getD (mid % 40) m_0 | 3 => mts_3.getD (mid % 40) m_0
  | 4 => mts_4.getD (mid % 40) m_0 | 5 => mts_5.getD (mid % 40) m_0 | _ => mts_6.getD (mid % 40) m_0
def mN (mid : Nat) : MethodName := (mOf mid).1
def mB (mid : Nat) : ByteArray := (mOf mid).2.1
def mL (mid : Nat) : Nat := (mOf mid).2.2.1
def mR (mid : Nat) : Option FieldType := (mOf mid).2.2.2.1
def mH (mid : Nat) : List (Nat × Nat × Nat × Nat) := (mOf mid).2.2.2.2.1
def mX (mid : Nat) : List (Nat × Nat × Nat × Nat × Nat) := (mOf mid).2.2.2.2.2.1
def mK (mid : Nat) : List CI := (mOf mid).2.2.2.2.2.2
def lk (l : List CI) (pc : Nat) : Option (Instr × Nat × List Nat) := match l with
  | [] => none
  | c :: l => if c.1 = pc then some c.2 else lk l pc
def cd (mid pc : Nat) : Option (Instr × Nat × List Nat) := lk (mK mid) pc
def stK (i : Instr) : Option (Nat × Nat) := match i with
  | .istore i => some (0, i) | .istore_n i => some (0, i) | .lstore i => some (1, i) | .lstore_n i => some (1, i)
  | .fstore i => some (2, i) | .dstore i => some (3, i) | .astore i => some (4, i) | .astore_n i => some (4, i) | _ => none
def atY (t : Nat) : FieldType := match t with
  | 0 => .int | 1 => .long | 2 => .double | 3 => .boolean | 4 => .char | 5 => .object "RegexTracer$Pattern" | _ => .object "RegexTracer$Content"
def iln (i : Instr) : Nat := match i with
  | .iload _ => 2 | .lload _ => 2 | .fload _ => 2 | .dload _ => 2 | .aload _ => 2 | .istore _ => 2 | .lstore _ => 2 | .fstore _ => 2 | .dstore _ => 2 | .astore _ => 2
  | .bipush _ => 2 | .sipush _ => 3 | .ldc _ => 2 | .ldc_w _ => 3 | .iinc _ _ => 3 | .ifCond _ _ => 3 | .if_icmp _ _ => 3 | .ifnull _ => 3 | .ifnonnull _ => 3 | .goto _ => 3
  | .getfield _ => 3 | .putfield _ => 3 | .new _ => 3 | .newarray _ => 2 | .anewarray _ => 3 | .invokestatic _ => 3 | .invokevirtual _ => 3 | .invokespecial _ => 3 | _ => 1
def GL : List Cond := lw_tbl.filter goodWord
def tbi (i : Nat) : Option Cond := if i < 74 then (k2_sels lw_privs)[i]? else match (i - 74) / 240 with
  | 0 => tables_1_1[(i - 74) % 240]? | 1 => tables_1_2[(i - 74) % 240]? | 2 => tables_1_3[(i - 74) % 240]? | 3 => tables_1_4[(i - 74) % 240]?
  | 4 => tables_1_5[(i - 74) % 240]? | 5 => tables_1_6[(i - 74) % 240]? | _ => tables_1_7[(i - 74) % 240]?
theorem tbi_in {i : Nat} {w : Cond} (h : tbi i = some w) : w ∈ lw_tbl := by
  unfold tbi at h
  unfold lw_tbl tables_1
  simp only [List.mem_append]
  split at h
  · exact Or.inl (List.mem_of_getElem? h)
  · right
    split at h
    · exact Or.inl (List.mem_of_getElem? h)
    · exact Or.inr (Or.inl (List.mem_of_getElem? h))
    · exact Or.inr (Or.inr (Or.inl (List.mem_of_getElem? h)))
    · exact Or.inr (Or.inr (Or.inr (Or.inl (List.mem_of_getElem? h))))
    · exact Or.inr (Or.inr (Or.inr (Or.inr (Or.inl (List.mem_of_getElem? h)))))
    · exact Or.inr (Or.inr (Or.inr (Or.inr (Or.inr (Or.inl (List.mem_of_getElem? h))))))
    · exact Or.inr (Or.inr (Or.inr (Or.inr (Or.inr (Or.inr (List.mem_of_getElem? h))))))
def gw (i : Nat) (w : Cond) : Bool := decide (tbi i = some w) && goodWord w
theorem gw_in {i : Nat} {w : Cond} (h : gw i w = true) : w ∈ GL := by
  simp only [gw, Bool.and_eq_true, decide_eq_true_eq] at h
  exact List.mem_filter.mpr ⟨tbi_in h.1, h.2⟩
def wdM (mid : Nat) : Cond := if mH mid = [] then .code (mN mid) (mB mid) (mL mid) (mR mid) else .codeWith (mN mid) (mB mid) (mL mid) (mR mid) (mH mid)
def wsM (mid : Nat) : List Cond := wdM mid :: GL
def nlk (w : Cond) : Bool := match w with
  | .castable _ _ => true | .declares _ => true | .fieldLinkNest .. => true | .methodLinkNest .. => true | _ => false
def NL : List Cond := lw_tbl.filter nlk
def nw (i : Nat) (w : Cond) : Bool := decide (tbi i = some w) && nlk w
theorem nw_in {i : Nat} {w : Cond} (h : nw i w = true) : w ∈ NL := by
  simp only [nw, Bool.and_eq_true, decide_eq_true_eq] at h
  exact List.mem_filter.mpr ⟨tbi_in h.1, h.2⟩
theorem GL_good : ∀ w ∈ GL, goodWord w = true := fun _ h => (List.mem_filter.mp h).2
theorem wd_good (mid : Nat) : goodWord (wdM mid) = true := by
  unfold wdM
  split <;> rfl
theorem gl_inlaid : ((List.range 10).all fun ci => match clz[ci]? with
  | some (C, T, N) => (u_ws C T N).all fun w => decide (w ∈ lw_tbl) && goodWord w
  | none => false) = true := by decide +kernel
theorem clz_ws {ci : Nat} {C : String} {T : u_T} {N : Nat} (h : clz[ci]? = some (C, T, N)) : ∀ w ∈ u_ws C T N, w ∈ GL := by
  have hlt : ci < 10 := (List.getElem?_eq_some_iff.mp h).1
  have h1 := List.all_eq_true.mp gl_inlaid ci (List.mem_range.mpr hlt)
  rw [h] at h1
  intro w hw
  have h2 := List.all_eq_true.mp h1 w hw
  simp only [Bool.and_eq_true, decide_eq_true_eq] at h2
  exact List.mem_filter.mpr h2
