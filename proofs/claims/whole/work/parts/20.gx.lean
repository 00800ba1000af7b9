/-! what one row does to XX, a kind at a time (the rows of each method, by their places, are printed out of these) -/
def xl (k : Nat) (o : Option (Option Value)) (f : Value → Prop) : Prop := match o with
  | some (some v) => kOk k v = true ∧ f v
  | _ => False
def xo (o : Option Value) (f : Value → Prop) : Prop := match o with
  | some v => f v
  | none => False
def xg (o : Option JE) (ci k : Nat) (f : Value → Prop) : Prop := match o with
  | some (.inr (c, fs)) => if c = ci then xo fs[k]? f else False
  | _ => False
def xp (o : Option JE) (ci k : Nat) (v : Value) (f : List Value → Prop) : Prop := match o with
  | some (.inr (c, fs)) => if c = ci ∧ k < fs.length ∧ fOk (clTy ci k) v = true then f (fs.set k v) else False
  | _ => False
def xa (o : Option JE) (T : Nat → Bool) (k : Int32) (f : Value → Prop) : Prop := match o with
  | some (.inl (t, n, g)) => if T t = true ∧ ¬ (k < 0 ∨ n ≤ k.toNatClampNeg) then f (g k.toNatClampNeg) else False
  | _ => False
def xn (o : Option JE) (f : Nat → Prop) : Prop := match o with
  | some (.inl (_, n, _)) => f n
  | _ => False
def xw (o : Option JE) (A : Nat → Option Value) (k : Int32) (f : JE → Prop) : Prop := match o with
  | some (.inl (t, n, g)) => (match A t with
    | some w => if ¬ (k < 0 ∨ n ≤ k.toNatClampNeg) then f (.inl (t, n, va_up g k.toNatClampNeg w)) else False
    | none => False)
  | _ => False
def xt (o : Option Nat) (f : Nat → Prop) : Prop := match o with
  | some t => f t
  | none => False
theorem xl_i {x : Int32} {f : Value → Prop} : xl 0 (some (some (.int x))) f = f (.int x) := propext ⟨fun h => h.2, fun h => ⟨rfl, h⟩⟩
theorem xl_l {x : Int64} {f : Value → Prop} : xl 1 (some (some (.long x))) f = f (.long x) := propext ⟨fun h => h.2, fun h => ⟨rfl, h⟩⟩
theorem xl_f {x : UInt32} {f : Value → Prop} : xl 2 (some (some (.float x))) f = f (.float x) := propext ⟨fun h => h.2, fun h => ⟨rfl, h⟩⟩
theorem xl_d {x : UInt64} {f : Value → Prop} : xl 3 (some (some (.double x))) f = f (.double x) := propext ⟨fun h => h.2, fun h => ⟨rfl, h⟩⟩
theorem xl_r {x : Nat} {f : Value → Prop} : xl 4 (some (some (.ref x))) f = f (.ref x) := propext ⟨fun h => h.2, fun h => ⟨rfl, h⟩⟩
theorem xl_n {f : Value → Prop} : xl 4 (some (some .null)) f = f .null := propext ⟨fun h => h.2, fun h => ⟨rfl, h⟩⟩
theorem xo_s {v : Value} {f : Value → Prop} : xo (some v) f = f v := rfl
theorem xg_s {ci k : Nat} {fs : List Value} {f : Value → Prop} : xg (some (.inr (ci, fs))) ci k f = xo fs[k]? f := if_pos rfl
theorem xp_s {ci k : Nat} {v : Value} {fs : List Value} {f : List Value → Prop} (h1 : k < fs.length) (h2 : fOk (clTy ci k) v = true) : xp (some (.inr (ci, fs))) ci k v f = f (fs.set k v) := if_pos ⟨rfl, h1, h2⟩
theorem xa_s {t n : Nat} {g : Nat → Value} {T : Nat → Bool} {k : Int32} {f : Value → Prop} (h1 : T t = true) (h2 : ¬ (k < 0 ∨ n ≤ k.toNatClampNeg)) : xa (some (.inl (t, n, g))) T k f = f (g k.toNatClampNeg) := if_pos ⟨h1, h2⟩
theorem xn_s {t n : Nat} {g : Nat → Value} {f : Nat → Prop} : xn (some (.inl (t, n, g))) f = f n := rfl
theorem xw_s {t n : Nat} {g : Nat → Value} {A : Nat → Option Value} {w : Value} {k : Int32} {f : JE → Prop} (h1 : A t = some w) (h2 : ¬ (k < 0 ∨ n ≤ k.toNatClampNeg)) : xw (some (.inl (t, n, g))) A k f = f (.inl (t, n, va_up g k.toNatClampNeg w)) := by
  unfold xw
  simp only
  rw [h1]
  simp only
  rw [if_pos h2]
theorem xt_s {t : Nat} {f : Nat → Prop} : xt (some t) f = f t := rfl
theorem mset_eq {M : JM} {a : Nat} {e : JE} : (mset M a e).2.2 a = some e := va_up_self _ _ _
theorem mset_ne {M : JM} {a b : Nat} {e : JE} (h : b ≠ a) : (mset M a e).2.2 b = M.2.2 b := va_up_ne _ _ h
theorem mnew_eq {M : JM} {n : Nat} {e : JE} : (mnew M n e).2.2 M.1 = some e := va_up_self _ _ _
theorem mnew_ne {M : JM} {n b : Nat} {e : JE} (h : b ≠ M.1) : (mnew M n e).2.2 b = M.2.2 b := va_up_ne _ _ h
theorem mset_1 {M : JM} {a : Nat} {e : JE} : (mset M a e).1 = M.1 := rfl
theorem mset_21 {M : JM} {a : Nat} {e : JE} : (mset M a e).2.1 = M.2.1 := rfl
theorem mnew_1 {M : JM} {n : Nat} {e : JE} : (mnew M n e).1 = M.1 + 1 := rfl
theorem mnew_21 {M : JM} {n : Nat} {e : JE} : (mnew M n e).2.1 = M.2.1 + n := rfl
section GX
variable {X : JX} {d mid pc pc' ln : Nat} {i : Instr} {r : List Nat} {L : List (Option Value)} {st : List Value} {M : JM} {Q : JR → JM → Prop}
theorem G_of (hcd : cd mid pc = some (i, ln, r)) : XX X d mid (pc, L, st, M) Q = XS X d mid pc (stepI X mid (i, ln, r) (pc, L, st, M)) Q := by
  rw [XX_go, hcd]; rfl
theorem G_ld {k n : Nat} (hcd : cd mid pc = some (i, ln, r)) (hk : ldK i = some (k, n)) (hp : pc + ln = pc') : XX X d mid (pc, L, st, M) Q = xl k L[n]? (fun v => XX X d mid (pc', L, v :: st, M) Q) := by
  rw [G_of hcd]
  subst hp
  unfold stepI xl
  simp only [hk]
  cases L[n]? with
  | none => rfl
  | some o =>
    cases o with
    | none => rfl
    | some v =>
      simp only
      apply propext
      by_cases h : kOk k v = true
      · rw [if_pos h]
        exact ⟨fun h2 => ⟨h, h2⟩, fun h2 => h2.2⟩
      · rw [if_neg h]
        exact ⟨fun h2 => h2.elim, fun h2 => absurd h2.1 h⟩
theorem G_st {k n : Nat} {v : Value} (hcd : cd mid pc = some (i, ln, r)) (hl : ldK i = none) (hk : stK i = some (k, n)) (hv : kOk k v = true) (hp : pc + ln = pc') (hc : v.category = 1) : XX X d mid (pc, L, v :: st, M) Q = if n < L.length ∧ (n = 0 ∨ wide L[n - 1]? = false) then XX X d mid (pc', L.set n (some v), st, M) Q else False := by
  rw [G_of hcd]
  subst hp
  unfold stepI
  simp only [hl, hk, hv, if_true]
  unfold stL
  rw [if_neg (by omega)]
  by_cases h : n < L.length ∧ (n = 0 ∨ wide L[n - 1]? = false)
  · rw [if_pos h, if_pos h]; rfl
  · rw [if_neg h, if_neg h]; rfl
theorem G_st2 {k n : Nat} {v : Value} (hcd : cd mid pc = some (i, ln, r)) (hl : ldK i = none) (hk : stK i = some (k, n)) (hv : kOk k v = true) (hp : pc + ln = pc') (hc : v.category = 2) : XX X d mid (pc, L, v :: st, M) Q = if n + 1 < L.length ∧ (n = 0 ∨ wide L[n - 1]? = false) then XX X d mid (pc', (L.set n (some v)).set (n + 1) none, st, M) Q else False := by
  rw [G_of hcd]
  subst hp
  unfold stepI
  simp only [hl, hk, hv, if_true]
  unfold stL
  rw [if_pos hc]
  by_cases h : n + 1 < L.length ∧ (n = 0 ∨ wide L[n - 1]? = false)
  · rw [if_pos h, if_pos h]; rfl
  · rw [if_neg h, if_neg h]; rfl
theorem G_cst {v : Value} (hcd : cd mid pc = some (i, ln, r)) (hl : ldK i = none) (hk : stK i = none) (hc : cst i r = some v) (hp : pc + ln = pc') : XX X d mid (pc, L, st, M) Q = XX X d mid (pc', L, v :: st, M) Q := by
  rw [G_of hcd]
  subst hp
  unfold stepI
  simp only [hl, hk, hc]
  rfl
theorem G_scr (hcd : cd mid pc = some (i, ln, [1])) (hl : ldK i = none) (hk : stK i = none) (hc : cst i [1] = none) (hp : pc + ln = pc') {st' : List Value} (hs : scrOp X i st = some st') : XX X d mid (pc, L, st, M) Q = XX X d mid (pc', L, st', M) Q := by
  rw [G_of hcd]
  subst hp
  unfold stepI
  simp only [hl, hk, hc, hs, if_true]
  rfl
def notLS (i : Instr) (r : List Nat) : Prop := ldK i = none ∧ stK i = none ∧ cst i r = none ∧ ¬ r = [1]
theorem G_sop {st' : List Value} (hcd : cd mid pc = some (i, ln, r)) (hn : notLS i r) (hs : sop i st = some st') (hp : pc + ln = pc') : XX X d mid (pc, L, st, M) Q = XX X d mid (pc', L, st', M) Q := by
  rw [G_of hcd]
  subst hp
  obtain ⟨h1, h2, h3, h4⟩ := hn
  unfold stepI
  simp only [h1, h2, h3, hs, if_neg h4]
  rfl
theorem G_sopC {st' : List Value} {c : Prop} [Decidable c] (hcd : cd mid pc = some (i, ln, r)) (hn : notLS i r) (hs : sop i st = if c then some st' else none) (hp : pc + ln = pc') (hc : c) : XX X d mid (pc, L, st, M) Q = XX X d mid (pc', L, st', M) Q := G_sop hcd hn (by rw [hs, if_pos hc]) hp
theorem G_bop {st' : List Value} {c : Prop} [Decidable c] {t : Nat} (hcd : cd mid pc = some (i, ln, r)) (hn : notLS i r) (hs : sop i st = none) (hb : bop i st = some (decide c, st')) (hp : pc + ln = pc') (ht : r.getD 0 0 = t) : XX X d mid (pc, L, st, M) Q = if c then XX X d mid (t, L, st', M) Q else XX X d mid (pc', L, st', M) Q := by
  rw [G_of hcd]
  subst hp; subst ht
  obtain ⟨h1, h2, h3, h4⟩ := hn
  unfold stepI
  simp only [h1, h2, h3, hs, hb, if_neg h4]
  by_cases h : c
  · simp only [h, decide_true, if_true]; rfl
  · simp only [h, decide_false, if_false, Bool.false_eq_true]; rfl
theorem G_jmp {b : Bool} {st' : List Value} (hcd : cd mid pc = some (i, ln, r)) (hn : notLS i r) (hs : sop i st = none) (hb : bop i st = some (b, st')) (hp : (if b = true then r.getD 0 0 else pc + ln) = pc') : XX X d mid (pc, L, st, M) Q = XX X d mid (pc', L, st', M) Q := by
  rw [G_of hcd]
  subst hp
  obtain ⟨h1, h2, h3, h4⟩ := hn
  unfold stepI
  simp only [h1, h2, h3, hs, hb, if_neg h4]
  rfl
def notSB (i : Instr) (r : List Nat) (st : List Value) : Prop := notLS i r ∧ sop i st = none ∧ bop i st = none
theorem G_ald {a : Nat} {k : Int32} (hcd : cd mid pc = some (i, ln, r)) (hn : notSB i r (.int k :: .ref a :: st)) (hi : isAld i = true) (hp : pc + ln = pc') : XX X d mid (pc, L, .int k :: .ref a :: st, M) Q = xa (M.2.2 a) (aldT i) k (fun v => XX X d mid (pc', L, v :: st, M) Q) := by
  rw [G_of hcd]
  subst hp
  obtain ⟨⟨h1, h2, h3, h4⟩, h5, h6⟩ := hn
  unfold stepI
  simp only [h1, h2, h3, h5, h6, if_neg h4, hi, if_true]
  unfold xa
  cases M.2.2 a with
  | none => rfl
  | some e =>
    rcases e with ⟨t, n, g⟩ | ⟨ci, fs⟩
    · simp only
      by_cases h : aldT i t = true ∧ ¬ (k < 0 ∨ n ≤ k.toNatClampNeg)
      · rw [if_pos h, if_pos h]; rfl
      · rw [if_neg h, if_neg h]; rfl
    · rfl
theorem G_ast {a : Nat} {k : Int32} {v : Value} (hcd : cd mid pc = some (i, ln, r)) (hn : notSB i r (v :: .int k :: .ref a :: st)) (hi0 : isAld i = false) (hi : isAst i = true) (hp : pc + ln = pc') : XX X d mid (pc, L, v :: .int k :: .ref a :: st, M) Q = xw (M.2.2 a) (fun t => astV i t v (mcl M)) k (fun e => XX X d mid (pc', L, st, mset M a e) Q) := by
  rw [G_of hcd]
  subst hp
  obtain ⟨⟨h1, h2, h3, h4⟩, h5, h6⟩ := hn
  unfold stepI
  simp only [h1, h2, h3, h5, h6, if_neg h4, hi0, hi, if_true, Bool.false_eq_true, if_false]
  unfold xw
  cases M.2.2 a with
  | none => rfl
  | some e =>
    rcases e with ⟨t, n, g⟩ | ⟨ci, fs⟩
    · simp only
      cases astV i t v (mcl M) with
      | none => rfl
      | some w =>
        simp only
        by_cases h : ¬ (k < 0 ∨ n ≤ k.toNatClampNeg)
        · rw [if_pos h, if_pos h]; rfl
        · rw [if_neg h, if_neg h]; rfl
    · rfl
def notAA (i : Instr) (r : List Nat) (st : List Value) : Prop := notSB i r st ∧ isAld i = false ∧ isAst i = false
theorem G_exO (hcd : cd mid pc = some (i, ln, r)) (hn : notAA i r st) (h0 : ¬ i = .return_) (hr : ∀ ty v, rOk i ty v = false) : XX X d mid (pc, L, st, M) Q = XS X d mid pc (match exO M pc ln r L st i with | some s => some s | none => exC M pc ln r L st i) Q := by
  rw [G_of hcd]
  obtain ⟨⟨⟨h1, h2, h3, h4⟩, h5, h6⟩, h7, h8⟩ := hn
  unfold stepI
  simp only [h1, h2, h3, h5, h6, h7, h8, if_neg h4, Bool.false_eq_true, if_false]
  cases st with
  | nil => simp only [if_neg h0]; rfl
  | cons v st =>
    cases st with
    | nil => simp only [hr, Bool.false_eq_true, if_false]; rfl
    | cons w st => rfl
theorem G_getf {a n ci k : Nat} (hcd : cd mid pc = some (.getfield n, ln, r)) (hr1 : ¬ r = [1]) (hp : pc + ln = pc') (hci : r.getD 0 0 = ci) (hk : r.getD 1 0 = k) : XX X d mid (pc, L, .ref a :: st, M) Q = xg (M.2.2 a) ci k (fun v => XX X d mid (pc', L, v :: st, M) Q) := by
  rw [G_exO hcd ⟨⟨⟨rfl, rfl, rfl, hr1⟩, rfl, rfl⟩, rfl, rfl⟩ (by simp) (fun _ _ => rfl)]
  subst hp; subst hci; subst hk
  unfold xg exO
  simp only
  cases M.2.2 a with
  | none => rfl
  | some e =>
    rcases e with ⟨t, n, g⟩ | ⟨ci, fs⟩
    · rfl
    · simp only
      by_cases h : ci = r.getD 0 0
      · rw [if_pos h, if_pos h]
        unfold xo
        cases fs[r.getD 1 0]? with
        | none => rfl
        | some v => rfl
      · rw [if_neg h, if_neg h]; rfl
theorem G_putf {a n ci k : Nat} {v : Value} (hcd : cd mid pc = some (.putfield n, ln, r)) (hr1 : ¬ r = [1]) (hp : pc + ln = pc') (hci : r.getD 0 0 = ci) (hk : r.getD 1 0 = k) : XX X d mid (pc, L, v :: .ref a :: st, M) Q = xp (M.2.2 a) ci k v (fun fs => XX X d mid (pc', L, st, mset M a (.inr (ci, fs))) Q) := by
  rw [G_exO hcd ⟨⟨⟨rfl, rfl, rfl, hr1⟩, rfl, rfl⟩, rfl, rfl⟩ (by simp) (fun _ _ => rfl)]
  subst hp; subst hci; subst hk
  unfold xp exO
  simp only
  cases M.2.2 a with
  | none => rfl
  | some e =>
    rcases e with ⟨t, n, g⟩ | ⟨ci, fs⟩
    · rfl
    · simp only
      by_cases h : ci = r.getD 0 0 ∧ r.getD 1 0 < fs.length ∧ fOk (clTy ci (r.getD 1 0)) v = true
      · have h' : ci = r.getD 0 0 ∧ r.getD 1 0 < fs.length ∧ fOk (clTy (r.getD 0 0) (r.getD 1 0)) v = true := ⟨h.1, h.2.1, by rw [← h.1]; exact h.2.2⟩
        rw [if_pos h, if_pos h', h.1]; rfl
      · have h' : ¬ (ci = r.getD 0 0 ∧ r.getD 1 0 < fs.length ∧ fOk (clTy (r.getD 0 0) (r.getD 1 0)) v = true) := fun q => h ⟨q.1, q.2.1, by rw [q.1]; exact q.2.2⟩
        rw [if_neg h, if_neg h']; rfl
theorem G_alen {a : Nat} (hcd : cd mid pc = some (.arraylength, ln, r)) (hr1 : ¬ r = [1]) (hp : pc + ln = pc') : XX X d mid (pc, L, .ref a :: st, M) Q = xn (M.2.2 a) (fun n => XX X d mid (pc', L, .int (Int32.ofNat n) :: st, M) Q) := by
  rw [G_exO hcd ⟨⟨⟨rfl, rfl, rfl, hr1⟩, rfl, rfl⟩, rfl, rfl⟩ (by simp) (fun _ _ => rfl)]
  subst hp
  unfold xn exO
  simp only
  cases M.2.2 a with
  | none => rfl
  | some e =>
    rcases e with ⟨t, n, g⟩ | ⟨ci, fs⟩
    · rfl
    · rfl
theorem G_new {n ci : Nat} {fs : List Value} (hcd : cd mid pc = some (.new n, ln, r)) (hr1 : ¬ r = [1]) (hp : pc + ln = pc') (hci : r.getD 0 0 = ci) (h100 : ci < 100) (hfs : clD ci = fs) : XX X d mid (pc, L, st, M) Q = XX X d mid (pc', L, .ref M.1 :: st, mnew M fs.length (.inr (ci, fs))) Q := by
  rw [G_exO hcd ⟨⟨⟨rfl, rfl, rfl, hr1⟩, rfl, rfl⟩, rfl, rfl⟩ (by simp) (fun _ _ => rfl)]
  subst hp; subst hci; subst hfs
  unfold exO
  simp only
  rw [if_neg (by omega)]
  rfl
theorem G_thr {n k : Nat} (hcd : cd mid pc = some (.new n, ln, r)) (hr1 : ¬ r = [1]) (hk : r.getD 0 0 = 100 + k) : XX X d mid (pc, L, st, M) Q = if stw st ≤ 8 then Q (.inr k) (mthr M) else False := by
  rw [G_exO hcd ⟨⟨⟨rfl, rfl, rfl, hr1⟩, rfl, rfl⟩, rfl, rfl⟩ (by simp) (fun _ _ => rfl)]
  unfold exO
  simp only
  rw [if_pos (by omega), hk, Nat.add_sub_cancel_left]
  by_cases h : stw st ≤ 8
  · rw [if_pos h, if_pos h]; rfl
  · rw [if_neg h, if_neg h]; rfl
theorem G_newa {ty : ArrayType} {t : Nat} {k : Int32} {v : Value} (hcd : cd mid pc = some (.newarray ty, ln, r)) (hr1 : ¬ r = [1]) (hp : pc + ln = pc') (ht : r.getD 0 0 = t) (hv : arD t = v) : XX X d mid (pc, L, .int k :: st, M) Q = if ¬ k < 0 ∧ k.toNatClampNeg ≤ 10000 then XX X d mid (pc', L, .ref M.1 :: st, mnew M k.toNatClampNeg (.inl (t, k.toNatClampNeg, fun _ => v))) Q else False := by
  rw [G_exO hcd ⟨⟨⟨rfl, rfl, rfl, hr1⟩, rfl, rfl⟩, rfl, rfl⟩ (by simp) (fun _ _ => rfl)]
  subst hp; subst ht; subst hv
  unfold exO
  simp only
  by_cases h : ¬ k < 0 ∧ k.toNatClampNeg ≤ 10000
  · rw [if_pos h, if_pos h]; rfl
  · rw [if_neg h, if_neg h]; rfl
theorem G_anew {n t : Nat} {k : Int32} (hcd : cd mid pc = some (.anewarray n, ln, r)) (hr1 : ¬ r = [1]) (hp : pc + ln = pc') (ht : r.getD 0 0 = t) : XX X d mid (pc, L, .int k :: st, M) Q = if ¬ k < 0 ∧ k.toNatClampNeg ≤ 10000 then XX X d mid (pc', L, .ref M.1 :: st, mnew M k.toNatClampNeg (.inl (t, k.toNatClampNeg, fun _ => .null))) Q else False := by
  rw [G_exO hcd ⟨⟨⟨rfl, rfl, rfl, hr1⟩, rfl, rfl⟩, rfl, rfl⟩ (by simp) (fun _ _ => rfl)]
  subst hp; subst ht
  unfold exO
  simp only
  by_cases h : ¬ k < 0 ∧ k.toNatClampNeg ≤ 10000
  · rw [if_pos h, if_pos h]; rfl
  · rw [if_neg h, if_neg h]; rfl
theorem G_tsw {d0 lo hi : Int} {os : Array Int} {x : Int32} (hcd : cd mid pc = some (.tableswitch d0 lo hi os, ln, r)) (hr1 : ¬ r = [1]) : XX X d mid (pc, L, .int x :: st, M) Q = xt (swT r lo hi x) (fun t => XX X d mid (t, L, st, M) Q) := by
  rw [G_exO hcd ⟨⟨⟨rfl, rfl, rfl, hr1⟩, rfl, rfl⟩, rfl, rfl⟩ (by simp) (fun _ _ => rfl)]
  unfold xt exO
  simp only
  cases swT r lo hi x with
  | none => rfl
  | some t => rfl
theorem G_lsw {d0 : Int} {ps : Array (Int × Int)} {x : Int32} (hcd : cd mid pc = some (.lookupswitch d0 ps, ln, r)) (hr1 : ¬ r = [1]) : XX X d mid (pc, L, .int x :: st, M) Q = xt (swL ps.toList (r.drop 1) r[0]? x) (fun t => XX X d mid (t, L, st, M) Q) := by
  rw [G_exO hcd ⟨⟨⟨rfl, rfl, rfl, hr1⟩, rfl, rfl⟩, rfl, rfl⟩ (by simp) (fun _ _ => rfl)]
  unfold xt exO
  simp only
  cases swL ps.toList (r.drop 1) r[0]? x with
  | none => rfl
  | some t => rfl
theorem G_iinc {k : Nat} {n : Int} {w : Int32} (hcd : cd mid pc = some (.iinc k n, ln, r)) (hr1 : ¬ r = [1]) (hp : pc + ln = pc') (hw : Int32.ofInt n = w) : XX X d mid (pc, L, st, M) Q = xl 0 L[k]? (fun v => match v with | .int x => if k = 0 ∨ wide L[k - 1]? = false then XX X d mid (pc', L.set k (some (.int (x + w))), st, M) Q else False | _ => False) := by
  rw [G_exO hcd ⟨⟨⟨rfl, rfl, rfl, hr1⟩, by cases st with | nil => rfl | cons a st => (cases st <;> rfl), by cases st with | nil => rfl | cons a st => (cases st <;> rfl)⟩, rfl, rfl⟩ (by simp) (fun _ _ => rfl)]
  subst hp; subst hw
  unfold exO xl
  simp only
  cases L[k]? with
  | none => rfl
  | some o =>
    cases o with
    | none => rfl
    | some v =>
      apply propext
      cases v with
      | int x =>
        simp only
        by_cases h : k = 0 ∨ wide L[k - 1]? = false
        · rw [if_pos h]
          exact ⟨fun h2 => ⟨rfl, by rw [if_pos h]; exact h2⟩, fun h2 => by have := h2.2; rw [if_pos h] at this; exact this⟩
        · rw [if_neg h]
          exact ⟨fun h2 => h2.elim, fun h2 => by have := h2.2; rw [if_neg h] at this; exact this.elim⟩
      | _ => exact ⟨fun h2 => h2.elim, fun h2 => h2.2.elim⟩
theorem G_ret {v : Value} (hcd : cd mid pc = some (i, ln, r)) (hn : notAA i r [v]) (hr : rOk i (mR mid) v = true) : XX X d mid (pc, L, [v], M) Q = Q (.inl (some v)) M := by
  rw [G_of hcd]
  obtain ⟨⟨⟨h1, h2, h3, h4⟩, h5, h6⟩, h7, h8⟩ := hn
  unfold stepI
  simp only [h1, h2, h3, h5, h6, h7, h8, if_neg h4, Bool.false_eq_true, if_false, hr, if_true]
  rfl
theorem G_retv (hcd : cd mid pc = some (.return_, ln, r)) (hr1 : ¬ r = [1]) (hr : mR mid = none) : XX X d mid (pc, L, [], M) Q = Q (.inl none) M := by
  rw [G_of hcd]
  unfold stepI
  simp only [ldK, stK, cst, sop, bop, isAld, isAst, if_neg hr1, Bool.false_eq_true, if_false, hr, if_true]
  rfl
/-- calls: the arguments as they lie on the stack -/
theorem G_static {n mid' na : Nat} (as : List Value) (hcd : cd mid pc = some (.invokestatic n, ln, r)) (hr1 : ¬ r = [1]) (hp : pc + ln = pc') (hm : r.getD 0 0 = mid') (hlt : mid' < 1000) (hna : r.getD 1 0 = na) (hl : as.length = na) : XX X (d + 1) mid (pc, L, as.reverse ++ st, M) Q = if stw st ≤ 8 then CC X d mid' as M (XB X (d + 1) mid pc (pc', L, st, M) Q) else False := by
  have hn : notAA (.invokestatic n) r (as.reverse ++ st) := by
    refine ⟨⟨⟨rfl, rfl, rfl, hr1⟩, ?_, ?_⟩, rfl, rfl⟩
    · cases as.reverse ++ st with | nil => rfl | cons a t => (cases t <;> rfl)
    · cases as.reverse ++ st with | nil => rfl | cons a t => (cases t <;> rfl)
  rw [G_exO hcd hn (by simp) (fun _ _ => rfl)]
  have h1 : exO M pc ln r L (as.reverse ++ st) (.invokestatic n) = none := rfl
  rw [h1]
  subst hp; subst hm; subst hna
  unfold exC
  simp only
  rw [if_neg (by omega)]
  have h2 : (as.reverse ++ st).drop (r.getD 1 0) = st := by rw [← hl, ← List.length_reverse]; exact List.drop_left
  have h3 : (as.reverse ++ st).take (r.getD 1 0) = as.reverse := by rw [← hl, ← List.length_reverse]; exact List.take_left
  rw [h2, h3, List.reverse_reverse]
  have h4 : r.getD 1 0 ≤ (as.reverse ++ st).length := by rw [List.length_append, List.length_reverse, hl]; exact Nat.le_add_right _ _
  by_cases h : stw st ≤ 8
  · rw [if_pos ⟨h4, h⟩, if_pos h]; rfl
  · rw [if_neg (fun q => h q.2), if_neg h]; rfl
theorem G_virt {n mid' na c b : Nat} (as : List Value) (hcd : cd mid pc = some (.invokevirtual n, ln, r)) (hr1 : ¬ r = [1]) (hp : pc + ln = pc') (hm : r.getD 0 0 = mid') (hna : r.getD 1 0 = na) (hc : r.getD 7 99 = c) (hl : as.length = na) : XX X (d + 1) mid (pc, L, as.reverse ++ .ref b :: st, M) Q = if mcl M b = some c ∧ stw st ≤ 8 then CC X d mid' (.ref b :: as) M (XB X (d + 1) mid pc (pc', L, st, M) Q) else False := by
  have hn : notAA (.invokevirtual n) r (as.reverse ++ .ref b :: st) := by
    refine ⟨⟨⟨rfl, rfl, rfl, hr1⟩, ?_, ?_⟩, rfl, rfl⟩
    · cases as.reverse ++ .ref b :: st with | nil => rfl | cons a t => (cases t <;> rfl)
    · cases as.reverse ++ .ref b :: st with | nil => rfl | cons a t => (cases t <;> rfl)
  rw [G_exO hcd hn (by simp) (fun _ _ => rfl)]
  have h1 : exO M pc ln r L (as.reverse ++ .ref b :: st) (.invokevirtual n) = none := rfl
  rw [h1]
  subst hp; subst hm; subst hna; subst hc
  unfold exC
  simp only
  have h2 : (as.reverse ++ .ref b :: st).drop (r.getD 1 0) = .ref b :: st := by rw [← hl, ← List.length_reverse]; exact List.drop_left
  have h3 : (as.reverse ++ .ref b :: st).take (r.getD 1 0) = as.reverse := by rw [← hl, ← List.length_reverse]; exact List.take_left
  rw [h2, h3, List.reverse_reverse]
  simp only
  have h4 : r.getD 1 0 ≤ (as.reverse ++ .ref b :: st).length := by rw [List.length_append, List.length_reverse, hl]; exact Nat.le_add_right _ _
  by_cases h : mcl M b = some (r.getD 7 99) ∧ stw st ≤ 8
  · rw [if_pos ⟨h.1, h4, h.2⟩, if_pos h]; rfl
  · rw [if_neg (fun q => h ⟨q.1, q.2.2⟩), if_neg h]; rfl
theorem G_spec {n mid' na b : Nat} (as : List Value) (hcd : cd mid pc = some (.invokespecial n, ln, r)) (hr1 : ¬ r = [1]) (hp : pc + ln = pc') (hm : r.getD 0 0 = mid') (hlt : ¬ mid' = 2000) (hna : r.getD 1 0 = na) (hl : as.length = na) : XX X (d + 1) mid (pc, L, as.reverse ++ .ref b :: st, M) Q = if stw st ≤ 8 then CC X d mid' (.ref b :: as) M (XB X (d + 1) mid pc (pc', L, st, M) Q) else False := by
  have hn : notAA (.invokespecial n) r (as.reverse ++ .ref b :: st) := by
    refine ⟨⟨⟨rfl, rfl, rfl, hr1⟩, ?_, ?_⟩, rfl, rfl⟩
    · cases as.reverse ++ .ref b :: st with | nil => rfl | cons a t => (cases t <;> rfl)
    · cases as.reverse ++ .ref b :: st with | nil => rfl | cons a t => (cases t <;> rfl)
  rw [G_exO hcd hn (by simp) (fun _ _ => rfl)]
  have h1 : exO M pc ln r L (as.reverse ++ .ref b :: st) (.invokespecial n) = none := rfl
  rw [h1]
  subst hp; subst hm; subst hna
  unfold exC
  simp only
  have h2 : (as.reverse ++ .ref b :: st).drop (r.getD 1 0) = .ref b :: st := by rw [← hl, ← List.length_reverse]; exact List.drop_left
  have h3 : (as.reverse ++ .ref b :: st).take (r.getD 1 0) = as.reverse := by rw [← hl, ← List.length_reverse]; exact List.take_left
  rw [h2, h3, List.reverse_reverse]
  simp only
  have h4 : r.getD 1 0 ≤ (as.reverse ++ .ref b :: st).length := by rw [List.length_append, List.length_reverse, hl]; exact Nat.le_add_right _ _
  by_cases h : stw st ≤ 8
  · rw [if_pos ⟨h, h4⟩, if_pos h, if_neg hlt]; rfl
  · rw [if_neg (fun q => h q.1), if_neg h]; rfl
theorem G_obj {n b : Nat} (hcd : cd mid pc = some (.invokespecial n, ln, r)) (hr1 : ¬ r = [1]) (hp : pc + ln = pc') (hm : r.getD 0 0 = 2000) (hna : r.getD 1 0 = 0) : XX X d mid (pc, L, .ref b :: st, M) Q = if stw st ≤ 8 then XX X d mid (pc', L, st, M) Q else False := by
  rw [G_exO hcd ⟨⟨⟨rfl, rfl, rfl, hr1⟩, by cases st <;> rfl, by cases st <;> rfl⟩, rfl, rfl⟩ (by simp) (fun _ _ => rfl)]
  have h1 : exO M pc ln r L (.ref b :: st) (.invokespecial n) = none := rfl
  rw [h1]
  subst hp
  unfold exC
  simp only [hna, List.drop_zero]
  rw [if_pos hm, if_pos trivial]
  by_cases h : stw st ≤ 8
  · rw [if_pos ⟨h, Nat.zero_le _⟩, if_pos h]; rfl
  · rw [if_neg (fun q => h q.1), if_neg h]; rfl
theorem G_math {n k : Nat} {x y z : Int32} (hcd : cd mid pc = some (.invokestatic n, ln, r)) (hr1 : ¬ r = [1]) (hp : pc + ln = pc') (hm : r.getD 0 0 = k) (hk : 1000 ≤ k) (hz : mathOp k (.int y :: .int x :: st) = some (.int z :: st)) : XX X d mid (pc, L, .int y :: .int x :: st, M) Q = if stw (.int z :: st) ≤ 8 then XX X d mid (pc', L, .int z :: st, M) Q else False := by
  rw [G_exO hcd ⟨⟨⟨rfl, rfl, rfl, hr1⟩, rfl, rfl⟩, rfl, rfl⟩ (by simp) (fun _ _ => rfl)]
  have h1 : exO M pc ln r L (.int y :: .int x :: st) (.invokestatic n) = none := rfl
  rw [h1]
  subst hp; subst hm
  unfold exC
  simp only
  rw [if_pos hk, hz]
  simp only
  by_cases h : stw (.int z :: st) ≤ 8
  · rw [if_pos h, if_pos h]; rfl
  · rw [if_neg h, if_neg h]; rfl
/-- behind a call that returned -/
theorem XB_v {F' : JF} {M' : JM} : XB X d mid pc F' Q (.inl none) M' = XX X d mid (F'.1, F'.2.1, F'.2.2.1, M') Q := rfl
theorem XB_s {F' : JF} {v : Value} {M' : JM} : XB X d mid pc F' Q (.inl (some v)) M' = XX X d mid (F'.1, F'.2.1, v :: F'.2.2.1, M') Q := rfl
theorem XB_e {F' : JF} {k : Nat} {M' : JM} (h1 : isI mid pc = false) (h2 : mX mid = []) : XB X d mid pc F' Q (.inr k) M' = Q (.inr k) M' := by
  unfold XB
  simp only [h1, h2, Bool.false_eq_true, if_false, if_true]
end GX
theorem sop_goto {o : Int} {st : List Value} : sop (.goto o) st = none := by cases st with
  | nil => rfl
  | cons a t => (cases t <;> rfl)
theorem bop_goto {o : Int} {st : List Value} : bop (.goto o) st = some (true, st) := by cases st with
  | nil => rfl
  | cons a t => (cases t <;> rfl)
