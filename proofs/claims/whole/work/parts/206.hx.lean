/-! the rows by kind once more, in the integers' words: the rows of each method, by their places, are printed out of these -/
/-- behind a call, without the memory before -/
def XC (X : JX) (d mid pc pc' : Nat) (L : List (Option Value)) (st : List Value) (Q : JR → JM → Prop) : JR → JM → Prop := XB X d mid pc (pc', L, st, (0, 0, fun _ => none)) Q
theorem CC_eq {X : JX} {d mid : Nat} {args : List Value} {M M1 : JM} {r1 : JR} (h : CC X d mid args M (fun r M' => r = r1 ∧ M' = M1)) (Q : JR → JM → Prop) : CC X d mid args M Q = Q r1 M1 := by
  obtain ⟨h1, n, r, M', h2, rfl, rfl⟩ := h
  apply propext
  constructor
  · rintro ⟨_, n', r', M'', h3, h4⟩
    have e1 := run_le h2 (Nat.le_max_left n n')
    rw [run_le h3 (Nat.le_max_right n n')] at e1
    cases e1
    exact h4
  · intro h
    exact ⟨h1, n, _, _, h2, h⟩
def stB (st : List Value) : Bool := Nat.ble (stw st) 8
theorem stB_le {st : List Value} (h : stB st = true) : stw st ≤ 8 := Nat.le_of_ble_eq_true h
/-- a long method's rows, looked up in pieces -/
theorem lk_skip {A B : List CI} {hi pc : Nat} (h : A.all (fun c => Nat.blt c.1 hi) = true) (hp : hi ≤ pc) : lk (A ++ B) pc = lk B pc := by
  induction A with
  | nil => rfl
  | cons c A ih =>
    rw [List.all_cons, Bool.and_eq_true] at h
    have h1 : c.1 < hi := by have := h.1; rw [Nat.blt_eq] at this; exact this
    show (if c.1 = pc then some c.2 else lk (A ++ B) pc) = lk B pc
    rw [if_neg (by omega)]
    exact ih h.2
theorem lk_in {A B : List CI} {pc : Nat} {q : Instr × Nat × List Nat} (h : lk A pc = some q) : lk (A ++ B) pc = some q := by
  induction A with
  | nil => cases h
  | cons c A ih =>
    show (if c.1 = pc then some c.2 else lk (A ++ B) pc) = some q
    change (if c.1 = pc then some c.2 else lk A pc) = some q at h
    by_cases hc : c.1 = pc
    · rw [if_pos hc] at h ⊢; exact h
    · rw [if_neg hc] at h ⊢; exact ih h
/-- what follows a look into the memory, with nothing to be rewritten behind it -/
def yg (o : Option JE) (ci k : Nat) (X : JX) (d mid pc : Nat) (L : List (Option Value)) (st : List Value) (M : JM) (Q : JR → JM → Prop) : Prop := xg o ci k (fun v => XX X d mid (pc, L, v :: st, M) Q)
def yp (o : Option JE) (a ci k : Nat) (v : Value) (X : JX) (d mid pc : Nat) (L : List (Option Value)) (st : List Value) (M : JM) (Q : JR → JM → Prop) : Prop := xp o ci k v (fun fs => XX X d mid (pc, L, st, mset M a (.inr (ci, fs))) Q)
def ya (o : Option JE) (i : Instr) (x : Int32) (X : JX) (d mid pc : Nat) (L : List (Option Value)) (st : List Value) (M : JM) (Q : JR → JM → Prop) : Prop := xa o (aldT i) x (fun v => XX X d mid (pc, L, v :: st, M) Q)
def yw (o : Option JE) (a : Nat) (i : Instr) (v : Value) (x : Int32) (X : JX) (d mid pc : Nat) (L : List (Option Value)) (st : List Value) (M : JM) (Q : JR → JM → Prop) : Prop := xw o (fun t => astV i t v (mcl M)) x (fun e => XX X d mid (pc, L, st, mset M a e) Q)
def yn (o : Option JE) (X : JX) (d mid pc : Nat) (L : List (Option Value)) (st : List Value) (M : JM) (Q : JR → JM → Prop) : Prop := xn o (fun n => XX X d mid (pc, L, .int (ii n) :: st, M) Q)
def yt (o : Option Nat) (X : JX) (d mid : Nat) (L : List (Option Value)) (st : List Value) (M : JM) (Q : JR → JM → Prop) : Prop := xt o (fun t => XX X d mid (t, L, st, M) Q)
section YX
variable {X : JX} {d mid pc a ci k n : Nat} {L : List (Option Value)} {st : List Value} {M : JM} {Q : JR → JM → Prop} {v : Value} {fs : List Value} {z x : Int} {c : Int → Int}
theorem yg_s (h : fs[k]? = some v) : yg (some (.inr (ci, fs))) ci k X d mid pc L st M Q = XX X d mid (pc, L, v :: st, M) Q := by
  unfold yg; rw [xg_s, h]; rfl
theorem yp_s (h1 : k < fs.length) (h2 : fOk (clTy ci k) v = true) : yp (some (.inr (ci, fs))) a ci k v X d mid pc L st M Q = XX X d mid (pc, L, st, mset M a (.inr (ci, fs.set k v))) Q := by
  unfold yp; rw [xp_s h1 h2]
theorem ya_I (h : 0 ≤ x ∧ x < n ∧ n ≤ 2147483647) : ya (some (AI n c)) .iaload (ii x) X d mid pc L st M Q = XX X d mid (pc, L, .int (ii (c x)) :: st, M) Q := by
  unfold ya; rw [xa_AI h]
theorem ya_C (h : 0 ≤ x ∧ x < n ∧ n ≤ 2147483647) : ya (some (AC n c)) .caload (ii x) X d mid pc L st M Q = XX X d mid (pc, L, .int (ii (c x)) :: st, M) Q := by
  unfold ya; rw [xa_AC h]
theorem ya_B (h : 0 ≤ x ∧ x < n ∧ n ≤ 2147483647) : ya (some (AB n c)) .baload (ii x) X d mid pc L st M Q = XX X d mid (pc, L, .int (ii (c x)) :: st, M) Q := by
  unfold ya; rw [xa_AB h]
theorem ya_L {c : Int → Int64} (h : 0 ≤ x ∧ x < n ∧ n ≤ 2147483647) : ya (some (AL n c)) .laload (ii x) X d mid pc L st M Q = XX X d mid (pc, L, .long (c x) :: st, M) Q := by
  unfold ya; rw [xa_AL h]
theorem ya_R {t : Nat} {c : Int → Value} (ht : t = 5 ∨ t = 6) (h : 0 ≤ x ∧ x < n ∧ n ≤ 2147483647) : ya (some (AR t n c)) .aaload (ii x) X d mid pc L st M Q = XX X d mid (pc, L, c x :: st, M) Q := by
  unfold ya; rw [xa_AR ht h]
theorem yw_I (h : 0 ≤ x ∧ x < n ∧ n ≤ 2147483647) : yw (some (AI n c)) a .iastore (.int (ii z)) (ii x) X d mid pc L st M Q = XX X d mid (pc, L, st, mset M a (AI n (up c x z))) Q := by
  unfold yw; rw [xw_AI h]
theorem yw_C (h : 0 ≤ x ∧ x < n ∧ n ≤ 2147483647) (hz : 0 ≤ z ∧ z ≤ 65535) : yw (some (AC n c)) a .castore (.int (ii z)) (ii x) X d mid pc L st M Q = XX X d mid (pc, L, st, mset M a (AC n (up c x z))) Q := by
  unfold yw; rw [xw_AC h hz]
theorem yw_B (h : 0 ≤ x ∧ x < n ∧ n ≤ 2147483647) (hz : z = 0 ∨ z = 1) : yw (some (AB n c)) a .bastore (.int (ii z)) (ii x) X d mid pc L st M Q = XX X d mid (pc, L, st, mset M a (AB n (up c x z))) Q := by
  unfold yw; rw [xw_AB h hz]
theorem yw_L {c : Int → Int64} {z : Int64} (h : 0 ≤ x ∧ x < n ∧ n ≤ 2147483647) : yw (some (AL n c)) a .lastore (.long z) (ii x) X d mid pc L st M Q = XX X d mid (pc, L, st, mset M a (AL n (fun j => if j = x then z else c j))) Q := by
  unfold yw; rw [xw_AL h]
theorem yn_I : yn (some (AI n c)) X d mid pc L st M Q = XX X d mid (pc, L, .int (ii n) :: st, M) Q := rfl
theorem yn_C : yn (some (AC n c)) X d mid pc L st M Q = XX X d mid (pc, L, .int (ii n) :: st, M) Q := rfl
theorem yn_B : yn (some (AB n c)) X d mid pc L st M Q = XX X d mid (pc, L, .int (ii n) :: st, M) Q := rfl
theorem yn_L {c : Int → Int64} : yn (some (AL n c)) X d mid pc L st M Q = XX X d mid (pc, L, .int (ii n) :: st, M) Q := rfl
theorem yn_R {t : Nat} {c : Int → Value} : yn (some (AR t n c)) X d mid pc L st M Q = XX X d mid (pc, L, .int (ii n) :: st, M) Q := rfl
theorem yt_s {t : Nat} : yt (some t) X d mid L st M Q = XX X d mid (t, L, st, M) Q := rfl
end YX
section HX
variable {X : JX} {d mid pc pc' ln : Nat} {i : Instr} {r : List Nat} {L L' : List (Option Value)} {st : List Value} {M : JM} {Q : JR → JM → Prop}
theorem XC_v {M' : JM} : XC X d mid pc pc' L st Q (.inl none) M' = XX X d mid (pc', L, st, M') Q := rfl
theorem XC_s {v : Value} {M' : JM} : XC X d mid pc pc' L st Q (.inl (some v)) M' = XX X d mid (pc', L, v :: st, M') Q := rfl
theorem XC_e {k : Nat} {M' : JM} (h1 : isI mid pc = false) (h2 : mX mid = []) : XC X d mid pc pc' L st Q (.inr k) M' = Q (.inr k) M' := XB_e h1 h2
theorem H_ld {k n : Nat} {v : Value} (hcd : cd mid pc = some (i, ln, r)) (hk : ldK i = some (k, n)) (hL : L[n]? = some (some v)) (hv : kOk k v = true) (hp : pc + ln = pc') : XX X d mid (pc, L, st, M) Q = XX X d mid (pc', L, v :: st, M) Q := by
  rw [G_ld hcd hk hp, hL]
  exact propext ⟨fun h => h.2, fun h => ⟨hv, h⟩⟩
theorem H_st {k n : Nat} {v : Value} (hcd : cd mid pc = some (i, ln, r)) (hl : ldK i = none) (hk : stK i = some (k, n)) (hv : kOk k v = true) (hc : v.category = 1) (hp : pc + ln = pc') (hn : Nat.ble (n + 1) L.length = true) (hL : L.set n (some v) = L') (hw : n = 0 ∨ wide L[n - 1]? = false) : XX X d mid (pc, L, v :: st, M) Q = XX X d mid (pc', L', st, M) Q := by
  rw [G_st hcd hl hk hv hp hc, if_pos ⟨Nat.le_of_ble_eq_true hn, hw⟩, hL]
theorem H_st2 {k n : Nat} {v : Value} (hcd : cd mid pc = some (i, ln, r)) (hl : ldK i = none) (hk : stK i = some (k, n)) (hv : kOk k v = true) (hc : v.category = 2) (hp : pc + ln = pc') (hn : Nat.ble (n + 2) L.length = true) (hL : (L.set n (some v)).set (n + 1) none = L') (hw : n = 0 ∨ wide L[n - 1]? = false) : XX X d mid (pc, L, v :: st, M) Q = XX X d mid (pc', L', st, M) Q := by
  rw [G_st2 hcd hl hk hv hp hc, if_pos ⟨Nat.le_of_ble_eq_true hn, hw⟩, hL]
theorem H_inc {k : Nat} {n a : Int} (hcd : cd mid pc = some (.iinc k n, ln, r)) (hr1 : ¬ r = [1]) (hL : L[k]? = some (some (.int (ii a)))) (hp : pc + ln = pc') (hL' : L.set k (some (.int (ii (a + n)))) = L') (hw : k = 0 ∨ wide L[k - 1]? = false) : XX X d mid (pc, L, st, M) Q = XX X d mid (pc', L', st, M) Q := by
  rw [G_iinc hcd hr1 hp rfl, hL]
  have : xl 0 (some (some (Value.int (ii a)))) = fun f : Value → Prop => f (.int (ii a)) := by funext f; exact xl_i
  rw [this]
  simp only
  rw [if_pos hw, show ii a + Int32.ofInt n = ii (a + n) from ii_add a n, hL']
theorem H_add {a b : Int} (hcd : cd mid pc = some (.iadd, ln, r)) (hr : ¬ r = [1]) (hp : pc + ln = pc') : XX X d mid (pc, L, .int (ii b) :: .int (ii a) :: st, M) Q = XX X d mid (pc', L, .int (ii (a + b)) :: st, M) Q := by
  rw [← ii_add]; exact G_sop hcd ⟨rfl, rfl, rfl, hr⟩ rfl hp
theorem H_sub {a b : Int} (hcd : cd mid pc = some (.isub, ln, r)) (hr : ¬ r = [1]) (hp : pc + ln = pc') : XX X d mid (pc, L, .int (ii b) :: .int (ii a) :: st, M) Q = XX X d mid (pc', L, .int (ii (a - b)) :: st, M) Q := by
  rw [← ii_sub]; exact G_sop hcd ⟨rfl, rfl, rfl, hr⟩ rfl hp
theorem H_mul {a b : Int} (hcd : cd mid pc = some (.imul, ln, r)) (hr : ¬ r = [1]) (hp : pc + ln = pc') : XX X d mid (pc, L, .int (ii b) :: .int (ii a) :: st, M) Q = XX X d mid (pc', L, .int (ii (a * b)) :: st, M) Q := by
  rw [← ii_mul]; exact G_sop hcd ⟨rfl, rfl, rfl, hr⟩ rfl hp
theorem H_neg {a : Int} (hcd : cd mid pc = some (.ineg, ln, r)) (hr : ¬ r = [1]) (hp : pc + ln = pc') : XX X d mid (pc, L, .int (ii a) :: st, M) Q = XX X d mid (pc', L, .int (ii (-a)) :: st, M) Q := by
  rw [← ii_neg]; exact G_sop hcd ⟨rfl, rfl, rfl, hr⟩ rfl hp
theorem H_div {a b : Int} (hcd : cd mid pc = some (.idiv, ln, r)) (hr : ¬ r = [1]) (hp : pc + ln = pc') (h : 0 ≤ a ∧ a ≤ 2147483647 ∧ 0 < b ∧ b ≤ 2147483647) : XX X d mid (pc, L, .int (ii b) :: .int (ii a) :: st, M) Q = XX X d mid (pc', L, .int (ii (a / b)) :: st, M) Q := by
  rw [← ii_div h]
  refine G_sop hcd ⟨rfl, rfl, rfl, hr⟩ (if_neg ?_) hp
  rw [ii_0, ii_ee (by omega)]; omega
theorem H_rem {a b : Int} (hcd : cd mid pc = some (.irem, ln, r)) (hr : ¬ r = [1]) (hp : pc + ln = pc') (h : 0 ≤ a ∧ a ≤ 2147483647 ∧ 0 < b ∧ b ≤ 2147483647) : XX X d mid (pc, L, .int (ii b) :: .int (ii a) :: st, M) Q = XX X d mid (pc', L, .int (ii (a % b)) :: st, M) Q := by
  rw [← ii_mod h]
  refine G_sop hcd ⟨rfl, rfl, rfl, hr⟩ (if_neg ?_) hp
  rw [ii_0, ii_ee (by omega)]; omega
theorem H_i2c {a : Int} (hcd : cd mid pc = some (.i2c, ln, r)) (hr : ¬ r = [1]) (hp : pc + ln = pc') (h : 0 ≤ a ∧ a ≤ 65535) : XX X d mid (pc, L, .int (ii a) :: st, M) Q = XX X d mid (pc', L, .int (ii a) :: st, M) Q := by
  have e : ((ii a).toUInt32 % 65536).toInt32 = ii a := i2c_id h
  conv => rhs; rw [← e]
  exact G_sop hcd ⟨rfl, rfl, rfl, hr⟩ rfl hp
theorem H_if {a : Int} {t : Nat} {c : Bool} {c' : Prop} (hcd : cd mid pc = some (i, ln, r)) (hn : notLS i r) (hs : sop i (.int (ii a) :: st) = none) (hb : bop i (.int (ii a) :: st) = some (c, st)) (hp : pc + ln = pc') (ht : r.getD 0 0 = t) (hc : c = true ↔ c') : XX X d mid (pc, L, .int (ii a) :: st, M) Q = bq c' X d mid t pc' L st M Q := by
  rw [← if_bq hc]
  exact G_bop hcd hn hs (by rw [hb]; cases c <;> rfl) hp ht
theorem H_if2 {a b : Int} {t : Nat} {c : Bool} {c' : Prop} (hcd : cd mid pc = some (i, ln, r)) (hn : notLS i r) (hs : sop i (.int (ii b) :: .int (ii a) :: st) = none) (hb : bop i (.int (ii b) :: .int (ii a) :: st) = some (c, st)) (hp : pc + ln = pc') (ht : r.getD 0 0 = t) (hc : c = true ↔ c') : XX X d mid (pc, L, .int (ii b) :: .int (ii a) :: st, M) Q = bq c' X d mid t pc' L st M Q := by
  rw [← if_bq hc]
  exact G_bop hcd hn hs (by rw [hb]; cases c <;> rfl) hp ht
theorem D_lt {a b : Int} (h : -2147483648 ≤ a ∧ a ≤ 2147483647 ∧ -2147483648 ≤ b ∧ b ≤ 2147483647) : decide (ii a < ii b) = true ↔ a < b := by rw [decide_eq_true_iff, ii_lt h]
theorem D_le {a b : Int} (h : -2147483648 ≤ a ∧ a ≤ 2147483647 ∧ -2147483648 ≤ b ∧ b ≤ 2147483647) : decide (ii b ≤ ii a) = true ↔ b ≤ a := by rw [decide_eq_true_iff, ii_le (by omega)]
theorem D_gt {a b : Int} (h : -2147483648 ≤ a ∧ a ≤ 2147483647 ∧ -2147483648 ≤ b ∧ b ≤ 2147483647) : decide (ii b < ii a) = true ↔ b < a := by rw [decide_eq_true_iff, ii_lt (by omega)]
theorem D_ge {a b : Int} (h : -2147483648 ≤ a ∧ a ≤ 2147483647 ∧ -2147483648 ≤ b ∧ b ≤ 2147483647) : decide (ii a ≤ ii b) = true ↔ a ≤ b := by rw [decide_eq_true_iff, ii_le h]
theorem D_eq {a b : Int} (h : -2147483648 ≤ a ∧ a ≤ 2147483647 ∧ -2147483648 ≤ b ∧ b ≤ 2147483647) : decide (ii a = ii b) = true ↔ a = b := by rw [decide_eq_true_iff, ii_ee h]
theorem D_ne {a b : Int} (h : -2147483648 ≤ a ∧ a ≤ 2147483647 ∧ -2147483648 ≤ b ∧ b ≤ 2147483647) : decide (¬ ii a = ii b) = true ↔ a ≠ b := by rw [decide_eq_true_iff, ii_ee h]
theorem H_jmp {o : Int} {t : Nat} (hcd : cd mid pc = some (.goto o, ln, r)) (hr : ¬ r = [1]) (ht : r.getD 0 0 = t) : XX X d mid (pc, L, st, M) Q = XX X d mid (t, L, st, M) Q := G_jmp hcd ⟨rfl, rfl, rfl, hr⟩ sop_goto bop_goto (by rw [if_pos rfl]; exact ht)
theorem H_alen {a : Nat} (hcd : cd mid pc = some (.arraylength, ln, r)) (hr1 : ¬ r = [1]) (hp : pc + ln = pc') : XX X d mid (pc, L, .ref a :: st, M) Q = xn (M.2.2 a) (fun n => XX X d mid (pc', L, .int (ii n) :: st, M) Q) := by
  rw [G_alen hcd hr1 hp]
  simp only [ii_nat]
theorem H_newa {ty : ArrayType} {t : Nat} {k : Int} {v : Value} (hcd : cd mid pc = some (.newarray ty, ln, r)) (hr1 : ¬ r = [1]) (hp : pc + ln = pc') (ht : r.getD 0 0 = t) (hv : arD t = v) (h : 0 ≤ k ∧ k ≤ 10000) : XX X d mid (pc, L, .int (ii k) :: st, M) Q = XX X d mid (pc', L, .ref M.1 :: st, mnew M k.toNat (.inl (t, k.toNat, fun _ => v))) Q := by
  rw [G_newa hcd hr1 hp ht hv, if_pos, ii_tn (by omega)]
  rw [ii_tn (by omega), ii_0, ii_lt (by omega)]; omega
theorem H_anew {n t : Nat} {k : Int} (hcd : cd mid pc = some (.anewarray n, ln, r)) (hr1 : ¬ r = [1]) (hp : pc + ln = pc') (ht : r.getD 0 0 = t) (h : 0 ≤ k ∧ k ≤ 10000) : XX X d mid (pc, L, .int (ii k) :: st, M) Q = XX X d mid (pc', L, .ref M.1 :: st, mnew M k.toNat (.inl (t, k.toNat, fun _ => .null))) Q := by
  rw [G_anew hcd hr1 hp ht, if_pos, ii_tn (by omega)]
  rw [ii_tn (by omega), ii_0, ii_lt (by omega)]; omega
theorem H_math {n k : Nat} {a b c : Int} (hcd : cd mid pc = some (.invokestatic n, ln, r)) (hr1 : ¬ r = [1]) (hp : pc + ln = pc') (hm : r.getD 0 0 = k) (hk : 1000 ≤ k) (hz : mathOp k (.int (ii b) :: .int (ii a) :: st) = some (.int (ii c) :: st)) (hs : stB (.int (ii c) :: st) = true) : XX X d mid (pc, L, .int (ii b) :: .int (ii a) :: st, M) Q = XX X d mid (pc', L, .int (ii c) :: st, M) Q := by
  rw [G_math hcd hr1 hp hm hk hz, if_pos (stB_le hs)]
theorem m_min {a b : Int} {st : List Value} (h : -2147483648 ≤ a ∧ a ≤ 2147483647 ∧ -2147483648 ≤ b ∧ b ≤ 2147483647) : mathOp 1000 (.int (ii b) :: .int (ii a) :: st) = some (.int (ii (min a b)) :: st) := by rw [← ii_min h]; rfl
theorem m_max {a b : Int} {st : List Value} (h : -2147483648 ≤ a ∧ a ≤ 2147483647 ∧ -2147483648 ≤ b ∧ b ≤ 2147483647) : mathOp 1001 (.int (ii b) :: .int (ii a) :: st) = some (.int (ii (max a b)) :: st) := by rw [← ii_max h]; rfl
theorem H_static {n mid' na : Nat} (as : List Value) (hcd : cd mid pc = some (.invokestatic n, ln, r)) (hr1 : ¬ r = [1]) (hp : pc + ln = pc') (hm : r.getD 0 0 = mid') (hlt : mid' < 1000) (hna : r.getD 1 0 = na) (hl : as.length = na) (hd : 0 < d) (hs : stB st = true) : XX X d mid (pc, L, as.reverse ++ st, M) Q = CC X (d - 1) mid' as M (XC X d mid pc pc' L st Q) := by
  obtain ⟨d, rfl⟩ : ∃ k, d = k + 1 := ⟨d - 1, by omega⟩
  rw [G_static as hcd hr1 hp hm hlt hna hl, if_pos (stB_le hs)]
  rfl
theorem H_virt {n mid' na c b : Nat} (as : List Value) (hcd : cd mid pc = some (.invokevirtual n, ln, r)) (hr1 : ¬ r = [1]) (hp : pc + ln = pc') (hm : r.getD 0 0 = mid') (hna : r.getD 1 0 = na) (hc : r.getD 7 99 = c) (hl : as.length = na) (hd : 0 < d) (hs : stB st = true) : XX X d mid (pc, L, as.reverse ++ .ref b :: st, M) Q = (mcl M b = some c ∧ CC X (d - 1) mid' (.ref b :: as) M (XC X d mid pc pc' L st Q)) := by
  obtain ⟨d, rfl⟩ : ∃ k, d = k + 1 := ⟨d - 1, by omega⟩
  rw [G_virt as hcd hr1 hp hm hna hc hl]
  apply propext
  by_cases h : mcl M b = some c
  · rw [if_pos ⟨h, stB_le hs⟩]
    exact ⟨fun q => ⟨h, q⟩, fun q => q.2⟩
  · rw [if_neg (fun q => h q.1)]
    exact ⟨fun q => q.elim, fun q => h q.1⟩
theorem H_spec {n mid' na b : Nat} (as : List Value) (hcd : cd mid pc = some (.invokespecial n, ln, r)) (hr1 : ¬ r = [1]) (hp : pc + ln = pc') (hm : r.getD 0 0 = mid') (hlt : ¬ mid' = 2000) (hna : r.getD 1 0 = na) (hl : as.length = na) (hd : 0 < d) (hs : stB st = true) : XX X d mid (pc, L, as.reverse ++ .ref b :: st, M) Q = CC X (d - 1) mid' (.ref b :: as) M (XC X d mid pc pc' L st Q) := by
  obtain ⟨d, rfl⟩ : ∃ k, d = k + 1 := ⟨d - 1, by omega⟩
  rw [G_spec as hcd hr1 hp hm hlt hna hl, if_pos (stB_le hs)]
  rfl
theorem H_obj {n b : Nat} (hcd : cd mid pc = some (.invokespecial n, ln, r)) (hr1 : ¬ r = [1]) (hp : pc + ln = pc') (hm : r.getD 0 0 = 2000) (hna : r.getD 1 0 = 0) (hs : stB st = true) : XX X d mid (pc, L, .ref b :: st, M) Q = XX X d mid (pc', L, st, M) Q := by
  rw [G_obj hcd hr1 hp hm hna, if_pos (stB_le hs)]
theorem H_thr {n k : Nat} (hcd : cd mid pc = some (.new n, ln, r)) (hr1 : ¬ r = [1]) (hk : r.getD 0 0 = 100 + k) (hs : stB st = true) : XX X d mid (pc, L, st, M) Q = Q (.inr k) (mthr M) := by
  rw [G_thr hcd hr1 hk, if_pos (stB_le hs)]
theorem H_new {n ci k : Nat} {fs : List Value} (hcd : cd mid pc = some (.new n, ln, r)) (hr1 : ¬ r = [1]) (hp : pc + ln = pc') (hci : r.getD 0 0 = ci) (h100 : ci < 100) (hfs : clD ci = fs) (hk : fs.length = k) : XX X d mid (pc, L, st, M) Q = XX X d mid (pc', L, .ref M.1 :: st, mnew M k (.inr (ci, fs))) Q := by
  subst hk
  exact G_new hcd hr1 hp hci h100 hfs
theorem H_sal {a : Nat} {x : Int32} (hcd : cd mid pc = some (.iaload, ln, [1])) (hp : pc + ln = pc') (h : a = X.1 ∧ ¬ (x < 0 ∨ X.2.1 ≤ x.toNatClampNeg)) : XX X d mid (pc, L, .int x :: .ref a :: st, M) Q = XX X d mid (pc', L, .int (X.2.2 x.toNatClampNeg) :: st, M) Q := G_scr hcd rfl rfl rfl hp (by unfold scrOp; simp only; rw [if_pos h])
theorem H_sln {a : Nat} (hcd : cd mid pc = some (.arraylength, ln, [1])) (hp : pc + ln = pc') (h : a = X.1) : XX X d mid (pc, L, .ref a :: st, M) Q = XX X d mid (pc', L, .int (Int32.ofNat X.2.1) :: st, M) Q := G_scr hcd rfl rfl rfl hp (by unfold scrOp; simp only; rw [if_pos h])
theorem H_ent {args : List Value} (hl : (Nat.ble (entL args).length (mL mid)) = true) (he : entL args ++ List.replicate (mL mid - (entL args).length) none = L) : CC X d mid args M Q = XX X d mid (0, L, [], M) Q := by
  subst he
  exact propext ⟨fun h => h.2, fun h => ⟨Nat.le_of_ble_eq_true hl, h⟩⟩
theorem H_tsw {d0 lo hi : Int} {os : Array Int} {a : Int} {e : Nat} {tg : List Nat} (hcd : cd mid pc = some (.tableswitch d0 lo hi os, ln, r)) (hr1 : ¬ r = [1]) (hr : r = e :: tg) (h : -2147483648 ≤ a ∧ a ≤ 2147483647) : XX X d mid (pc, L, .int (ii a) :: st, M) Q = xt (if a < lo ∨ hi < a then some e else tg[(a - lo).toNat]?) (fun t => XX X d mid (t, L, st, M) Q) := by
  rw [G_tsw hcd hr1]
  unfold swT
  rw [ii_to h, hr]
  rfl
def swI (ps : List (Int × Int)) (tg : List Nat) (d : Option Nat) (x : Int) : Option Nat := match ps, tg with
  | [], _ => d
  | q :: ps, t :: tg => if x = q.1 then some t else swI ps tg d x
  | _ :: _, [] => none
theorem swL_I {ps : List (Int × Int)} {tg : List Nat} {e : Option Nat} {a : Int} (h : -2147483648 ≤ a ∧ a ≤ 2147483647) : swL ps tg e (ii a) = swI ps tg e a := by
  induction ps generalizing tg with
  | nil => cases tg <;> rfl
  | cons q ps ih =>
    cases tg with
    | nil => rfl
    | cons t tg => unfold swL swI; rw [ii_to h, ih]
theorem H_lsw {d0 : Int} {ps : Array (Int × Int)} {pl : List (Int × Int)} {a : Int} {e : Nat} {tg : List Nat} (hcd : cd mid pc = some (.lookupswitch d0 ps, ln, r)) (hr1 : ¬ r = [1]) (hpl : ps.toList = pl) (hr : r = e :: tg) (h : -2147483648 ≤ a ∧ a ≤ 2147483647) : XX X d mid (pc, L, .int (ii a) :: st, M) Q = xt (swI pl tg (some e) a) (fun t => XX X d mid (t, L, st, M) Q) := by
  rw [G_lsw hcd hr1, swL_I h, hpl, hr]
  rfl
end HX
def b2i (b : Bool) : Int := if b = true then 1 else 0
theorem b2i_t : b2i true = 1 := rfl
theorem b2i_f : b2i false = 0 := rfl
theorem b2i_c (b : Bool) : b2i b = 0 ∨ b2i b = 1 := by cases b <;> simp [b2i]
theorem b2i_r (b : Bool) : -2147483648 ≤ b2i b ∧ b2i b ≤ 2147483647 := by rcases b2i_c b with h | h <;> rw [h] <;> decide
theorem b2i_0 {b : Bool} : (b2i b = 0) = (b = false) := by cases b <;> simp [b2i]
theorem b2i_n0 {b : Bool} : (b2i b ≠ 0) = (b = true) := by cases b <;> simp [b2i]
def bz (z : Int) : Prop := z = 0 ∨ z = 1
theorem bz_ok {z : Int} (h : bz z) : (ii z == 0 || ii z == 1) = true := by rcases h with rfl | rfl <;> rfl
def cz (z : Int) : Prop := 0 ≤ z ∧ z ≤ 65535
theorem cz_ok {z : Int} (h : cz z) : (decide (0 ≤ ii z) && decide (ii z ≤ 65535)) = true := by
  unfold cz at h
  rw [ii_0, show (65535 : Int32) = ii 65535 from rfl, Bool.and_eq_true, decide_eq_true_iff, decide_eq_true_iff, ii_le (by omega), ii_le (by omega)]
  exact h
theorem bz_0 : bz 0 := Or.inl rfl
theorem bz_1 : bz 1 := Or.inr rfl
theorem bz_b {b : Bool} : bz (b2i b) := b2i_c b
