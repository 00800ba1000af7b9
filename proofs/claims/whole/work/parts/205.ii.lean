/-! INTS AS INTEGERS: ii z is the int that z wraps to; conditions and operations in the integers' words -/
def ii (z : Int) : Int32 := Int32.ofInt z
theorem ii_eq (x : Int32) : x = ii x.toInt := (Int32.ofInt_toInt x).symm
theorem ii_rg (x : Int32) : -2147483648 ≤ x.toInt ∧ x.toInt ≤ 2147483647 := ⟨Int32.le_toInt x, by have := Int32.toInt_lt x; omega⟩
theorem ii_to {z : Int} (h : -2147483648 ≤ z ∧ z ≤ 2147483647) : (ii z).toInt = z := Int32.toInt_ofInt_of_le h.1 (by have := h.2; omega)
theorem ii_add (a b : Int) : ii a + ii b = ii (a + b) := (Int32.ofInt_add a b).symm
theorem ii_mul (a b : Int) : ii a * ii b = ii (a * b) := (Int32.ofInt_mul a b).symm
theorem ii_sub (a b : Int) : ii a - ii b = ii (a - b) := by
  unfold ii
  rw [Int.sub_eq_add_neg, Int32.ofInt_add, Int32.ofInt_neg, Int32.sub_eq_add_neg]
theorem ii_neg (a : Int) : -ii a = ii (-a) := (Int32.ofInt_neg a).symm
theorem ii_lt {a b : Int} (h : -2147483648 ≤ a ∧ a ≤ 2147483647 ∧ -2147483648 ≤ b ∧ b ≤ 2147483647) : (ii a < ii b) ↔ a < b := by
  rw [Int32.lt_iff_toInt_lt, ii_to ⟨h.1, h.2.1⟩, ii_to h.2.2]
theorem ii_le {a b : Int} (h : -2147483648 ≤ a ∧ a ≤ 2147483647 ∧ -2147483648 ≤ b ∧ b ≤ 2147483647) : (ii a ≤ ii b) ↔ a ≤ b := by
  rw [Int32.le_iff_toInt_le, ii_to ⟨h.1, h.2.1⟩, ii_to h.2.2]
theorem ii_ee {a b : Int} (h : -2147483648 ≤ a ∧ a ≤ 2147483647 ∧ -2147483648 ≤ b ∧ b ≤ 2147483647) : (ii a = ii b) ↔ a = b := by
  rw [← Int32.toInt_inj, ii_to ⟨h.1, h.2.1⟩, ii_to h.2.2]
theorem ii_0 : (0 : Int32) = ii 0 := rfl
theorem ii_1 : (1 : Int32) = ii 1 := rfl
theorem ii_nat (n : Nat) : Int32.ofNat n = ii n := (Int32.ofInt_eq_ofNat (n := n)).symm
theorem ii_tn {a : Int} (h : 0 ≤ a ∧ a ≤ 2147483647) : (ii a).toNatClampNeg = a.toNat := by
  unfold Int32.toNatClampNeg
  rw [ii_to ⟨by omega, h.2⟩]
theorem ii_max {a b : Int} (h : -2147483648 ≤ a ∧ a ≤ 2147483647 ∧ -2147483648 ≤ b ∧ b ≤ 2147483647) : (if ii a < ii b then ii b else ii a) = ii (max a b) := by
  by_cases hc : a < b
  · rw [if_pos ((ii_lt h).mpr hc), show max a b = b by omega]
  · rw [if_neg (fun q => hc ((ii_lt h).mp q)), show max a b = a by omega]
theorem ii_min {a b : Int} (h : -2147483648 ≤ a ∧ a ≤ 2147483647 ∧ -2147483648 ≤ b ∧ b ≤ 2147483647) : (if ii b < ii a then ii b else ii a) = ii (min a b) := by
  have h' : -2147483648 ≤ b ∧ b ≤ 2147483647 ∧ -2147483648 ≤ a ∧ a ≤ 2147483647 := ⟨h.2.2.1, h.2.2.2, h.1, h.2.1⟩
  by_cases hc : b < a
  · rw [if_pos ((ii_lt h').mpr hc), show min a b = b by omega]
  · rw [if_neg (fun q => hc ((ii_lt h').mp q)), show min a b = a by omega]
theorem ii_div {a b : Int} (h : 0 ≤ a ∧ a ≤ 2147483647 ∧ 0 < b ∧ b ≤ 2147483647) : ii a / ii b = ii (a / b) := by
  rw [← Int32.toInt_inj, Int32.toInt_div, ii_to ⟨by omega, h.2.1⟩, ii_to ⟨by omega, h.2.2.2⟩, Int.tdiv_eq_ediv_of_nonneg h.1]
  have h1 : 0 ≤ a / b := Int.ediv_nonneg h.1 (by omega)
  have h2 : a / b ≤ a := Int.ediv_le_self _ h.1
  rw [ii_to ⟨by omega, by omega⟩, Int.bmod_def]
  omega
theorem ii_mod {a b : Int} (h : 0 ≤ a ∧ a ≤ 2147483647 ∧ 0 < b ∧ b ≤ 2147483647) : ii a - ii a / ii b * ii b = ii (a % b) := by
  rw [ii_div h, ii_mul, ii_sub]
  congr 1
  rw [Int.emod_def, Int.mul_comm]
/-- a branch: nothing is rewritten behind it until it is taken -/
def bq (c : Prop) (X : JX) (d mid t t' : Nat) (L : List (Option Value)) (st : List Value) (M : JM) (Q : JR → JM → Prop) : Prop := (c → XX X d mid (t, L, st, M) Q) ∧ (¬ c → XX X d mid (t', L, st, M) Q)
section BR
variable {c c' : Prop} {X : JX} {d mid t t' : Nat} {L : List (Option Value)} {st : List Value} {M : JM} {Q : JR → JM → Prop}
theorem bq_i (h1 : c → XX X d mid (t, L, st, M) Q) (h2 : ¬ c → XX X d mid (t', L, st, M) Q) : bq c X d mid t t' L st M Q := ⟨h1, h2⟩
theorem bq_t (h : c) (h1 : XX X d mid (t, L, st, M) Q) : bq c X d mid t t' L st M Q := ⟨fun _ => h1, fun q => absurd h q⟩
theorem bq_f (h : ¬ c) (h1 : XX X d mid (t', L, st, M) Q) : bq c X d mid t t' L st M Q := ⟨fun q => absurd q h, fun _ => h1⟩
theorem bq_T : bq True X d mid t t' L st M Q = XX X d mid (t, L, st, M) Q := propext ⟨fun h => h.1 trivial, fun h => ⟨fun _ => h, fun q => absurd trivial q⟩⟩
theorem bq_F : bq False X d mid t t' L st M Q = XX X d mid (t', L, st, M) Q := propext ⟨fun h => h.2 id, fun h => ⟨fun q => q.elim, fun _ => h⟩⟩
theorem if_bq [Decidable c] (h : c ↔ c') : (if c then XX X d mid (t, L, st, M) Q else XX X d mid (t', L, st, M) Q) = bq c' X d mid t t' L st M Q := by
  apply propext
  by_cases hc : c
  · rw [if_pos hc]; exact ⟨fun q => bq_t (h.mp hc) q, fun q => q.1 (h.mp hc)⟩
  · rw [if_neg hc]; exact ⟨fun q => bq_f (fun w => hc (h.mpr w)) q, fun q => q.2 (fun w => hc (h.mpr w))⟩
end BR
/-- arrays: ints, chars, truths, longs, references -/
def up (c : Int → Int) (k z : Int) : Int → Int := fun j => if j = k then z else c j
theorem up_s {c : Int → Int} {k z : Int} : up c k z k = z := if_pos rfl
theorem up_n {c : Int → Int} {k z j : Int} (h : j ≠ k) : up c k z j = c j := if_neg h
def AI (n : Nat) (c : Int → Int) : JE := .inl (0, n, fun j => .int (ii (c j)))
def AC (n : Nat) (c : Int → Int) : JE := .inl (4, n, fun j => .int (ii (c j)))
def AB (n : Nat) (c : Int → Int) : JE := .inl (3, n, fun j => .int (ii (c j)))
def AL (n : Nat) (c : Int → Int64) : JE := .inl (1, n, fun j => .long (c j))
def AR (t n : Nat) (c : Int → Value) : JE := .inl (t, n, fun j => c j)
theorem tn_cast {k : Int} (h : 0 ≤ k) : ((k.toNat : Nat) : Int) = k := Int.toNat_of_nonneg h
theorem ix_ok {k : Int} {n : Nat} (h : 0 ≤ k ∧ k < n ∧ n ≤ 2147483647) : ¬ (ii k < 0 ∨ n ≤ (ii k).toNatClampNeg) := by
  rw [ii_0, ii_lt (by omega), ii_tn (by omega)]; omega
theorem xa_AI {n : Nat} {c : Int → Int} {k : Int} {f : Value → Prop} (h : 0 ≤ k ∧ k < n ∧ n ≤ 2147483647) : xa (some (AI n c)) (aldT .iaload) (ii k) f = f (.int (ii (c k))) := by
  unfold AI
  rw [xa_s rfl (ix_ok h), ii_tn (by omega), tn_cast h.1]
theorem xa_AC {n : Nat} {c : Int → Int} {k : Int} {f : Value → Prop} (h : 0 ≤ k ∧ k < n ∧ n ≤ 2147483647) : xa (some (AC n c)) (aldT .caload) (ii k) f = f (.int (ii (c k))) := by
  unfold AC
  rw [xa_s rfl (ix_ok h), ii_tn (by omega), tn_cast h.1]
theorem xa_AB {n : Nat} {c : Int → Int} {k : Int} {f : Value → Prop} (h : 0 ≤ k ∧ k < n ∧ n ≤ 2147483647) : xa (some (AB n c)) (aldT .baload) (ii k) f = f (.int (ii (c k))) := by
  unfold AB
  rw [xa_s rfl (ix_ok h), ii_tn (by omega), tn_cast h.1]
theorem xa_AL {n : Nat} {c : Int → Int64} {k : Int} {f : Value → Prop} (h : 0 ≤ k ∧ k < n ∧ n ≤ 2147483647) : xa (some (AL n c)) (aldT .laload) (ii k) f = f (.long (c k)) := by
  unfold AL
  rw [xa_s rfl (ix_ok h), ii_tn (by omega), tn_cast h.1]
theorem xa_AR {t n : Nat} {c : Int → Value} {k : Int} {f : Value → Prop} (ht : t = 5 ∨ t = 6) (h : 0 ≤ k ∧ k < n ∧ n ≤ 2147483647) : xa (some (AR t n c)) (aldT .aaload) (ii k) f = f (c k) := by
  unfold AR
  rw [xa_s (by rcases ht with rfl | rfl <;> rfl) (ix_ok h), ii_tn (by omega), tn_cast h.1]
theorem vup_fun {k : Int} (h : 0 ≤ k) (c : Int → Value) (w : Value) : va_up (fun j : Nat => c j) k.toNat w = fun j : Nat => (fun i : Int => if i = k then w else c i) j := by
  funext j
  by_cases hj : (j : Int) = k
  · have : j = k.toNat := by omega
    rw [this, va_up_self]; simp only; rw [if_pos (by omega)]
  · rw [va_up_ne _ _ (by omega)]; simp only; rw [if_neg hj]
theorem up_fun {k z : Int} (h : 0 ≤ k) (c : Int → Int) : va_up (fun j : Nat => Value.int (ii (c j))) k.toNat (.int (ii z)) = fun j : Nat => .int (ii (up c k z j)) := by
  rw [vup_fun h (fun i => .int (ii (c i)))]
  funext j
  simp only [up]
  split <;> rfl
theorem xw_AI {n : Nat} {c : Int → Int} {k z : Int} {R : Nat → Option Nat} {f : JE → Prop} (h : 0 ≤ k ∧ k < n ∧ n ≤ 2147483647) : xw (some (AI n c)) (fun t => astV .iastore t (.int (ii z)) R) (ii k) f = f (AI n (up c k z)) := by
  unfold AI
  rw [xw_s rfl (ix_ok h), ii_tn (by omega), up_fun h.1]
theorem xw_AL {n : Nat} {c : Int → Int64} {k : Int} {z : Int64} {R : Nat → Option Nat} {f : JE → Prop} (h : 0 ≤ k ∧ k < n ∧ n ≤ 2147483647) : xw (some (AL n c)) (fun t => astV .lastore t (.long z) R) (ii k) f = f (AL n (fun j => if j = k then z else c j)) := by
  unfold AL
  rw [xw_s rfl (ix_ok h), ii_tn (by omega), vup_fun h.1 (fun i => .long (c i))]
  congr 1
  simp only
  congr 1
  congr 1
  congr 1
  funext j
  split <;> rfl
theorem i2c_id {z : Int} (h : 0 ≤ z ∧ z ≤ 65535) : ((ii z).toUInt32 % 65536).toInt32 = ii z := by
  obtain ⟨n, rfl⟩ := Int.eq_ofNat_of_zero_le h.1
  rw [← ii_nat]
  apply Int32.toBitVec_inj.mp
  show BitVec.ofNat 32 n % 65536#32 = BitVec.ofNat 32 n
  apply BitVec.eq_of_toNat_eq
  rw [BitVec.toNat_umod, BitVec.toNat_ofNat]
  have := h.2
  show n % 4294967296 % 65536 = n % 4294967296
  omega
theorem nar_c {z : Int} (h : 0 ≤ z ∧ z ≤ 65535) : narrow .char (.int (ii z)) = .int (ii z) := by
  have e := i2c_id h
  unfold narrow
  simp only
  exact congrArg Value.int e
theorem nar_b {z : Int} (h : z = 0 ∨ z = 1) : narrow .boolean (.int (ii z)) = .int (ii z) := by
  rcases h with rfl | rfl <;> rfl
theorem xw_AC {n : Nat} {c : Int → Int} {k z : Int} {R : Nat → Option Nat} {f : JE → Prop} (h : 0 ≤ k ∧ k < n ∧ n ≤ 2147483647) (hz : 0 ≤ z ∧ z ≤ 65535) : xw (some (AC n c)) (fun t => astV .castore t (.int (ii z)) R) (ii k) f = f (AC n (up c k z)) := by
  unfold AC
  rw [xw_s (w := .int (ii z)) (by unfold astV; simp only; rw [if_pos trivial, nar_c hz]) (ix_ok h), ii_tn (by omega), up_fun h.1]
theorem xw_AB {n : Nat} {c : Int → Int} {k z : Int} {R : Nat → Option Nat} {f : JE → Prop} (h : 0 ≤ k ∧ k < n ∧ n ≤ 2147483647) (hz : z = 0 ∨ z = 1) : xw (some (AB n c)) (fun t => astV .bastore t (.int (ii z)) R) (ii k) f = f (AB n (up c k z)) := by
  unfold AB
  rw [xw_s (w := .int (ii z)) (by unfold astV; simp only; rw [if_pos trivial, nar_b hz]) (ix_ok h), ii_tn (by omega), up_fun h.1]
