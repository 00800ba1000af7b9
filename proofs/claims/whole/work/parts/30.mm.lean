/-! the reference: its object and arrays as a pair of functions (printed by wip/whole/genm.py) -/
theorem cat_le (v : Value) : v.category ≤ 2 := by cases v <;> (unfold Value.category; simp)
theorem stB_0 : stB [] = true := rfl
theorem stB_1 {a : Value} : stB [a] = true := by unfold stB stw; simp only [List.map_cons, List.map_nil, List.sum_cons, List.sum_nil]; have := cat_le a; rw [Nat.ble_eq]; omega
theorem stB_2 {a b : Value} : stB [a, b] = true := by unfold stB stw; simp only [List.map_cons, List.map_nil, List.sum_cons, List.sum_nil]; have := cat_le a; have := cat_le b; rw [Nat.ble_eq]; omega
theorem stB_3 {a b c : Value} : stB [a, b, c] = true := by unfold stB stw; simp only [List.map_cons, List.map_nil, List.sum_cons, List.sum_nil]; have := cat_le a; have := cat_le b; have := cat_le c; rw [Nat.ble_eq]; omega
theorem stB_4 {a b c d : Value} : stB [a, b, c, d] = true := by unfold stB stw; simp only [List.map_cons, List.map_nil, List.sum_cons, List.sum_nil]; have := cat_le a; have := cat_le b; have := cat_le c; have := cat_le d; rw [Nat.ble_eq]; omega
theorem stB_5 {x : Int32} {a : Nat} {b c d : Value} : stB [.int x, b, c, d, .ref a] = true := by
  have hb := cat_le b
  have hc := cat_le c
  have hd := cat_le d
  show Nat.ble (1 + (b.category + (c.category + (d.category + (1 + 0))))) 8 = true
  rw [Nat.ble_eq]; omega
theorem wd_n : wide (some none) = false := rfl
theorem wd_i {x : Int32} : wide (some (some (.int x))) = false := rfl
theorem wd_r {x : Nat} : wide (some (some (.ref x))) = false := rfl
theorem wd_0 : wide (some (some .null)) = false := rfl
theorem wd_f {x : UInt32} : wide (some (some (.float x))) = false := rfl
theorem ct_i {x : Int32} : (Value.int x).category = 1 := rfl
theorem ct_r {x : Nat} : (Value.ref x).category = 1 := rfl
theorem ct_0 : Value.null.category = 1 := rfl
theorem ct_2 {x : Int32} {a : Nat} : (Value.int x).category = 1 ∧ (Value.ref a).category = 1 := ⟨rfl, rfl⟩
abbrev MS : Type := (Nat → Int) × (Nat → Int → Int)
def uN (s : Nat → Int) (k : Nat) (z : Int) : Nat → Int := fun j => if j = k then z else s j
def uA (s : Nat → Int → Int) (k : Nat) (c : Int → Int) : Nat → Int → Int := fun j => if j = k then c else s j
theorem uN_s {s : Nat → Int} {k : Nat} {z : Int} : uN s k z k = z := if_pos rfl
theorem uN_n {s : Nat → Int} {k j : Nat} {z : Int} (h : j ≠ k) : uN s k z j = s j := if_neg h
theorem uA_s {s : Nat → Int → Int} {k : Nat} {z : Int → Int} : uA s k z k = z := if_pos rfl
theorem uA_n {s : Nat → Int → Int} {k j : Nat} {z : Int → Int} (h : j ≠ k) : uA s k z j = s j := if_neg h
theorem uN_uN {s : Nat → Int} {k : Nat} {z w : Int} : uN (uN s k z) k w = uN s k w := by funext j; unfold uN; split <;> rfl
theorem uA_uA {s : Nat → Int → Int} {k : Nat} {z w : Int → Int} : uA (uA s k z) k w = uA s k w := by funext j; unfold uA; split <;> rfl
def mfl (m : Nat) (S : MS) : List Value := [.ref (m + 1), .ref (m + 2), .ref (m + 3), .int (ii (S.1 3)), .int (ii (S.1 4)), .int (ii (S.1 5)), .ref (m + 4), .int (ii (S.1 7)), .ref (m + 5), .int (ii (S.1 9)), .int (ii (S.1 10)), .int (ii (S.1 11)), .int (ii (S.1 12)), .ref (m + 6), .int (ii (S.1 14)), .ref (m + 7), .int (ii (S.1 16)), .int (ii (S.1 17)), .int (ii (S.1 18)), .ref (m + 8), .ref (m + 9), .ref (m + 10), .ref (m + 11), .ref (m + 12), .int (ii (S.1 24)), .int (ii (S.1 25)), .ref (m + 13), .ref (m + 14), .ref (m + 15), .int (ii (S.1 29)), .ref (m + 16), .ref (m + 17), .ref (m + 18), .ref (m + 19), .int (ii (S.1 34)), .int (ii (S.1 35)), .ref (m + 20), .ref (m + 21), .int (ii (S.1 38)), .ref (m + 22), .ref (m + 23)]
def mar (S : MS) : List JE := [AI 166 (S.2 0), AI 1328 (S.2 1), AI 166 (S.2 2), AI 30 (S.2 3), AI 40 (S.2 4), AC 140 (S.2 5), AI 30 (S.2 6), AI 140 (S.2 7), AI 140 (S.2 8), AI 140 (S.2 9), AI 140 (S.2 10), AI 140 (S.2 11), AI 200 (S.2 12), AI 200 (S.2 13), AI 200 (S.2 14), AB 8200 (S.2 15), AI 10 (S.2 16), AI 9000 (S.2 17), AI 9000 (S.2 18), AI 42 (S.2 19), AI 42 (S.2 20), AI 90 (S.2 21), AI 4 (S.2 22)]
def mm (M0 : JM) (m : Nat) (S : MS) : JM := (M0.1, M0.2.1, fun b => if b = m then some (.inr (9, mfl m S)) else if m < b ∧ b ≤ m + 23 then (mar S)[b - m - 1]? else M0.2.2 b)
section MM
variable {M0 : JM} {m : Nat} {S S' : MS} {f : Value → Prop} {X : JX} {d mid pc : Nat} {L : List (Option Value)} {st : List Value} {Q : JR → JM → Prop} {R : Nat → Option Nat} {k z : Int}
theorem mm_1 : (mm M0 m S).1 = M0.1 := rfl
theorem mm_21 : (mm M0 m S).2.1 = M0.2.1 := rfl
theorem mm_o : (mm M0 m S).2.2 m = some (.inr (9, mfl m S)) := if_pos rfl
theorem mm_cl : mcl (mm M0 m S) m = some 9 := by unfold mcl; rw [mm_o]
theorem mm_a {j : Nat} {e : JE} (hj : j < 23) (h : (mar S)[j]? = some e) : (mm M0 m S).2.2 (m + (j + 1)) = some e := by
  unfold mm
  simp only
  rw [if_neg (by omega), if_pos (by omega), show m + (j + 1) - m - 1 = j by omega, h]
theorem mm_ne {b : Nat} (h : b < m ∨ m + 23 < b) : (mm M0 m S).2.2 b = M0.2.2 b := by
  unfold mm
  simp only
  rw [if_neg (by omega), if_neg (by omega)]
theorem mm_s0 (h : mar S' = mar S) : mset (mm M0 m S) m (.inr (9, mfl m S')) = mm M0 m S' := by
  unfold mset mm
  rw [h]
  simp only
  congr 2
  funext b
  by_cases hb : b = m
  · rw [hb, va_up_self, if_pos rfl]
  · rw [va_up_ne _ _ hb, if_neg hb, if_neg hb]
theorem mm_sa {j : Nat} {e : JE} (hj : j < 23) (h : mar S' = (mar S).set j e) (h0 : mfl m S' = mfl m S) : mset (mm M0 m S) (m + (j + 1)) e = mm M0 m S' := by
  unfold mset mm
  rw [h, h0]
  simp only
  congr 2
  funext b
  by_cases hb : b = m + (j + 1)
  · subst hb
    rw [va_up_self, if_neg (by omega), if_pos (by omega), show m + (j + 1) - m - 1 = j by omega, List.getElem?_set_self hj]
  · rw [va_up_ne _ _ hb]
    by_cases hb2 : b = m
    · rw [if_pos hb2, if_pos hb2]
    · rw [if_neg hb2, if_neg hb2]
      by_cases hb3 : m < b ∧ b ≤ m + 23
      · rw [if_pos hb3, if_pos hb3, List.getElem?_set_ne (by omega)]
      · rw [if_neg hb3, if_neg hb3]
theorem mm_sx {v : Value} {n : Nat} (hn : (mfl m S).set n v = mfl m S') (ht : fOk (clTy 9 n) v = true) (hl : n < 41) (h : mar S' = mar S) : yp ((mm M0 m S).2.2 m) m 9 n v X d mid pc L st (mm M0 m S) Q = XX X d mid (pc, L, st, mm M0 m S') Q := by
  rw [mm_o, yp_s hl ht, hn, mm_s0 h]
theorem mm_wx {n j : Nat} {c : Int → Int} (hj : j < 23) (hc : (mar S)[j]? = some (AI n c)) (hm : mar S' = (mar S).set j (AI n (up c k z))) (h0 : mfl m S' = mfl m S) (h : 0 ≤ k ∧ k < n ∧ n ≤ 2147483647) : yw ((mm M0 m S).2.2 (m + (j + 1))) (m + (j + 1)) .iastore (.int (ii z)) (ii k) X d mid pc L st (mm M0 m S) Q = XX X d mid (pc, L, st, mm M0 m S') Q := by
  rw [mm_a hj hc, yw_I h, mm_sa hj hm h0]
theorem mm_wxB {n j : Nat} {c : Int → Int} (hj : j < 23) (hc : (mar S)[j]? = some (AB n c)) (hm : mar S' = (mar S).set j (AB n (up c k z))) (h0 : mfl m S' = mfl m S) (h : 0 ≤ k ∧ k < n ∧ n ≤ 2147483647) (hz : z = 0 ∨ z = 1) : yw ((mm M0 m S).2.2 (m + (j + 1))) (m + (j + 1)) .bastore (.int (ii z)) (ii k) X d mid pc L st (mm M0 m S) Q = XX X d mid (pc, L, st, mm M0 m S') Q := by
  rw [mm_a hj hc, yw_B h hz, mm_sa hj hm h0]
theorem mm_wxC {n j : Nat} {c : Int → Int} (hj : j < 23) (hc : (mar S)[j]? = some (AC n c)) (hm : mar S' = (mar S).set j (AC n (up c k z))) (h0 : mfl m S' = mfl m S) (h : 0 ≤ k ∧ k < n ∧ n ≤ 2147483647) (hz : 0 ≤ z ∧ z ≤ 65535) : yw ((mm M0 m S).2.2 (m + (j + 1))) (m + (j + 1)) .castore (.int (ii z)) (ii k) X d mid pc L st (mm M0 m S) Q = XX X d mid (pc, L, st, mm M0 m S') Q := by
  rw [mm_a hj hc, yw_C h hz, mm_sa hj hm h0]
theorem mf_0 : yg ((mm M0 m S).2.2 m) 9 0 X d mid pc L st (mm M0 m S) Q = XX X d mid (pc, L, (.ref (m + 1)) :: st, mm M0 m S) Q := by rw [mm_o]; exact yg_s rfl
theorem mf_1 : yg ((mm M0 m S).2.2 m) 9 1 X d mid pc L st (mm M0 m S) Q = XX X d mid (pc, L, (.ref (m + 2)) :: st, mm M0 m S) Q := by rw [mm_o]; exact yg_s rfl
theorem mf_2 : yg ((mm M0 m S).2.2 m) 9 2 X d mid pc L st (mm M0 m S) Q = XX X d mid (pc, L, (.ref (m + 3)) :: st, mm M0 m S) Q := by rw [mm_o]; exact yg_s rfl
theorem mf_3 : yg ((mm M0 m S).2.2 m) 9 3 X d mid pc L st (mm M0 m S) Q = XX X d mid (pc, L, (.int (ii (S.1 3))) :: st, mm M0 m S) Q := by rw [mm_o]; exact yg_s rfl
theorem ms_3 (hz : z = 0 ∨ z = 1) : yp ((mm M0 m S).2.2 m) m 9 3 (.int (ii z)) X d mid pc L st (mm M0 m S) Q = XX X d mid (pc, L, st, mm M0 m (uN S.1 3 z, S.2)) Q := mm_sx (S' := (uN S.1 3 z, S.2)) rfl (bz_ok hz) (by decide) rfl
theorem mf_4 : yg ((mm M0 m S).2.2 m) 9 4 X d mid pc L st (mm M0 m S) Q = XX X d mid (pc, L, (.int (ii (S.1 4))) :: st, mm M0 m S) Q := by rw [mm_o]; exact yg_s rfl
theorem ms_4 : yp ((mm M0 m S).2.2 m) m 9 4 (.int (ii z)) X d mid pc L st (mm M0 m S) Q = XX X d mid (pc, L, st, mm M0 m (uN S.1 4 z, S.2)) Q := mm_sx (S' := (uN S.1 4 z, S.2)) rfl rfl (by decide) rfl
theorem mf_5 : yg ((mm M0 m S).2.2 m) 9 5 X d mid pc L st (mm M0 m S) Q = XX X d mid (pc, L, (.int (ii (S.1 5))) :: st, mm M0 m S) Q := by rw [mm_o]; exact yg_s rfl
theorem ms_5 : yp ((mm M0 m S).2.2 m) m 9 5 (.int (ii z)) X d mid pc L st (mm M0 m S) Q = XX X d mid (pc, L, st, mm M0 m (uN S.1 5 z, S.2)) Q := mm_sx (S' := (uN S.1 5 z, S.2)) rfl rfl (by decide) rfl
theorem mf_6 : yg ((mm M0 m S).2.2 m) 9 6 X d mid pc L st (mm M0 m S) Q = XX X d mid (pc, L, (.ref (m + 4)) :: st, mm M0 m S) Q := by rw [mm_o]; exact yg_s rfl
theorem mf_7 : yg ((mm M0 m S).2.2 m) 9 7 X d mid pc L st (mm M0 m S) Q = XX X d mid (pc, L, (.int (ii (S.1 7))) :: st, mm M0 m S) Q := by rw [mm_o]; exact yg_s rfl
theorem ms_7 : yp ((mm M0 m S).2.2 m) m 9 7 (.int (ii z)) X d mid pc L st (mm M0 m S) Q = XX X d mid (pc, L, st, mm M0 m (uN S.1 7 z, S.2)) Q := mm_sx (S' := (uN S.1 7 z, S.2)) rfl rfl (by decide) rfl
theorem mf_8 : yg ((mm M0 m S).2.2 m) 9 8 X d mid pc L st (mm M0 m S) Q = XX X d mid (pc, L, (.ref (m + 5)) :: st, mm M0 m S) Q := by rw [mm_o]; exact yg_s rfl
theorem mf_9 : yg ((mm M0 m S).2.2 m) 9 9 X d mid pc L st (mm M0 m S) Q = XX X d mid (pc, L, (.int (ii (S.1 9))) :: st, mm M0 m S) Q := by rw [mm_o]; exact yg_s rfl
theorem ms_9 : yp ((mm M0 m S).2.2 m) m 9 9 (.int (ii z)) X d mid pc L st (mm M0 m S) Q = XX X d mid (pc, L, st, mm M0 m (uN S.1 9 z, S.2)) Q := mm_sx (S' := (uN S.1 9 z, S.2)) rfl rfl (by decide) rfl
theorem mf_10 : yg ((mm M0 m S).2.2 m) 9 10 X d mid pc L st (mm M0 m S) Q = XX X d mid (pc, L, (.int (ii (S.1 10))) :: st, mm M0 m S) Q := by rw [mm_o]; exact yg_s rfl
theorem ms_10 : yp ((mm M0 m S).2.2 m) m 9 10 (.int (ii z)) X d mid pc L st (mm M0 m S) Q = XX X d mid (pc, L, st, mm M0 m (uN S.1 10 z, S.2)) Q := mm_sx (S' := (uN S.1 10 z, S.2)) rfl rfl (by decide) rfl
theorem mf_11 : yg ((mm M0 m S).2.2 m) 9 11 X d mid pc L st (mm M0 m S) Q = XX X d mid (pc, L, (.int (ii (S.1 11))) :: st, mm M0 m S) Q := by rw [mm_o]; exact yg_s rfl
theorem ms_11 : yp ((mm M0 m S).2.2 m) m 9 11 (.int (ii z)) X d mid pc L st (mm M0 m S) Q = XX X d mid (pc, L, st, mm M0 m (uN S.1 11 z, S.2)) Q := mm_sx (S' := (uN S.1 11 z, S.2)) rfl rfl (by decide) rfl
theorem mf_12 : yg ((mm M0 m S).2.2 m) 9 12 X d mid pc L st (mm M0 m S) Q = XX X d mid (pc, L, (.int (ii (S.1 12))) :: st, mm M0 m S) Q := by rw [mm_o]; exact yg_s rfl
theorem ms_12 : yp ((mm M0 m S).2.2 m) m 9 12 (.int (ii z)) X d mid pc L st (mm M0 m S) Q = XX X d mid (pc, L, st, mm M0 m (uN S.1 12 z, S.2)) Q := mm_sx (S' := (uN S.1 12 z, S.2)) rfl rfl (by decide) rfl
theorem mf_13 : yg ((mm M0 m S).2.2 m) 9 13 X d mid pc L st (mm M0 m S) Q = XX X d mid (pc, L, (.ref (m + 6)) :: st, mm M0 m S) Q := by rw [mm_o]; exact yg_s rfl
theorem mf_14 : yg ((mm M0 m S).2.2 m) 9 14 X d mid pc L st (mm M0 m S) Q = XX X d mid (pc, L, (.int (ii (S.1 14))) :: st, mm M0 m S) Q := by rw [mm_o]; exact yg_s rfl
theorem ms_14 : yp ((mm M0 m S).2.2 m) m 9 14 (.int (ii z)) X d mid pc L st (mm M0 m S) Q = XX X d mid (pc, L, st, mm M0 m (uN S.1 14 z, S.2)) Q := mm_sx (S' := (uN S.1 14 z, S.2)) rfl rfl (by decide) rfl
theorem mf_15 : yg ((mm M0 m S).2.2 m) 9 15 X d mid pc L st (mm M0 m S) Q = XX X d mid (pc, L, (.ref (m + 7)) :: st, mm M0 m S) Q := by rw [mm_o]; exact yg_s rfl
theorem mf_16 : yg ((mm M0 m S).2.2 m) 9 16 X d mid pc L st (mm M0 m S) Q = XX X d mid (pc, L, (.int (ii (S.1 16))) :: st, mm M0 m S) Q := by rw [mm_o]; exact yg_s rfl
theorem ms_16 : yp ((mm M0 m S).2.2 m) m 9 16 (.int (ii z)) X d mid pc L st (mm M0 m S) Q = XX X d mid (pc, L, st, mm M0 m (uN S.1 16 z, S.2)) Q := mm_sx (S' := (uN S.1 16 z, S.2)) rfl rfl (by decide) rfl
theorem mf_17 : yg ((mm M0 m S).2.2 m) 9 17 X d mid pc L st (mm M0 m S) Q = XX X d mid (pc, L, (.int (ii (S.1 17))) :: st, mm M0 m S) Q := by rw [mm_o]; exact yg_s rfl
theorem ms_17 : yp ((mm M0 m S).2.2 m) m 9 17 (.int (ii z)) X d mid pc L st (mm M0 m S) Q = XX X d mid (pc, L, st, mm M0 m (uN S.1 17 z, S.2)) Q := mm_sx (S' := (uN S.1 17 z, S.2)) rfl rfl (by decide) rfl
theorem mf_18 : yg ((mm M0 m S).2.2 m) 9 18 X d mid pc L st (mm M0 m S) Q = XX X d mid (pc, L, (.int (ii (S.1 18))) :: st, mm M0 m S) Q := by rw [mm_o]; exact yg_s rfl
theorem ms_18 (hz : z = 0 ∨ z = 1) : yp ((mm M0 m S).2.2 m) m 9 18 (.int (ii z)) X d mid pc L st (mm M0 m S) Q = XX X d mid (pc, L, st, mm M0 m (uN S.1 18 z, S.2)) Q := mm_sx (S' := (uN S.1 18 z, S.2)) rfl (bz_ok hz) (by decide) rfl
theorem mf_19 : yg ((mm M0 m S).2.2 m) 9 19 X d mid pc L st (mm M0 m S) Q = XX X d mid (pc, L, (.ref (m + 8)) :: st, mm M0 m S) Q := by rw [mm_o]; exact yg_s rfl
theorem mf_20 : yg ((mm M0 m S).2.2 m) 9 20 X d mid pc L st (mm M0 m S) Q = XX X d mid (pc, L, (.ref (m + 9)) :: st, mm M0 m S) Q := by rw [mm_o]; exact yg_s rfl
theorem mf_21 : yg ((mm M0 m S).2.2 m) 9 21 X d mid pc L st (mm M0 m S) Q = XX X d mid (pc, L, (.ref (m + 10)) :: st, mm M0 m S) Q := by rw [mm_o]; exact yg_s rfl
theorem mf_22 : yg ((mm M0 m S).2.2 m) 9 22 X d mid pc L st (mm M0 m S) Q = XX X d mid (pc, L, (.ref (m + 11)) :: st, mm M0 m S) Q := by rw [mm_o]; exact yg_s rfl
theorem mf_23 : yg ((mm M0 m S).2.2 m) 9 23 X d mid pc L st (mm M0 m S) Q = XX X d mid (pc, L, (.ref (m + 12)) :: st, mm M0 m S) Q := by rw [mm_o]; exact yg_s rfl
theorem mf_24 : yg ((mm M0 m S).2.2 m) 9 24 X d mid pc L st (mm M0 m S) Q = XX X d mid (pc, L, (.int (ii (S.1 24))) :: st, mm M0 m S) Q := by rw [mm_o]; exact yg_s rfl
theorem ms_24 : yp ((mm M0 m S).2.2 m) m 9 24 (.int (ii z)) X d mid pc L st (mm M0 m S) Q = XX X d mid (pc, L, st, mm M0 m (uN S.1 24 z, S.2)) Q := mm_sx (S' := (uN S.1 24 z, S.2)) rfl rfl (by decide) rfl
theorem mf_25 : yg ((mm M0 m S).2.2 m) 9 25 X d mid pc L st (mm M0 m S) Q = XX X d mid (pc, L, (.int (ii (S.1 25))) :: st, mm M0 m S) Q := by rw [mm_o]; exact yg_s rfl
theorem ms_25 : yp ((mm M0 m S).2.2 m) m 9 25 (.int (ii z)) X d mid pc L st (mm M0 m S) Q = XX X d mid (pc, L, st, mm M0 m (uN S.1 25 z, S.2)) Q := mm_sx (S' := (uN S.1 25 z, S.2)) rfl rfl (by decide) rfl
theorem mf_26 : yg ((mm M0 m S).2.2 m) 9 26 X d mid pc L st (mm M0 m S) Q = XX X d mid (pc, L, (.ref (m + 13)) :: st, mm M0 m S) Q := by rw [mm_o]; exact yg_s rfl
theorem mf_27 : yg ((mm M0 m S).2.2 m) 9 27 X d mid pc L st (mm M0 m S) Q = XX X d mid (pc, L, (.ref (m + 14)) :: st, mm M0 m S) Q := by rw [mm_o]; exact yg_s rfl
theorem mf_28 : yg ((mm M0 m S).2.2 m) 9 28 X d mid pc L st (mm M0 m S) Q = XX X d mid (pc, L, (.ref (m + 15)) :: st, mm M0 m S) Q := by rw [mm_o]; exact yg_s rfl
theorem mf_29 : yg ((mm M0 m S).2.2 m) 9 29 X d mid pc L st (mm M0 m S) Q = XX X d mid (pc, L, (.int (ii (S.1 29))) :: st, mm M0 m S) Q := by rw [mm_o]; exact yg_s rfl
theorem ms_29 : yp ((mm M0 m S).2.2 m) m 9 29 (.int (ii z)) X d mid pc L st (mm M0 m S) Q = XX X d mid (pc, L, st, mm M0 m (uN S.1 29 z, S.2)) Q := mm_sx (S' := (uN S.1 29 z, S.2)) rfl rfl (by decide) rfl
theorem mf_30 : yg ((mm M0 m S).2.2 m) 9 30 X d mid pc L st (mm M0 m S) Q = XX X d mid (pc, L, (.ref (m + 16)) :: st, mm M0 m S) Q := by rw [mm_o]; exact yg_s rfl
theorem mf_31 : yg ((mm M0 m S).2.2 m) 9 31 X d mid pc L st (mm M0 m S) Q = XX X d mid (pc, L, (.ref (m + 17)) :: st, mm M0 m S) Q := by rw [mm_o]; exact yg_s rfl
theorem mf_32 : yg ((mm M0 m S).2.2 m) 9 32 X d mid pc L st (mm M0 m S) Q = XX X d mid (pc, L, (.ref (m + 18)) :: st, mm M0 m S) Q := by rw [mm_o]; exact yg_s rfl
theorem mf_33 : yg ((mm M0 m S).2.2 m) 9 33 X d mid pc L st (mm M0 m S) Q = XX X d mid (pc, L, (.ref (m + 19)) :: st, mm M0 m S) Q := by rw [mm_o]; exact yg_s rfl
theorem mf_34 : yg ((mm M0 m S).2.2 m) 9 34 X d mid pc L st (mm M0 m S) Q = XX X d mid (pc, L, (.int (ii (S.1 34))) :: st, mm M0 m S) Q := by rw [mm_o]; exact yg_s rfl
theorem ms_34 : yp ((mm M0 m S).2.2 m) m 9 34 (.int (ii z)) X d mid pc L st (mm M0 m S) Q = XX X d mid (pc, L, st, mm M0 m (uN S.1 34 z, S.2)) Q := mm_sx (S' := (uN S.1 34 z, S.2)) rfl rfl (by decide) rfl
theorem mf_35 : yg ((mm M0 m S).2.2 m) 9 35 X d mid pc L st (mm M0 m S) Q = XX X d mid (pc, L, (.int (ii (S.1 35))) :: st, mm M0 m S) Q := by rw [mm_o]; exact yg_s rfl
theorem ms_35 : yp ((mm M0 m S).2.2 m) m 9 35 (.int (ii z)) X d mid pc L st (mm M0 m S) Q = XX X d mid (pc, L, st, mm M0 m (uN S.1 35 z, S.2)) Q := mm_sx (S' := (uN S.1 35 z, S.2)) rfl rfl (by decide) rfl
theorem mf_36 : yg ((mm M0 m S).2.2 m) 9 36 X d mid pc L st (mm M0 m S) Q = XX X d mid (pc, L, (.ref (m + 20)) :: st, mm M0 m S) Q := by rw [mm_o]; exact yg_s rfl
theorem mf_37 : yg ((mm M0 m S).2.2 m) 9 37 X d mid pc L st (mm M0 m S) Q = XX X d mid (pc, L, (.ref (m + 21)) :: st, mm M0 m S) Q := by rw [mm_o]; exact yg_s rfl
theorem mf_38 : yg ((mm M0 m S).2.2 m) 9 38 X d mid pc L st (mm M0 m S) Q = XX X d mid (pc, L, (.int (ii (S.1 38))) :: st, mm M0 m S) Q := by rw [mm_o]; exact yg_s rfl
theorem ms_38 : yp ((mm M0 m S).2.2 m) m 9 38 (.int (ii z)) X d mid pc L st (mm M0 m S) Q = XX X d mid (pc, L, st, mm M0 m (uN S.1 38 z, S.2)) Q := mm_sx (S' := (uN S.1 38 z, S.2)) rfl rfl (by decide) rfl
theorem mf_39 : yg ((mm M0 m S).2.2 m) 9 39 X d mid pc L st (mm M0 m S) Q = XX X d mid (pc, L, (.ref (m + 22)) :: st, mm M0 m S) Q := by rw [mm_o]; exact yg_s rfl
theorem mf_40 : yg ((mm M0 m S).2.2 m) 9 40 X d mid pc L st (mm M0 m S) Q = XX X d mid (pc, L, (.ref (m + 23)) :: st, mm M0 m S) Q := by rw [mm_o]; exact yg_s rfl
theorem ma_0 (h : 0 ≤ k ∧ k < 166) : ya ((mm M0 m S).2.2 (m + 1)) .iaload (ii k) X d mid pc L st (mm M0 m S) Q = XX X d mid (pc, L, .int (ii (S.2 0 k)) :: st, mm M0 m S) Q := by rw [mm_a (j := 0) (by decide) rfl, ya_I (by omega)]
theorem mw_0 (h : 0 ≤ k ∧ k < 166) : yw ((mm M0 m S).2.2 (m + 1)) (m + 1) .iastore (.int (ii z)) (ii k) X d mid pc L st (mm M0 m S) Q = XX X d mid (pc, L, st, mm M0 m (S.1, uA S.2 0 (up (S.2 0) k z))) Q := mm_wx (j := 0) (S' := (S.1, uA S.2 0 (up (S.2 0) k z))) (by decide) rfl rfl rfl (by omega)
theorem ma_1 (h : 0 ≤ k ∧ k < 1328) : ya ((mm M0 m S).2.2 (m + 2)) .iaload (ii k) X d mid pc L st (mm M0 m S) Q = XX X d mid (pc, L, .int (ii (S.2 1 k)) :: st, mm M0 m S) Q := by rw [mm_a (j := 1) (by decide) rfl, ya_I (by omega)]
theorem mw_1 (h : 0 ≤ k ∧ k < 1328) : yw ((mm M0 m S).2.2 (m + 2)) (m + 2) .iastore (.int (ii z)) (ii k) X d mid pc L st (mm M0 m S) Q = XX X d mid (pc, L, st, mm M0 m (S.1, uA S.2 1 (up (S.2 1) k z))) Q := mm_wx (j := 1) (S' := (S.1, uA S.2 1 (up (S.2 1) k z))) (by decide) rfl rfl rfl (by omega)
theorem ma_2 (h : 0 ≤ k ∧ k < 166) : ya ((mm M0 m S).2.2 (m + 3)) .iaload (ii k) X d mid pc L st (mm M0 m S) Q = XX X d mid (pc, L, .int (ii (S.2 2 k)) :: st, mm M0 m S) Q := by rw [mm_a (j := 2) (by decide) rfl, ya_I (by omega)]
theorem mw_2 (h : 0 ≤ k ∧ k < 166) : yw ((mm M0 m S).2.2 (m + 3)) (m + 3) .iastore (.int (ii z)) (ii k) X d mid pc L st (mm M0 m S) Q = XX X d mid (pc, L, st, mm M0 m (S.1, uA S.2 2 (up (S.2 2) k z))) Q := mm_wx (j := 2) (S' := (S.1, uA S.2 2 (up (S.2 2) k z))) (by decide) rfl rfl rfl (by omega)
theorem ma_3 (h : 0 ≤ k ∧ k < 30) : ya ((mm M0 m S).2.2 (m + 4)) .iaload (ii k) X d mid pc L st (mm M0 m S) Q = XX X d mid (pc, L, .int (ii (S.2 3 k)) :: st, mm M0 m S) Q := by rw [mm_a (j := 3) (by decide) rfl, ya_I (by omega)]
theorem mw_3 (h : 0 ≤ k ∧ k < 30) : yw ((mm M0 m S).2.2 (m + 4)) (m + 4) .iastore (.int (ii z)) (ii k) X d mid pc L st (mm M0 m S) Q = XX X d mid (pc, L, st, mm M0 m (S.1, uA S.2 3 (up (S.2 3) k z))) Q := mm_wx (j := 3) (S' := (S.1, uA S.2 3 (up (S.2 3) k z))) (by decide) rfl rfl rfl (by omega)
theorem ma_4 (h : 0 ≤ k ∧ k < 40) : ya ((mm M0 m S).2.2 (m + 5)) .iaload (ii k) X d mid pc L st (mm M0 m S) Q = XX X d mid (pc, L, .int (ii (S.2 4 k)) :: st, mm M0 m S) Q := by rw [mm_a (j := 4) (by decide) rfl, ya_I (by omega)]
theorem mw_4 (h : 0 ≤ k ∧ k < 40) : yw ((mm M0 m S).2.2 (m + 5)) (m + 5) .iastore (.int (ii z)) (ii k) X d mid pc L st (mm M0 m S) Q = XX X d mid (pc, L, st, mm M0 m (S.1, uA S.2 4 (up (S.2 4) k z))) Q := mm_wx (j := 4) (S' := (S.1, uA S.2 4 (up (S.2 4) k z))) (by decide) rfl rfl rfl (by omega)
theorem ma_5 (h : 0 ≤ k ∧ k < 140) : ya ((mm M0 m S).2.2 (m + 6)) .caload (ii k) X d mid pc L st (mm M0 m S) Q = XX X d mid (pc, L, .int (ii (S.2 5 k)) :: st, mm M0 m S) Q := by rw [mm_a (j := 5) (by decide) rfl, ya_C (by omega)]
theorem mw_5 (h : 0 ≤ k ∧ k < 140) (hz : 0 ≤ z ∧ z ≤ 65535) : yw ((mm M0 m S).2.2 (m + 6)) (m + 6) .castore (.int (ii z)) (ii k) X d mid pc L st (mm M0 m S) Q = XX X d mid (pc, L, st, mm M0 m (S.1, uA S.2 5 (up (S.2 5) k z))) Q := mm_wxC (j := 5) (S' := (S.1, uA S.2 5 (up (S.2 5) k z))) (by decide) rfl rfl rfl (by omega) hz
theorem ma_6 (h : 0 ≤ k ∧ k < 30) : ya ((mm M0 m S).2.2 (m + 7)) .iaload (ii k) X d mid pc L st (mm M0 m S) Q = XX X d mid (pc, L, .int (ii (S.2 6 k)) :: st, mm M0 m S) Q := by rw [mm_a (j := 6) (by decide) rfl, ya_I (by omega)]
theorem mw_6 (h : 0 ≤ k ∧ k < 30) : yw ((mm M0 m S).2.2 (m + 7)) (m + 7) .iastore (.int (ii z)) (ii k) X d mid pc L st (mm M0 m S) Q = XX X d mid (pc, L, st, mm M0 m (S.1, uA S.2 6 (up (S.2 6) k z))) Q := mm_wx (j := 6) (S' := (S.1, uA S.2 6 (up (S.2 6) k z))) (by decide) rfl rfl rfl (by omega)
theorem ma_7 (h : 0 ≤ k ∧ k < 140) : ya ((mm M0 m S).2.2 (m + 8)) .iaload (ii k) X d mid pc L st (mm M0 m S) Q = XX X d mid (pc, L, .int (ii (S.2 7 k)) :: st, mm M0 m S) Q := by rw [mm_a (j := 7) (by decide) rfl, ya_I (by omega)]
theorem mw_7 (h : 0 ≤ k ∧ k < 140) : yw ((mm M0 m S).2.2 (m + 8)) (m + 8) .iastore (.int (ii z)) (ii k) X d mid pc L st (mm M0 m S) Q = XX X d mid (pc, L, st, mm M0 m (S.1, uA S.2 7 (up (S.2 7) k z))) Q := mm_wx (j := 7) (S' := (S.1, uA S.2 7 (up (S.2 7) k z))) (by decide) rfl rfl rfl (by omega)
theorem ma_8 (h : 0 ≤ k ∧ k < 140) : ya ((mm M0 m S).2.2 (m + 9)) .iaload (ii k) X d mid pc L st (mm M0 m S) Q = XX X d mid (pc, L, .int (ii (S.2 8 k)) :: st, mm M0 m S) Q := by rw [mm_a (j := 8) (by decide) rfl, ya_I (by omega)]
theorem mw_8 (h : 0 ≤ k ∧ k < 140) : yw ((mm M0 m S).2.2 (m + 9)) (m + 9) .iastore (.int (ii z)) (ii k) X d mid pc L st (mm M0 m S) Q = XX X d mid (pc, L, st, mm M0 m (S.1, uA S.2 8 (up (S.2 8) k z))) Q := mm_wx (j := 8) (S' := (S.1, uA S.2 8 (up (S.2 8) k z))) (by decide) rfl rfl rfl (by omega)
theorem ma_9 (h : 0 ≤ k ∧ k < 140) : ya ((mm M0 m S).2.2 (m + 10)) .iaload (ii k) X d mid pc L st (mm M0 m S) Q = XX X d mid (pc, L, .int (ii (S.2 9 k)) :: st, mm M0 m S) Q := by rw [mm_a (j := 9) (by decide) rfl, ya_I (by omega)]
theorem mw_9 (h : 0 ≤ k ∧ k < 140) : yw ((mm M0 m S).2.2 (m + 10)) (m + 10) .iastore (.int (ii z)) (ii k) X d mid pc L st (mm M0 m S) Q = XX X d mid (pc, L, st, mm M0 m (S.1, uA S.2 9 (up (S.2 9) k z))) Q := mm_wx (j := 9) (S' := (S.1, uA S.2 9 (up (S.2 9) k z))) (by decide) rfl rfl rfl (by omega)
theorem ma_10 (h : 0 ≤ k ∧ k < 140) : ya ((mm M0 m S).2.2 (m + 11)) .iaload (ii k) X d mid pc L st (mm M0 m S) Q = XX X d mid (pc, L, .int (ii (S.2 10 k)) :: st, mm M0 m S) Q := by rw [mm_a (j := 10) (by decide) rfl, ya_I (by omega)]
theorem mw_10 (h : 0 ≤ k ∧ k < 140) : yw ((mm M0 m S).2.2 (m + 11)) (m + 11) .iastore (.int (ii z)) (ii k) X d mid pc L st (mm M0 m S) Q = XX X d mid (pc, L, st, mm M0 m (S.1, uA S.2 10 (up (S.2 10) k z))) Q := mm_wx (j := 10) (S' := (S.1, uA S.2 10 (up (S.2 10) k z))) (by decide) rfl rfl rfl (by omega)
theorem ma_11 (h : 0 ≤ k ∧ k < 140) : ya ((mm M0 m S).2.2 (m + 12)) .iaload (ii k) X d mid pc L st (mm M0 m S) Q = XX X d mid (pc, L, .int (ii (S.2 11 k)) :: st, mm M0 m S) Q := by rw [mm_a (j := 11) (by decide) rfl, ya_I (by omega)]
theorem mw_11 (h : 0 ≤ k ∧ k < 140) : yw ((mm M0 m S).2.2 (m + 12)) (m + 12) .iastore (.int (ii z)) (ii k) X d mid pc L st (mm M0 m S) Q = XX X d mid (pc, L, st, mm M0 m (S.1, uA S.2 11 (up (S.2 11) k z))) Q := mm_wx (j := 11) (S' := (S.1, uA S.2 11 (up (S.2 11) k z))) (by decide) rfl rfl rfl (by omega)
theorem ma_12 (h : 0 ≤ k ∧ k < 200) : ya ((mm M0 m S).2.2 (m + 13)) .iaload (ii k) X d mid pc L st (mm M0 m S) Q = XX X d mid (pc, L, .int (ii (S.2 12 k)) :: st, mm M0 m S) Q := by rw [mm_a (j := 12) (by decide) rfl, ya_I (by omega)]
theorem mw_12 (h : 0 ≤ k ∧ k < 200) : yw ((mm M0 m S).2.2 (m + 13)) (m + 13) .iastore (.int (ii z)) (ii k) X d mid pc L st (mm M0 m S) Q = XX X d mid (pc, L, st, mm M0 m (S.1, uA S.2 12 (up (S.2 12) k z))) Q := mm_wx (j := 12) (S' := (S.1, uA S.2 12 (up (S.2 12) k z))) (by decide) rfl rfl rfl (by omega)
theorem ma_13 (h : 0 ≤ k ∧ k < 200) : ya ((mm M0 m S).2.2 (m + 14)) .iaload (ii k) X d mid pc L st (mm M0 m S) Q = XX X d mid (pc, L, .int (ii (S.2 13 k)) :: st, mm M0 m S) Q := by rw [mm_a (j := 13) (by decide) rfl, ya_I (by omega)]
theorem mw_13 (h : 0 ≤ k ∧ k < 200) : yw ((mm M0 m S).2.2 (m + 14)) (m + 14) .iastore (.int (ii z)) (ii k) X d mid pc L st (mm M0 m S) Q = XX X d mid (pc, L, st, mm M0 m (S.1, uA S.2 13 (up (S.2 13) k z))) Q := mm_wx (j := 13) (S' := (S.1, uA S.2 13 (up (S.2 13) k z))) (by decide) rfl rfl rfl (by omega)
theorem ma_14 (h : 0 ≤ k ∧ k < 200) : ya ((mm M0 m S).2.2 (m + 15)) .iaload (ii k) X d mid pc L st (mm M0 m S) Q = XX X d mid (pc, L, .int (ii (S.2 14 k)) :: st, mm M0 m S) Q := by rw [mm_a (j := 14) (by decide) rfl, ya_I (by omega)]
theorem mw_14 (h : 0 ≤ k ∧ k < 200) : yw ((mm M0 m S).2.2 (m + 15)) (m + 15) .iastore (.int (ii z)) (ii k) X d mid pc L st (mm M0 m S) Q = XX X d mid (pc, L, st, mm M0 m (S.1, uA S.2 14 (up (S.2 14) k z))) Q := mm_wx (j := 14) (S' := (S.1, uA S.2 14 (up (S.2 14) k z))) (by decide) rfl rfl rfl (by omega)
theorem ma_15 (h : 0 ≤ k ∧ k < 8200) : ya ((mm M0 m S).2.2 (m + 16)) .baload (ii k) X d mid pc L st (mm M0 m S) Q = XX X d mid (pc, L, .int (ii (S.2 15 k)) :: st, mm M0 m S) Q := by rw [mm_a (j := 15) (by decide) rfl, ya_B (by omega)]
theorem mw_15 (h : 0 ≤ k ∧ k < 8200) (hz : z = 0 ∨ z = 1) : yw ((mm M0 m S).2.2 (m + 16)) (m + 16) .bastore (.int (ii z)) (ii k) X d mid pc L st (mm M0 m S) Q = XX X d mid (pc, L, st, mm M0 m (S.1, uA S.2 15 (up (S.2 15) k z))) Q := mm_wxB (j := 15) (S' := (S.1, uA S.2 15 (up (S.2 15) k z))) (by decide) rfl rfl rfl (by omega) hz
theorem ma_16 (h : 0 ≤ k ∧ k < 10) : ya ((mm M0 m S).2.2 (m + 17)) .iaload (ii k) X d mid pc L st (mm M0 m S) Q = XX X d mid (pc, L, .int (ii (S.2 16 k)) :: st, mm M0 m S) Q := by rw [mm_a (j := 16) (by decide) rfl, ya_I (by omega)]
theorem mw_16 (h : 0 ≤ k ∧ k < 10) : yw ((mm M0 m S).2.2 (m + 17)) (m + 17) .iastore (.int (ii z)) (ii k) X d mid pc L st (mm M0 m S) Q = XX X d mid (pc, L, st, mm M0 m (S.1, uA S.2 16 (up (S.2 16) k z))) Q := mm_wx (j := 16) (S' := (S.1, uA S.2 16 (up (S.2 16) k z))) (by decide) rfl rfl rfl (by omega)
theorem ma_17 (h : 0 ≤ k ∧ k < 9000) : ya ((mm M0 m S).2.2 (m + 18)) .iaload (ii k) X d mid pc L st (mm M0 m S) Q = XX X d mid (pc, L, .int (ii (S.2 17 k)) :: st, mm M0 m S) Q := by rw [mm_a (j := 17) (by decide) rfl, ya_I (by omega)]
theorem mw_17 (h : 0 ≤ k ∧ k < 9000) : yw ((mm M0 m S).2.2 (m + 18)) (m + 18) .iastore (.int (ii z)) (ii k) X d mid pc L st (mm M0 m S) Q = XX X d mid (pc, L, st, mm M0 m (S.1, uA S.2 17 (up (S.2 17) k z))) Q := mm_wx (j := 17) (S' := (S.1, uA S.2 17 (up (S.2 17) k z))) (by decide) rfl rfl rfl (by omega)
theorem ma_18 (h : 0 ≤ k ∧ k < 9000) : ya ((mm M0 m S).2.2 (m + 19)) .iaload (ii k) X d mid pc L st (mm M0 m S) Q = XX X d mid (pc, L, .int (ii (S.2 18 k)) :: st, mm M0 m S) Q := by rw [mm_a (j := 18) (by decide) rfl, ya_I (by omega)]
theorem mw_18 (h : 0 ≤ k ∧ k < 9000) : yw ((mm M0 m S).2.2 (m + 19)) (m + 19) .iastore (.int (ii z)) (ii k) X d mid pc L st (mm M0 m S) Q = XX X d mid (pc, L, st, mm M0 m (S.1, uA S.2 18 (up (S.2 18) k z))) Q := mm_wx (j := 18) (S' := (S.1, uA S.2 18 (up (S.2 18) k z))) (by decide) rfl rfl rfl (by omega)
theorem ma_19 (h : 0 ≤ k ∧ k < 42) : ya ((mm M0 m S).2.2 (m + 20)) .iaload (ii k) X d mid pc L st (mm M0 m S) Q = XX X d mid (pc, L, .int (ii (S.2 19 k)) :: st, mm M0 m S) Q := by rw [mm_a (j := 19) (by decide) rfl, ya_I (by omega)]
theorem mw_19 (h : 0 ≤ k ∧ k < 42) : yw ((mm M0 m S).2.2 (m + 20)) (m + 20) .iastore (.int (ii z)) (ii k) X d mid pc L st (mm M0 m S) Q = XX X d mid (pc, L, st, mm M0 m (S.1, uA S.2 19 (up (S.2 19) k z))) Q := mm_wx (j := 19) (S' := (S.1, uA S.2 19 (up (S.2 19) k z))) (by decide) rfl rfl rfl (by omega)
theorem ma_20 (h : 0 ≤ k ∧ k < 42) : ya ((mm M0 m S).2.2 (m + 21)) .iaload (ii k) X d mid pc L st (mm M0 m S) Q = XX X d mid (pc, L, .int (ii (S.2 20 k)) :: st, mm M0 m S) Q := by rw [mm_a (j := 20) (by decide) rfl, ya_I (by omega)]
theorem mw_20 (h : 0 ≤ k ∧ k < 42) : yw ((mm M0 m S).2.2 (m + 21)) (m + 21) .iastore (.int (ii z)) (ii k) X d mid pc L st (mm M0 m S) Q = XX X d mid (pc, L, st, mm M0 m (S.1, uA S.2 20 (up (S.2 20) k z))) Q := mm_wx (j := 20) (S' := (S.1, uA S.2 20 (up (S.2 20) k z))) (by decide) rfl rfl rfl (by omega)
theorem ma_21 (h : 0 ≤ k ∧ k < 90) : ya ((mm M0 m S).2.2 (m + 22)) .iaload (ii k) X d mid pc L st (mm M0 m S) Q = XX X d mid (pc, L, .int (ii (S.2 21 k)) :: st, mm M0 m S) Q := by rw [mm_a (j := 21) (by decide) rfl, ya_I (by omega)]
theorem mw_21 (h : 0 ≤ k ∧ k < 90) : yw ((mm M0 m S).2.2 (m + 22)) (m + 22) .iastore (.int (ii z)) (ii k) X d mid pc L st (mm M0 m S) Q = XX X d mid (pc, L, st, mm M0 m (S.1, uA S.2 21 (up (S.2 21) k z))) Q := mm_wx (j := 21) (S' := (S.1, uA S.2 21 (up (S.2 21) k z))) (by decide) rfl rfl rfl (by omega)
theorem ma_22 (h : 0 ≤ k ∧ k < 4) : ya ((mm M0 m S).2.2 (m + 23)) .iaload (ii k) X d mid pc L st (mm M0 m S) Q = XX X d mid (pc, L, .int (ii (S.2 22 k)) :: st, mm M0 m S) Q := by rw [mm_a (j := 22) (by decide) rfl, ya_I (by omega)]
theorem mw_22 (h : 0 ≤ k ∧ k < 4) : yw ((mm M0 m S).2.2 (m + 23)) (m + 23) .iastore (.int (ii z)) (ii k) X d mid pc L st (mm M0 m S) Q = XX X d mid (pc, L, st, mm M0 m (S.1, uA S.2 22 (up (S.2 22) k z))) Q := mm_wx (j := 22) (S' := (S.1, uA S.2 22 (up (S.2 22) k z))) (by decide) rfl rfl rfl (by omega)
end MM
