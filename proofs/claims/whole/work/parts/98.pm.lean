/-! the memory of the class's reader (printed by wip/whole/genp.py) -/
abbrev RS : Type := (Nat → Int) × (Nat → Int → Int) × (Nat → Nat → Int) × (Nat → Nat) × Nat × Nat
def uL (s : Nat → Nat → Int) (k : Nat) (c : Nat → Int) : Nat → Nat → Int := fun j => if j = k then c else s j
theorem uL_s {s : Nat → Nat → Int} {k : Nat} {z : Nat → Int} : uL s k z k = z := if_pos rfl
theorem uL_n {s : Nat → Nat → Int} {k j : Nat} {z : Nat → Int} (h : j ≠ k) : uL s k z j = s j := if_neg h
theorem uL_uL {s : Nat → Nat → Int} {k : Nat} {z y : Nat → Int} : uL (uL s k z) k y = uL s k y := by
  funext j
  unfold uL
  by_cases h : j = k
  · rw [if_pos h, if_pos h]
  · rw [if_neg h, if_neg h, if_neg h]
def pel (s r : Nat) (P : RS) : List JE := [.inr (5, [.ref s, .ref (r + 1), .ref (r + 10 + P.2.2.2.2.2), .int (ii (P.1 10)), .int (ii (P.1 11)), .int (ii (P.1 12)), .int (ii (P.1 13))]), .inr (4, [.ref (r + 2), .ref (r + 4), .ref (r + 6), .ref (r + 8), .int (ii (P.1 14)), .int (ii (P.1 15)), .int (ii (P.1 16))]), rwo (r + 2) (P.1 2), AI 30 (P.2.1 2), rwo (r + 4) (P.1 4), AI 64 (P.2.1 4), rwo (r + 6) (P.1 6), AI 64 (P.2.1 6), rwo (r + 8) (P.1 8), AI 64 (P.2.1 8)]
def lvl (r : Nat) (P : RS) (j : Nat) : List Value := [(if j = 0 then .null else .ref (r + 10 + P.2.2.2.1 j)), .int (ii j), .int (ii (P.2.2.1 j 2)), .int (ii (P.2.2.1 j 3)), .int (ii (P.2.2.1 j 4)), .int (ii (P.2.2.1 j 5)), .int (ii (P.2.2.1 j 6)), .int (ii (P.2.2.1 j 7)), .int (ii (P.2.2.1 j 8)), .int (ii (P.2.2.1 j 9)), .int (ii (P.2.2.1 j 10)), .int (ii (P.2.2.1 j 11))]
def pm (M : JM) (s r : Nat) (P : RS) : JM := (r + 10 + P.2.2.2.2.1, M.2.1 + 244 + 12 * P.2.2.2.2.1, fun b => if r ≤ b ∧ b < r + 10 then (pel s r P)[b - r]? else if r + 10 ≤ b ∧ b < r + 10 + P.2.2.2.2.1 then some (.inr (3, lvl r P (b - (r + 10)))) else M.2.2 b)
section PMM
variable {M : JM} {s r : Nat} {P P' : RS} {X : JX} {d mid pc : Nat} {L : List (Option Value)} {st : List Value} {Q : JR → JM → Prop} {k z v : Int}
theorem pm_1 : (pm M s r P).1 = r + 10 + P.2.2.2.2.1 := rfl
theorem pm_21 : (pm M s r P).2.1 = M.2.1 + 244 + 12 * P.2.2.2.2.1 := rfl
theorem pm_at {j : Nat} {e : JE} (hj : j < 10) (h : (pel s r P)[j]? = some e) : (pm M s r P).2.2 (r + j) = some e := by
  unfold pm
  simp only
  rw [if_pos (by omega), show r + j - r = j by omega, h]
theorem pm_lv {j : Nat} (hj : j < P.2.2.2.2.1) : (pm M s r P).2.2 (r + 10 + j) = some (.inr (3, lvl r P j)) := by
  unfold pm
  simp only
  rw [if_neg (by omega), if_pos (by omega), show r + 10 + j - (r + 10) = j by omega]
theorem pm_ne {b : Nat} (h : b < r ∨ r + 10 + P.2.2.2.2.1 ≤ b) : (pm M s r P).2.2 b = M.2.2 b := by
  unfold pm
  simp only
  rw [if_neg (by omega), if_neg (by omega)]
theorem pm_set {j : Nat} {e : JE} (hj : j < 10) (h : pel s r P' = (pel s r P).set j e) (h2 : lvl r P' = lvl r P) (h3 : P'.2.2.2.2.1 = P.2.2.2.2.1) : mset (pm M s r P) (r + j) e = pm M s r P' := by
  unfold mset pm
  rw [h, h2, h3]
  simp only
  congr 2
  funext b
  by_cases hb : b = r + j
  · subst hb
    rw [va_up_self, if_pos (by omega), show r + j - r = j by omega, List.getElem?_set_self hj]
  · rw [va_up_ne _ _ hb]
    by_cases hb3 : r ≤ b ∧ b < r + 10
    · rw [if_pos hb3, if_pos hb3, List.getElem?_set_ne (by omega)]
    · rw [if_neg hb3, if_neg hb3]
theorem pm_sx {j n ci : Nat} {fs : List Value} {v : Value} (hj : j < 10) (h : (pel s r P)[j]? = some (.inr (ci, fs))) (hn : n < fs.length) (ht : fOk (clTy ci n) v = true) (hC : pel s r P' = (pel s r P).set j (.inr (ci, fs.set n v))) (h2 : lvl r P' = lvl r P) (h3 : P'.2.2.2.2.1 = P.2.2.2.2.1) : yp ((pm M s r P).2.2 (r + j)) (r + j) ci n v X d mid pc L st (pm M s r P) Q = XX X d mid (pc, L, st, pm M s r P') Q := by
  rw [pm_at hj h, yp_s hn ht, pm_set hj hC h2 h3]
theorem pm_ls {j n : Nat} {v : Value} (hj : j < P.2.2.2.2.1) (hn : n < 12) (ht : fOk (clTy 3 n) v = true) (h : lvl r P' j = (lvl r P j).set n v) (h1 : pel s r P' = pel s r P) (h2 : ∀ i, i ≠ j → lvl r P' i = lvl r P i) (h3 : P'.2.2.2.2.1 = P.2.2.2.2.1) : yp ((pm M s r P).2.2 (r + 10 + j)) (r + 10 + j) 3 n v X d mid pc L st (pm M s r P) Q = XX X d mid (pc, L, st, pm M s r P') Q := by
  rw [pm_lv hj, yp_s hn ht]
  refine congrArg (fun m => XX X d mid (pc, L, st, m) Q) ?_
  unfold mset pm
  rw [h1, h3]
  simp only
  congr 2
  funext b
  by_cases hb : b = r + 10 + j
  · subst hb
    rw [va_up_self, if_neg (by omega), if_pos (by omega), show r + 10 + j - (r + 10) = j by omega, h]
  · rw [va_up_ne _ _ hb]
    by_cases hb3 : r ≤ b ∧ b < r + 10
    · rw [if_pos hb3, if_pos hb3]
    · rw [if_neg hb3, if_neg hb3]
      by_cases hb4 : r + 10 ≤ b ∧ b < r + 10 + P.2.2.2.2.1
      · rw [if_pos hb4, if_pos hb4, h2 _ (by omega)]
      · rw [if_neg hb4, if_neg hb4]
theorem pc_L {j : Nat} (h : j < P.2.2.2.2.1) : mcl (pm M s r P) (r + 10 + j) = some 3 := by unfold mcl; rw [pm_lv h]
theorem pc_0 : mcl (pm M s r P) r = some 5 := by unfold mcl; rw [show (pm M s r P).2.2 r = _ from pm_at (j := 0) (by decide) rfl]
theorem pf_0_0 : yg ((pm M s r P).2.2 r) 5 0 X d mid pc L st (pm M s r P) Q = XX X d mid (pc, L, (.ref s) :: st, pm M s r P) Q := by rw [show (pm M s r P).2.2 r = _ from pm_at (j := 0) (by decide) rfl]; exact yg_s rfl
theorem pf_0_1 : yg ((pm M s r P).2.2 r) 5 1 X d mid pc L st (pm M s r P) Q = XX X d mid (pc, L, (.ref (r + 1)) :: st, pm M s r P) Q := by rw [show (pm M s r P).2.2 r = _ from pm_at (j := 0) (by decide) rfl]; exact yg_s rfl
theorem pf_0_2 : yg ((pm M s r P).2.2 r) 5 2 X d mid pc L st (pm M s r P) Q = XX X d mid (pc, L, (.ref (r + 10 + P.2.2.2.2.2)) :: st, pm M s r P) Q := by rw [show (pm M s r P).2.2 r = _ from pm_at (j := 0) (by decide) rfl]; exact yg_s rfl
theorem pf_0_3 : yg ((pm M s r P).2.2 r) 5 3 X d mid pc L st (pm M s r P) Q = XX X d mid (pc, L, (.int (ii (P.1 10))) :: st, pm M s r P) Q := by rw [show (pm M s r P).2.2 r = _ from pm_at (j := 0) (by decide) rfl]; exact yg_s rfl
theorem pf_0_4 : yg ((pm M s r P).2.2 r) 5 4 X d mid pc L st (pm M s r P) Q = XX X d mid (pc, L, (.int (ii (P.1 11))) :: st, pm M s r P) Q := by rw [show (pm M s r P).2.2 r = _ from pm_at (j := 0) (by decide) rfl]; exact yg_s rfl
theorem pf_0_5 : yg ((pm M s r P).2.2 r) 5 5 X d mid pc L st (pm M s r P) Q = XX X d mid (pc, L, (.int (ii (P.1 12))) :: st, pm M s r P) Q := by rw [show (pm M s r P).2.2 r = _ from pm_at (j := 0) (by decide) rfl]; exact yg_s rfl
theorem pf_0_6 : yg ((pm M s r P).2.2 r) 5 6 X d mid pc L st (pm M s r P) Q = XX X d mid (pc, L, (.int (ii (P.1 13))) :: st, pm M s r P) Q := by rw [show (pm M s r P).2.2 r = _ from pm_at (j := 0) (by decide) rfl]; exact yg_s rfl
theorem ps_0_3 : yp ((pm M s r P).2.2 r) r 5 3 (.int (ii z)) X d mid pc L st (pm M s r P) Q = XX X d mid (pc, L, st, pm M s r (uN P.1 10 z, P.2)) Q := pm_sx (j := 0) (fs := [.ref s, .ref (r + 1), .ref (r + 10 + P.2.2.2.2.2), .int (ii (P.1 10)), .int (ii (P.1 11)), .int (ii (P.1 12)), .int (ii (P.1 13))]) (P' := (uN P.1 10 z, P.2)) (by decide) rfl (by show 3 < 7; omega) rfl rfl rfl rfl
theorem ps_0_4 : yp ((pm M s r P).2.2 r) r 5 4 (.int (ii z)) X d mid pc L st (pm M s r P) Q = XX X d mid (pc, L, st, pm M s r (uN P.1 11 z, P.2)) Q := pm_sx (j := 0) (fs := [.ref s, .ref (r + 1), .ref (r + 10 + P.2.2.2.2.2), .int (ii (P.1 10)), .int (ii (P.1 11)), .int (ii (P.1 12)), .int (ii (P.1 13))]) (P' := (uN P.1 11 z, P.2)) (by decide) rfl (by show 4 < 7; omega) rfl rfl rfl rfl
theorem ps_0_5 (hz : z = 0 ∨ z = 1) : yp ((pm M s r P).2.2 r) r 5 5 (.int (ii z)) X d mid pc L st (pm M s r P) Q = XX X d mid (pc, L, st, pm M s r (uN P.1 12 z, P.2)) Q := pm_sx (j := 0) (fs := [.ref s, .ref (r + 1), .ref (r + 10 + P.2.2.2.2.2), .int (ii (P.1 10)), .int (ii (P.1 11)), .int (ii (P.1 12)), .int (ii (P.1 13))]) (P' := (uN P.1 12 z, P.2)) (by decide) rfl (by show 5 < 7; omega) (bz_ok hz) rfl rfl rfl
theorem ps_0_6 : yp ((pm M s r P).2.2 r) r 5 6 (.int (ii z)) X d mid pc L st (pm M s r P) Q = XX X d mid (pc, L, st, pm M s r (uN P.1 13 z, P.2)) Q := pm_sx (j := 0) (fs := [.ref s, .ref (r + 1), .ref (r + 10 + P.2.2.2.2.2), .int (ii (P.1 10)), .int (ii (P.1 11)), .int (ii (P.1 12)), .int (ii (P.1 13))]) (P' := (uN P.1 13 z, P.2)) (by decide) rfl (by show 6 < 7; omega) rfl rfl rfl rfl
theorem pc_1 : mcl (pm M s r P) (r + 1) = some 4 := by unfold mcl; rw [show (pm M s r P).2.2 (r + 1) = _ from pm_at (j := 1) (by decide) rfl]
theorem pf_1_0 : yg ((pm M s r P).2.2 (r + 1)) 4 0 X d mid pc L st (pm M s r P) Q = XX X d mid (pc, L, (.ref (r + 2)) :: st, pm M s r P) Q := by rw [show (pm M s r P).2.2 (r + 1) = _ from pm_at (j := 1) (by decide) rfl]; exact yg_s rfl
theorem pf_1_1 : yg ((pm M s r P).2.2 (r + 1)) 4 1 X d mid pc L st (pm M s r P) Q = XX X d mid (pc, L, (.ref (r + 4)) :: st, pm M s r P) Q := by rw [show (pm M s r P).2.2 (r + 1) = _ from pm_at (j := 1) (by decide) rfl]; exact yg_s rfl
theorem pf_1_2 : yg ((pm M s r P).2.2 (r + 1)) 4 2 X d mid pc L st (pm M s r P) Q = XX X d mid (pc, L, (.ref (r + 6)) :: st, pm M s r P) Q := by rw [show (pm M s r P).2.2 (r + 1) = _ from pm_at (j := 1) (by decide) rfl]; exact yg_s rfl
theorem pf_1_3 : yg ((pm M s r P).2.2 (r + 1)) 4 3 X d mid pc L st (pm M s r P) Q = XX X d mid (pc, L, (.ref (r + 8)) :: st, pm M s r P) Q := by rw [show (pm M s r P).2.2 (r + 1) = _ from pm_at (j := 1) (by decide) rfl]; exact yg_s rfl
theorem pf_1_4 : yg ((pm M s r P).2.2 (r + 1)) 4 4 X d mid pc L st (pm M s r P) Q = XX X d mid (pc, L, (.int (ii (P.1 14))) :: st, pm M s r P) Q := by rw [show (pm M s r P).2.2 (r + 1) = _ from pm_at (j := 1) (by decide) rfl]; exact yg_s rfl
theorem pf_1_5 : yg ((pm M s r P).2.2 (r + 1)) 4 5 X d mid pc L st (pm M s r P) Q = XX X d mid (pc, L, (.int (ii (P.1 15))) :: st, pm M s r P) Q := by rw [show (pm M s r P).2.2 (r + 1) = _ from pm_at (j := 1) (by decide) rfl]; exact yg_s rfl
theorem pf_1_6 : yg ((pm M s r P).2.2 (r + 1)) 4 6 X d mid pc L st (pm M s r P) Q = XX X d mid (pc, L, (.int (ii (P.1 16))) :: st, pm M s r P) Q := by rw [show (pm M s r P).2.2 (r + 1) = _ from pm_at (j := 1) (by decide) rfl]; exact yg_s rfl
theorem ps_1_4 : yp ((pm M s r P).2.2 (r + 1)) (r + 1) 4 4 (.int (ii z)) X d mid pc L st (pm M s r P) Q = XX X d mid (pc, L, st, pm M s r (uN P.1 14 z, P.2)) Q := pm_sx (j := 1) (fs := [.ref (r + 2), .ref (r + 4), .ref (r + 6), .ref (r + 8), .int (ii (P.1 14)), .int (ii (P.1 15)), .int (ii (P.1 16))]) (P' := (uN P.1 14 z, P.2)) (by decide) rfl (by show 4 < 7; omega) rfl rfl rfl rfl
theorem ps_1_5 : yp ((pm M s r P).2.2 (r + 1)) (r + 1) 4 5 (.int (ii z)) X d mid pc L st (pm M s r P) Q = XX X d mid (pc, L, st, pm M s r (uN P.1 15 z, P.2)) Q := pm_sx (j := 1) (fs := [.ref (r + 2), .ref (r + 4), .ref (r + 6), .ref (r + 8), .int (ii (P.1 14)), .int (ii (P.1 15)), .int (ii (P.1 16))]) (P' := (uN P.1 15 z, P.2)) (by decide) rfl (by show 5 < 7; omega) rfl rfl rfl rfl
theorem ps_1_6 : yp ((pm M s r P).2.2 (r + 1)) (r + 1) 4 6 (.int (ii z)) X d mid pc L st (pm M s r P) Q = XX X d mid (pc, L, st, pm M s r (uN P.1 16 z, P.2)) Q := pm_sx (j := 1) (fs := [.ref (r + 2), .ref (r + 4), .ref (r + 6), .ref (r + 8), .int (ii (P.1 14)), .int (ii (P.1 15)), .int (ii (P.1 16))]) (P' := (uN P.1 16 z, P.2)) (by decide) rfl (by show 6 < 7; omega) rfl rfl rfl rfl
theorem ps_0_2 {j : Nat} : yp ((pm M s r P).2.2 r) r 5 2 (.ref (r + 10 + j)) X d mid pc L st (pm M s r P) Q = XX X d mid (pc, L, st, pm M s r (P.1, P.2.1, P.2.2.1, P.2.2.2.1, P.2.2.2.2.1, j)) Q := pm_sx (j := 0) (fs := [.ref s, .ref (r + 1), .ref (r + 10 + P.2.2.2.2.2), .int (ii (P.1 10)), .int (ii (P.1 11)), .int (ii (P.1 12)), .int (ii (P.1 13))]) (P' := (P.1, P.2.1, P.2.2.1, P.2.2.2.1, P.2.2.2.2.1, j)) (by decide) rfl (by show 2 < 7; omega) rfl rfl rfl rfl
theorem pl_0 {j : Nat} (h : j < P.2.2.2.2.1) : yg ((pm M s r P).2.2 (r + 10 + j)) 3 0 X d mid pc L st (pm M s r P) Q = XX X d mid (pc, L, ((if j = 0 then .null else .ref (r + 10 + P.2.2.2.1 j))) :: st, pm M s r P) Q := by rw [pm_lv h]; exact yg_s rfl
theorem pl_1 {j : Nat} (h : j < P.2.2.2.2.1) : yg ((pm M s r P).2.2 (r + 10 + j)) 3 1 X d mid pc L st (pm M s r P) Q = XX X d mid (pc, L, (.int (ii j)) :: st, pm M s r P) Q := by rw [pm_lv h]; exact yg_s rfl
theorem pl_2 {j : Nat} (h : j < P.2.2.2.2.1) : yg ((pm M s r P).2.2 (r + 10 + j)) 3 2 X d mid pc L st (pm M s r P) Q = XX X d mid (pc, L, (.int (ii (P.2.2.1 j 2))) :: st, pm M s r P) Q := by rw [pm_lv h]; exact yg_s rfl
theorem pl_3 {j : Nat} (h : j < P.2.2.2.2.1) : yg ((pm M s r P).2.2 (r + 10 + j)) 3 3 X d mid pc L st (pm M s r P) Q = XX X d mid (pc, L, (.int (ii (P.2.2.1 j 3))) :: st, pm M s r P) Q := by rw [pm_lv h]; exact yg_s rfl
theorem pl_4 {j : Nat} (h : j < P.2.2.2.2.1) : yg ((pm M s r P).2.2 (r + 10 + j)) 3 4 X d mid pc L st (pm M s r P) Q = XX X d mid (pc, L, (.int (ii (P.2.2.1 j 4))) :: st, pm M s r P) Q := by rw [pm_lv h]; exact yg_s rfl
theorem pl_5 {j : Nat} (h : j < P.2.2.2.2.1) : yg ((pm M s r P).2.2 (r + 10 + j)) 3 5 X d mid pc L st (pm M s r P) Q = XX X d mid (pc, L, (.int (ii (P.2.2.1 j 5))) :: st, pm M s r P) Q := by rw [pm_lv h]; exact yg_s rfl
theorem pl_6 {j : Nat} (h : j < P.2.2.2.2.1) : yg ((pm M s r P).2.2 (r + 10 + j)) 3 6 X d mid pc L st (pm M s r P) Q = XX X d mid (pc, L, (.int (ii (P.2.2.1 j 6))) :: st, pm M s r P) Q := by rw [pm_lv h]; exact yg_s rfl
theorem pl_7 {j : Nat} (h : j < P.2.2.2.2.1) : yg ((pm M s r P).2.2 (r + 10 + j)) 3 7 X d mid pc L st (pm M s r P) Q = XX X d mid (pc, L, (.int (ii (P.2.2.1 j 7))) :: st, pm M s r P) Q := by rw [pm_lv h]; exact yg_s rfl
theorem pl_8 {j : Nat} (h : j < P.2.2.2.2.1) : yg ((pm M s r P).2.2 (r + 10 + j)) 3 8 X d mid pc L st (pm M s r P) Q = XX X d mid (pc, L, (.int (ii (P.2.2.1 j 8))) :: st, pm M s r P) Q := by rw [pm_lv h]; exact yg_s rfl
theorem pl_9 {j : Nat} (h : j < P.2.2.2.2.1) : yg ((pm M s r P).2.2 (r + 10 + j)) 3 9 X d mid pc L st (pm M s r P) Q = XX X d mid (pc, L, (.int (ii (P.2.2.1 j 9))) :: st, pm M s r P) Q := by rw [pm_lv h]; exact yg_s rfl
theorem pl_10 {j : Nat} (h : j < P.2.2.2.2.1) : yg ((pm M s r P).2.2 (r + 10 + j)) 3 10 X d mid pc L st (pm M s r P) Q = XX X d mid (pc, L, (.int (ii (P.2.2.1 j 10))) :: st, pm M s r P) Q := by rw [pm_lv h]; exact yg_s rfl
theorem pl_11 {j : Nat} (h : j < P.2.2.2.2.1) : yg ((pm M s r P).2.2 (r + 10 + j)) 3 11 X d mid pc L st (pm M s r P) Q = XX X d mid (pc, L, (.int (ii (P.2.2.1 j 11))) :: st, pm M s r P) Q := by rw [pm_lv h]; exact yg_s rfl
theorem pl_s3 {j : Nat} (h : j < P.2.2.2.2.1) : yp ((pm M s r P).2.2 (r + 10 + j)) (r + 10 + j) 3 3 (.int (ii z)) X d mid pc L st (pm M s r P) Q = XX X d mid (pc, L, st, pm M s r (P.1, P.2.1, uL P.2.2.1 j (uN (P.2.2.1 j) 3 z), P.2.2.2)) Q := pm_ls (P' := (P.1, P.2.1, uL P.2.2.1 j (uN (P.2.2.1 j) 3 z), P.2.2.2)) h (by omega) rfl (by unfold lvl; simp only [uL_s, List.set, uN, Nat.reduceEqDiff, if_true, if_false, reduceIte]) rfl (fun i hi => by unfold lvl; simp only [uL_n hi]) rfl
theorem pl_s4 {j : Nat} (h : j < P.2.2.2.2.1) (hz : z = 0 ∨ z = 1) : yp ((pm M s r P).2.2 (r + 10 + j)) (r + 10 + j) 3 4 (.int (ii z)) X d mid pc L st (pm M s r P) Q = XX X d mid (pc, L, st, pm M s r (P.1, P.2.1, uL P.2.2.1 j (uN (P.2.2.1 j) 4 z), P.2.2.2)) Q := pm_ls (P' := (P.1, P.2.1, uL P.2.2.1 j (uN (P.2.2.1 j) 4 z), P.2.2.2)) h (by omega) (bz_ok hz) (by unfold lvl; simp only [uL_s, List.set, uN, Nat.reduceEqDiff, if_true, if_false, reduceIte]) rfl (fun i hi => by unfold lvl; simp only [uL_n hi]) rfl
theorem pl_s5 {j : Nat} (h : j < P.2.2.2.2.1) : yp ((pm M s r P).2.2 (r + 10 + j)) (r + 10 + j) 3 5 (.int (ii z)) X d mid pc L st (pm M s r P) Q = XX X d mid (pc, L, st, pm M s r (P.1, P.2.1, uL P.2.2.1 j (uN (P.2.2.1 j) 5 z), P.2.2.2)) Q := pm_ls (P' := (P.1, P.2.1, uL P.2.2.1 j (uN (P.2.2.1 j) 5 z), P.2.2.2)) h (by omega) rfl (by unfold lvl; simp only [uL_s, List.set, uN, Nat.reduceEqDiff, if_true, if_false, reduceIte]) rfl (fun i hi => by unfold lvl; simp only [uL_n hi]) rfl
theorem pl_s6 {j : Nat} (h : j < P.2.2.2.2.1) : yp ((pm M s r P).2.2 (r + 10 + j)) (r + 10 + j) 3 6 (.int (ii z)) X d mid pc L st (pm M s r P) Q = XX X d mid (pc, L, st, pm M s r (P.1, P.2.1, uL P.2.2.1 j (uN (P.2.2.1 j) 6 z), P.2.2.2)) Q := pm_ls (P' := (P.1, P.2.1, uL P.2.2.1 j (uN (P.2.2.1 j) 6 z), P.2.2.2)) h (by omega) rfl (by unfold lvl; simp only [uL_s, List.set, uN, Nat.reduceEqDiff, if_true, if_false, reduceIte]) rfl (fun i hi => by unfold lvl; simp only [uL_n hi]) rfl
theorem pl_s7 {j : Nat} (h : j < P.2.2.2.2.1) : yp ((pm M s r P).2.2 (r + 10 + j)) (r + 10 + j) 3 7 (.int (ii z)) X d mid pc L st (pm M s r P) Q = XX X d mid (pc, L, st, pm M s r (P.1, P.2.1, uL P.2.2.1 j (uN (P.2.2.1 j) 7 z), P.2.2.2)) Q := pm_ls (P' := (P.1, P.2.1, uL P.2.2.1 j (uN (P.2.2.1 j) 7 z), P.2.2.2)) h (by omega) rfl (by unfold lvl; simp only [uL_s, List.set, uN, Nat.reduceEqDiff, if_true, if_false, reduceIte]) rfl (fun i hi => by unfold lvl; simp only [uL_n hi]) rfl
theorem pl_s8 {j : Nat} (h : j < P.2.2.2.2.1) : yp ((pm M s r P).2.2 (r + 10 + j)) (r + 10 + j) 3 8 (.int (ii z)) X d mid pc L st (pm M s r P) Q = XX X d mid (pc, L, st, pm M s r (P.1, P.2.1, uL P.2.2.1 j (uN (P.2.2.1 j) 8 z), P.2.2.2)) Q := pm_ls (P' := (P.1, P.2.1, uL P.2.2.1 j (uN (P.2.2.1 j) 8 z), P.2.2.2)) h (by omega) rfl (by unfold lvl; simp only [uL_s, List.set, uN, Nat.reduceEqDiff, if_true, if_false, reduceIte]) rfl (fun i hi => by unfold lvl; simp only [uL_n hi]) rfl
theorem pl_s9 {j : Nat} (h : j < P.2.2.2.2.1) : yp ((pm M s r P).2.2 (r + 10 + j)) (r + 10 + j) 3 9 (.int (ii z)) X d mid pc L st (pm M s r P) Q = XX X d mid (pc, L, st, pm M s r (P.1, P.2.1, uL P.2.2.1 j (uN (P.2.2.1 j) 9 z), P.2.2.2)) Q := pm_ls (P' := (P.1, P.2.1, uL P.2.2.1 j (uN (P.2.2.1 j) 9 z), P.2.2.2)) h (by omega) rfl (by unfold lvl; simp only [uL_s, List.set, uN, Nat.reduceEqDiff, if_true, if_false, reduceIte]) rfl (fun i hi => by unfold lvl; simp only [uL_n hi]) rfl
theorem pl_s10 {j : Nat} (h : j < P.2.2.2.2.1) : yp ((pm M s r P).2.2 (r + 10 + j)) (r + 10 + j) 3 10 (.int (ii z)) X d mid pc L st (pm M s r P) Q = XX X d mid (pc, L, st, pm M s r (P.1, P.2.1, uL P.2.2.1 j (uN (P.2.2.1 j) 10 z), P.2.2.2)) Q := pm_ls (P' := (P.1, P.2.1, uL P.2.2.1 j (uN (P.2.2.1 j) 10 z), P.2.2.2)) h (by omega) rfl (by unfold lvl; simp only [uL_s, List.set, uN, Nat.reduceEqDiff, if_true, if_false, reduceIte]) rfl (fun i hi => by unfold lvl; simp only [uL_n hi]) rfl
theorem pl_s11 {j : Nat} (h : j < P.2.2.2.2.1) : yp ((pm M s r P).2.2 (r + 10 + j)) (r + 10 + j) 3 11 (.int (ii z)) X d mid pc L st (pm M s r P) Q = XX X d mid (pc, L, st, pm M s r (P.1, P.2.1, uL P.2.2.1 j (uN (P.2.2.1 j) 11 z), P.2.2.2)) Q := pm_ls (P' := (P.1, P.2.1, uL P.2.2.1 j (uN (P.2.2.1 j) 11 z), P.2.2.2)) h (by omega) rfl (by unfold lvl; simp only [uL_s, List.set, uN, Nat.reduceEqDiff, if_true, if_false, reduceIte]) rfl (fun i hi => by unfold lvl; simp only [uL_n hi]) rfl
theorem pr_2 (h : 0 ≤ P.1 2 ∧ P.1 2 ≤ 30) : RW (pm M s r P) (r + 2) 30 (P.1 2) (P.2.1 2) := ⟨pm_at (j := 2) (by decide) rfl, pm_at (j := 3) (by decide) rfl, by decide, h.1, h.2⟩
theorem pw_2 {z : Int} {c : Int → Int} : rset (pm M s r P) (r + 2) 30 z c = pm M s r (uN P.1 2 z, uA P.2.1 2 c, P.2.2) := by unfold rset; rw [show mset (pm M s r P) (r + 2 + 1) (AI 30 c) = _ from pm_set (j := 3) (P' := (P.1, uA P.2.1 2 c, P.2.2)) (by decide) rfl rfl rfl]; exact pm_set (j := 2) (P' := (uN P.1 2 z, uA P.2.1 2 c, P.2.2)) (by decide) rfl rfl rfl
theorem pc_2 : mcl (pm M s r P) (r + 2) = some 6 := by unfold mcl; rw [show (pm M s r P).2.2 (r + 2) = _ from pm_at (j := 2) (by decide) rfl]; rfl
theorem pr_4 (h : 0 ≤ P.1 4 ∧ P.1 4 ≤ 64) : RW (pm M s r P) (r + 4) 64 (P.1 4) (P.2.1 4) := ⟨pm_at (j := 4) (by decide) rfl, pm_at (j := 5) (by decide) rfl, by decide, h.1, h.2⟩
theorem pw_4 {z : Int} {c : Int → Int} : rset (pm M s r P) (r + 4) 64 z c = pm M s r (uN P.1 4 z, uA P.2.1 4 c, P.2.2) := by unfold rset; rw [show mset (pm M s r P) (r + 4 + 1) (AI 64 c) = _ from pm_set (j := 5) (P' := (P.1, uA P.2.1 4 c, P.2.2)) (by decide) rfl rfl rfl]; exact pm_set (j := 4) (P' := (uN P.1 4 z, uA P.2.1 4 c, P.2.2)) (by decide) rfl rfl rfl
theorem pc_4 : mcl (pm M s r P) (r + 4) = some 6 := by unfold mcl; rw [show (pm M s r P).2.2 (r + 4) = _ from pm_at (j := 4) (by decide) rfl]; rfl
theorem p4_size (h : 0 ≤ P.1 4 ∧ P.1 4 ≤ 64) : CC X d 58 [.ref (r + 4)] (pm M s r P) Q = Q (.inl (some (.int (ii (P.1 4))))) (pm M s r P) := R_size (pr_4 h)
theorem p4_at (h : 0 ≤ P.1 4 ∧ P.1 4 ≤ 64) (hk : 0 ≤ k ∧ k < P.1 4) : CC X d 61 [.ref (r + 4), .int (ii k)] (pm M s r P) Q = Q (.inl (some (.int (ii (P.2.1 4 k))))) (pm M s r P) := (R_at (pr_4 h) ⟨by omega, by omega⟩).trans (by rw [if_pos hk]; rfl)
theorem p4_put (h : 0 ≤ P.1 4 ∧ P.1 4 ≤ 64) (hk : 0 ≤ k ∧ k < P.1 4) : CC X d 62 [.ref (r + 4), .int (ii k), .int (ii v)] (pm M s r P) Q = Q (.inl (none)) (pm M s r (uN P.1 4 (P.1 4), uA P.2.1 4 (up (P.2.1 4) k v), P.2.2)) := (R_put (pr_4 h) hk).trans (by rw [pw_4])
theorem p4_add (h : 0 ≤ P.1 4 ∧ P.1 4 ≤ 64) (hk : P.1 4 < 64) : CC X d 63 [.ref (r + 4), .int (ii v)] (pm M s r P) Q = Q (.inl (none)) (pm M s r (uN P.1 4 (P.1 4 + 1), uA P.2.1 4 (up (P.2.1 4) (P.1 4) v), P.2.2)) := (R_add (pr_4 h) hk).trans (by rw [pw_4])
theorem p4_ins (h : 0 ≤ P.1 4 ∧ P.1 4 ≤ 64) (hk : 0 ≤ k ∧ k ≤ P.1 4) (hs : P.1 4 < 64) (hd : 4 ≤ d) : CC X d 65 [.ref (r + 4), .int (ii k), .int (ii v)] (pm M s r P) Q = Q (.inl (none)) (pm M s r (uN P.1 4 (P.1 4 + 1), uA P.2.1 4 (ins (P.2.1 4) (P.1 4) k v), P.2.2)) := (R_insert hd (pr_4 h) hk hs).trans (by rw [pw_4])
theorem pr_6 (h : 0 ≤ P.1 6 ∧ P.1 6 ≤ 64) : RW (pm M s r P) (r + 6) 64 (P.1 6) (P.2.1 6) := ⟨pm_at (j := 6) (by decide) rfl, pm_at (j := 7) (by decide) rfl, by decide, h.1, h.2⟩
theorem pw_6 {z : Int} {c : Int → Int} : rset (pm M s r P) (r + 6) 64 z c = pm M s r (uN P.1 6 z, uA P.2.1 6 c, P.2.2) := by unfold rset; rw [show mset (pm M s r P) (r + 6 + 1) (AI 64 c) = _ from pm_set (j := 7) (P' := (P.1, uA P.2.1 6 c, P.2.2)) (by decide) rfl rfl rfl]; exact pm_set (j := 6) (P' := (uN P.1 6 z, uA P.2.1 6 c, P.2.2)) (by decide) rfl rfl rfl
theorem pc_6 : mcl (pm M s r P) (r + 6) = some 6 := by unfold mcl; rw [show (pm M s r P).2.2 (r + 6) = _ from pm_at (j := 6) (by decide) rfl]; rfl
theorem p6_size (h : 0 ≤ P.1 6 ∧ P.1 6 ≤ 64) : CC X d 58 [.ref (r + 6)] (pm M s r P) Q = Q (.inl (some (.int (ii (P.1 6))))) (pm M s r P) := R_size (pr_6 h)
theorem p6_at (h : 0 ≤ P.1 6 ∧ P.1 6 ≤ 64) (hk : 0 ≤ k ∧ k < P.1 6) : CC X d 61 [.ref (r + 6), .int (ii k)] (pm M s r P) Q = Q (.inl (some (.int (ii (P.2.1 6 k))))) (pm M s r P) := (R_at (pr_6 h) ⟨by omega, by omega⟩).trans (by rw [if_pos hk]; rfl)
theorem p6_put (h : 0 ≤ P.1 6 ∧ P.1 6 ≤ 64) (hk : 0 ≤ k ∧ k < P.1 6) : CC X d 62 [.ref (r + 6), .int (ii k), .int (ii v)] (pm M s r P) Q = Q (.inl (none)) (pm M s r (uN P.1 6 (P.1 6), uA P.2.1 6 (up (P.2.1 6) k v), P.2.2)) := (R_put (pr_6 h) hk).trans (by rw [pw_6])
theorem p6_add (h : 0 ≤ P.1 6 ∧ P.1 6 ≤ 64) (hk : P.1 6 < 64) : CC X d 63 [.ref (r + 6), .int (ii v)] (pm M s r P) Q = Q (.inl (none)) (pm M s r (uN P.1 6 (P.1 6 + 1), uA P.2.1 6 (up (P.2.1 6) (P.1 6) v), P.2.2)) := (R_add (pr_6 h) hk).trans (by rw [pw_6])
theorem p6_ins (h : 0 ≤ P.1 6 ∧ P.1 6 ≤ 64) (hk : 0 ≤ k ∧ k ≤ P.1 6) (hs : P.1 6 < 64) (hd : 4 ≤ d) : CC X d 65 [.ref (r + 6), .int (ii k), .int (ii v)] (pm M s r P) Q = Q (.inl (none)) (pm M s r (uN P.1 6 (P.1 6 + 1), uA P.2.1 6 (ins (P.2.1 6) (P.1 6) k v), P.2.2)) := (R_insert hd (pr_6 h) hk hs).trans (by rw [pw_6])
theorem pr_8 (h : 0 ≤ P.1 8 ∧ P.1 8 ≤ 64) : RW (pm M s r P) (r + 8) 64 (P.1 8) (P.2.1 8) := ⟨pm_at (j := 8) (by decide) rfl, pm_at (j := 9) (by decide) rfl, by decide, h.1, h.2⟩
theorem pw_8 {z : Int} {c : Int → Int} : rset (pm M s r P) (r + 8) 64 z c = pm M s r (uN P.1 8 z, uA P.2.1 8 c, P.2.2) := by unfold rset; rw [show mset (pm M s r P) (r + 8 + 1) (AI 64 c) = _ from pm_set (j := 9) (P' := (P.1, uA P.2.1 8 c, P.2.2)) (by decide) rfl rfl rfl]; exact pm_set (j := 8) (P' := (uN P.1 8 z, uA P.2.1 8 c, P.2.2)) (by decide) rfl rfl rfl
theorem pc_8 : mcl (pm M s r P) (r + 8) = some 6 := by unfold mcl; rw [show (pm M s r P).2.2 (r + 8) = _ from pm_at (j := 8) (by decide) rfl]; rfl
theorem p8_size (h : 0 ≤ P.1 8 ∧ P.1 8 ≤ 64) : CC X d 58 [.ref (r + 8)] (pm M s r P) Q = Q (.inl (some (.int (ii (P.1 8))))) (pm M s r P) := R_size (pr_8 h)
theorem p8_at (h : 0 ≤ P.1 8 ∧ P.1 8 ≤ 64) (hk : 0 ≤ k ∧ k < P.1 8) : CC X d 61 [.ref (r + 8), .int (ii k)] (pm M s r P) Q = Q (.inl (some (.int (ii (P.2.1 8 k))))) (pm M s r P) := (R_at (pr_8 h) ⟨by omega, by omega⟩).trans (by rw [if_pos hk]; rfl)
theorem p8_put (h : 0 ≤ P.1 8 ∧ P.1 8 ≤ 64) (hk : 0 ≤ k ∧ k < P.1 8) : CC X d 62 [.ref (r + 8), .int (ii k), .int (ii v)] (pm M s r P) Q = Q (.inl (none)) (pm M s r (uN P.1 8 (P.1 8), uA P.2.1 8 (up (P.2.1 8) k v), P.2.2)) := (R_put (pr_8 h) hk).trans (by rw [pw_8])
theorem p8_add (h : 0 ≤ P.1 8 ∧ P.1 8 ≤ 64) (hk : P.1 8 < 64) : CC X d 63 [.ref (r + 8), .int (ii v)] (pm M s r P) Q = Q (.inl (none)) (pm M s r (uN P.1 8 (P.1 8 + 1), uA P.2.1 8 (up (P.2.1 8) (P.1 8) v), P.2.2)) := (R_add (pr_8 h) hk).trans (by rw [pw_8])
theorem p8_ins (h : 0 ≤ P.1 8 ∧ P.1 8 ≤ 64) (hk : 0 ≤ k ∧ k ≤ P.1 8) (hs : P.1 8 < 64) (hd : 4 ≤ d) : CC X d 65 [.ref (r + 8), .int (ii k), .int (ii v)] (pm M s r P) Q = Q (.inl (none)) (pm M s r (uN P.1 8 (P.1 8 + 1), uA P.2.1 8 (ins (P.2.1 8) (P.1 8) k v), P.2.2)) := (R_insert hd (pr_8 h) hk hs).trans (by rw [pw_8])
theorem pm_new {g : Nat} {v : Nat → Int} {e : JE} (hc : P.2.2.2.2.1 = g) (hg : g ≠ 0) (he : e = .inr (3, lvl r (P.1, P.2.1, uL P.2.2.1 g v, (fun j => if j = g then P.2.2.2.2.2 else P.2.2.2.1 j), g + 1, P.2.2.2.2.2) g)) : mnew (pm M s r P) 12 e = pm M s r (P.1, P.2.1, uL P.2.2.1 g v, (fun j => if j = g then P.2.2.2.2.2 else P.2.2.2.1 j), g + 1, P.2.2.2.2.2) := by
  subst he
  unfold mnew pm
  rw [hc]
  refine Prod.ext rfl (Prod.ext ?_ ?_)
  · simp only
    omega
  · simp only
    funext b
    by_cases hb : b = r + 10 + g
    · subst hb
      rw [va_up_self, if_neg (by omega), if_pos (by omega), show r + 10 + g - (r + 10) = g by omega]
    · rw [va_up_ne _ _ hb]
      by_cases hb3 : r ≤ b ∧ b < r + 10
      · rw [if_pos hb3, if_pos hb3]; rfl
      · rw [if_neg hb3, if_neg hb3]
        by_cases hb4 : r + 10 ≤ b ∧ b < r + 10 + g
        · rw [if_pos hb4, if_pos (by omega)]
          have hne : b - (r + 10) ≠ g := by omega
          unfold lvl
          simp only [uL_n hne, if_neg hne]
        · rw [if_neg hb4, if_neg (by omega)]
end PMM
