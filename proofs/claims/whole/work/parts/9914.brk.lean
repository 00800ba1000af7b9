/-! the class's reader: what it does at each character; brackets -/
section BRK
variable {P P' : RS} {p a n e : Int} {c : Int → Int} {alt : Option RT} {u w : RT}
theorem acc_sg {ch : Int} (h : P.1 11 = 0) (hs : sgB ch = true) : acc P ch p = some (atm P 1 ch 0) := by
  unfold acc
  rw [if_pos h, if_pos hs]
theorem acc_46 (h : P.1 11 = 0) : acc P 46 p = some (atm P 2 0 0) := by
  unfold acc
  rw [if_pos h, if_neg (by decide), if_pos rfl]
theorem acc_91 (h : P.1 11 = 0) : acc P 91 p = some (opb P p) := by
  unfold acc
  rw [if_pos h, if_neg (by decide), if_neg (by decide), if_pos rfl]
theorem acc_40 (h : P.1 11 = 0) : acc P 40 p = if P.1 14 < 5 then some (opg P) else none := by
  unfold acc
  rw [if_pos h, if_neg (by decide), if_neg (by decide), if_neg (by decide), if_pos rfl]
theorem acc_41 (h : P.1 11 = 0) : acc P 41 p = if P.2.2.2.2.2 = 0 then none else some (clg P) := by
  unfold acc
  rw [if_pos h, if_neg (by decide), if_neg (by decide), if_neg (by decide), if_neg (by decide), if_pos rfl]
theorem acc_124 (h : P.1 11 = 0) : acc P 124 p = some (brn P) := by
  unfold acc
  rw [if_pos h, if_neg (by decide), if_neg (by decide), if_neg (by decide), if_neg (by decide), if_neg (by decide), if_pos rfl]
theorem sgB_r {ch : Int} (hr : ch = 42 ∨ ch = 43 ∨ ch = 63) : ¬ sgB ch = true := by
  rcases hr with rfl | rfl | rfl <;> decide
theorem acc_r {ch : Int} (h : P.1 11 = 0) (hr : ch = 42 ∨ ch = 43 ∨ ch = 63) : acc P ch p = if cur P 4 = 0 ∨ (ch ≠ 63 ∧ cur P 6 = 0) then none else some (if ch = 43 then rpp P else if ch = 42 then rps P else rpq P) := by
  unfold acc
  rw [if_pos h, if_neg (sgB_r hr), if_neg (by omega), if_neg (by omega), if_neg (by omega), if_neg (by omega), if_neg (by omega), if_pos hr]
theorem acc_no {ch : Int} (h : P.1 11 = 0) (hs : ¬ sgB ch = true) (h1 : ch ≠ 46 ∧ ch ≠ 91 ∧ ch ≠ 40 ∧ ch ≠ 124) (h41 : ch ≠ 41 ∨ P.2.2.2.2.2 = 0) (hr : (ch = 42 ∨ ch = 43 ∨ ch = 63) → cur P 4 = 0) : acc P ch p = none := by
  unfold acc
  rw [if_pos h, if_neg hs, if_neg (by omega), if_neg (by omega), if_neg (by omega)]
  by_cases hc : ch = 41
  · rw [if_pos hc, if_pos (by omega)]
  · rw [if_neg hc, if_neg (by omega)]
    by_cases hc2 : ch = 42 ∨ ch = 43 ∨ ch = 63
    · rw [if_pos hc2, if_pos (Or.inl (hr hc2))]
    · rw [if_neg hc2]
theorem acc_10 {ch : Int} (h : acc P ch p = some P') : P'.1 10 = P.1 10 + (if ch = 40 then 1 else if ch = 41 then -1 else 0) := by
  have hat : ∀ (P : RS) k f t, (atm P k f t).1 10 = P.1 10 := by
    intro P k f t
    unfold atm rsA rsC rsL
    simp (disch := omega) only [uN_s, uN_n, uA_s, uA_n, up_s, up_n, uN_uN, uA_uA]
  have hN : ∀ (P : RS) k z, 11 ≤ k → (rsN P k z).1 10 = P.1 10 := fun P k z hk => uN_n (s := P.1) (k := k) (j := 10) (z := z) (by omega)
  have n40 : ∀ {x : Int}, sgB x = true → (if x = 40 then (1 : Int) else if x = 41 then -1 else 0) = 0 := by
    intro x hx
    have := sgB_t.mp hx
    unfold sgn at this
    rw [if_neg (by omega), if_neg (by omega)]
  unfold acc at h
  split at h
  · split at h
    · rename_i hs
      injection h with e; subst e; rw [hat, n40 hs]; omega
    split at h
    · rename_i hs
      subst hs
      injection h with e; subst e; rw [hat, if_neg (by omega), if_neg (by omega)]; omega
    split at h
    · rename_i hs
      subst hs
      injection h with e; subst e
      unfold opb
      rw [hN _ _ _ (by omega), hN _ _ _ (by omega), hN _ _ _ (by omega), if_neg (by omega), if_neg (by omega)]; omega
    split at h
    · rename_i hs
      subst hs
      rw [if_pos rfl]
      split at h
      · injection h with e; subst e
        unfold opg rsW rsA rsN
        simp (disch := omega) only [uN_s, uN_n, uA_s, uA_n, up_s, up_n, uN_uN, uA_uA]
      · cases h
    split at h
    · rename_i hs
      subst hs
      rw [if_neg (by omega), if_pos rfl]
      split at h
      · cases h
      · injection h with e; subst e
        unfold clg rsC rsV rsN rsA rsF rsL
        simp (disch := omega) only [uN_s, uN_n, uA_s, uA_n, up_s, up_n, uN_uN, uA_uA]
        omega
    rw [if_neg (by assumption), if_neg (by assumption), Int.add_zero]
    split at h
    · injection h with e; subst e
      unfold brn rsC rsL rsA rsI
      simp (disch := omega) only [uN_s, uN_n, uA_s, uA_n, up_s, up_n, uN_uN, uA_uA]
    split at h
    · split at h
      · cases h
      · injection h with e; subst e
        split
        · unfold rpp rsC rsL rsA
          simp (disch := omega) only [uN_s, uN_n, uA_s, uA_n, up_s, up_n, uN_uN, uA_uA]
        · split
          · unfold rps rsC rsL rsA rsI
            simp (disch := omega) only [uN_s, uN_n, uA_s, uA_n, up_s, up_n, uN_uN, uA_uA]
          · unfold rpq rsC rsL rsI
            simp (disch := omega) only [uN_s, uN_n, uA_s, uA_n, up_s, up_n, uN_uN, uA_uA]
    · cases h
  · split at h
    · rename_i hs
      injection h with e; subst e; rw [hN _ _ _ (by omega), n40 hs]; omega
    split at h
    · rename_i hs
      rw [if_neg (by omega), if_neg (by omega), Int.add_zero]
      injection h with e; subst e
      rw [hN _ _ _ (by omega), hN _ _ _ (by omega), hN _ _ _ (by omega)]
    split at h
    · rename_i hs
      rw [if_neg (by omega), if_neg (by omega), Int.add_zero]
      injection h with e; subst e
      rw [hat, hN _ _ _ (by omega)]
    · cases h
theorem rds_10 : ∀ (k : Nat) (p : Int) (P P' : RS), rds c k p P = some P' → P'.1 10 = P.1 10 + sm k (fun i => if c (p + i) = 40 then 1 else if c (p + i) = 41 then -1 else 0) := by
  intro k
  induction k with
  | zero =>
    intro p P P' h
    have e : P = P' := by injection h
    rw [← e]
    show _ = _ + 0
    omega
  | succ k ih =>
    intro p P P' h
    have hsp : rds c (k + 1) p P = some P' := h
    cases hk : rds c k p P with
    | none =>
      exfalso
      have : ∀ (k : Nat) (p : Int) (P : RS), rds c k p P = none → rds c (k + 1) p P = none := by
        intro k
        induction k with
        | zero => intro p P h; cases h
        | succ k ih =>
          intro p P h
          rw [rds_s] at h ⊢
          cases ha : acc P (c p) p with
          | none => rfl
          | some P1 => rw [ha] at h; exact ih _ _ h
      rw [this k p P hk] at hsp
      cases hsp
    | some P1 =>
      have h1 := ih p P P1 hk
      rw [rds_add k 1 p P P1 hk, rds_s] at hsp
      cases ha : acc P1 (c (p + k)) (p + k) with
      | none => rw [ha] at hsp; cases hsp
      | some P2 =>
        rw [ha] at hsp
        have e2 : P2 = P' := by injection hsp
        subst e2
        rw [acc_10 ha, h1, sm_s, Int.add_assoc]
end BRK
