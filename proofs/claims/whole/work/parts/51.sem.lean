/-! what a tree matches, the preferred way first; steps that are laid for it find just that -/
abbrev RA : Type := Option (Int × (Int → Int))
abbrev RK : Type := Int → (Int → Int) → RA
def oe (a b : RA) : RA := match a with
  | some r => some r
  | none => b
theorem oe_as (a b c : RA) : oe (oe a b) c = oe a (oe b c) := by cases a <;> rfl
def mst (Mx : Int → (Int → Int) → RK → RA) : Nat → RK → RK
  | 0, _, _, _ => none
  | f + 1, κ, p, w => oe (Mx p w (mst Mx f κ)) (κ p w)
def mt (lf : RT → Int → Bool) : RT → Int → (Int → Int) → RK → RA
  | .num c, p, w, κ => if c = 0 then κ p w else if lf (.num c) p = true then κ (p + 1) w else none
  | .var _, p, w, κ => κ p w
  | .add a b, p, w, κ => mt lf a p w (fun p' w' => mt lf b p' w' κ)
  | .sub a b, p, w, κ => oe (mt lf a p w κ) (mt lf b p w κ)
  | .neg a, p, w, κ => mst (mt lf a) 42 κ p w
  | .mulL b e, p, w, κ => if lf (.mulL b e) p = true then κ (p + 1) w else none
  | .mulR a k, p, w, κ => if k = 0 then mt lf a p w (mst (mt lf a) 42 κ) else if k = -1 then oe (mt lf a p w κ) (κ p w) else mt lf a p (up w (2 * k - 2) p) (fun p' w' => κ p' (up w' (2 * k - 1) p'))
/-- trees that the reader makes of n characters -/
def TW (n : Int) : RT → Prop
  | .num c => c = 0 ∨ c = 1 ∨ sgn c
  | .var _ => True
  | .add a b => TW n a ∧ TW n b
  | .sub a b => TW n a ∧ TW n b
  | .neg a => TW n a ∧ 0 < tsh a
  | .mulL b e => 0 ≤ b ∧ b ≤ n ∧ -n - 1 ≤ tn e ∧ tn e ≤ n
  | .mulR a k => TW n a ∧ -1 ≤ k ∧ k ≤ 5 ∧ (k = 0 → 0 < tsh a)
section TMS
variable (op : Int → Int × Int × Int) (fit : Int → Int → Bool) (acc : Int → Bool)
def Tm (s p : Int) (w : Int → Int) (r : RA) : Prop := ∃ f, fst1 op fit acc f s p w = some r
variable {op : Int → Int × Int × Int} {fit : Int → Int → Bool} {acc : Int → Bool} {s p : Int} {w : Int → Int} {r r1 r2 : RA}
theorem Tm_t (h : (op s).1 = 0) (hf : fit s p = true) (h1 : Tm op fit acc (s + 1) (p + 1) w r) : Tm op fit acc s p w r := by
  obtain ⟨f, h1⟩ := h1
  exact ⟨f + 1, by unfold fst1; rw [if_pos h, if_pos hf]; exact h1⟩
theorem Tm_tf (h : (op s).1 = 0) (hf : fit s p ≠ true) : Tm op fit acc s p w none := ⟨1, by unfold fst1; rw [if_pos h, if_neg hf]⟩
theorem Tm_c (h : (op s).1 = 1) (h1 : Tm op fit acc (op s).2.1 p w r1) (h2 : Tm op fit acc (op s).2.2 p w r2) : Tm op fit acc s p w (oe r1 r2) := by
  obtain ⟨f1, h1⟩ := h1
  obtain ⟨f2, h2⟩ := h2
  refine ⟨max f1 f2 + 1, ?_⟩
  unfold fst1
  rw [if_neg (by omega), if_pos h, fst1_le h1 (Nat.le_max_left _ _)]
  cases r1 with
  | some q => rfl
  | none => exact fst1_le h2 (Nat.le_max_right _ _)
theorem Tm_j (h : (op s).1 = 2) (h1 : Tm op fit acc (op s).2.1 p w r) : Tm op fit acc s p w r := by
  obtain ⟨f, h1⟩ := h1
  exact ⟨f + 1, by unfold fst1; rw [if_neg (by omega), if_neg (by omega), if_pos h]; exact h1⟩
theorem Tm_m (h : (op s).1 = 3) (h1 : Tm op fit acc (s + 1) p (up w (op s).2.1 p) r) : Tm op fit acc s p w r := by
  obtain ⟨f, h1⟩ := h1
  exact ⟨f + 1, by unfold fst1; rw [if_neg (by omega), if_neg (by omega), if_neg (by omega), if_pos h]; exact h1⟩
theorem Tm_a (h : (op s).1 = 4) : Tm op fit acc s p w (if acc p = true then some (p, w) else none) := ⟨1, by
  unfold fst1
  rw [if_neg (by omega), if_neg (by omega), if_neg (by omega), if_neg (by omega)]
  split <;> rfl⟩
theorem Tm_1 (h1 : Tm op fit acc s p w r1) (h2 : Tm op fit acc s p w r2) : r1 = r2 := by
  obtain ⟨f1, h1⟩ := h1
  obtain ⟨f2, h2⟩ := h2
  have e1 := fst1_le h1 (Nat.le_max_left f1 f2)
  rw [fst1_le h2 (Nat.le_max_right f1 f2)] at e1
  exact (Option.some.inj e1).symm
end TMS
/-- sums over a stretch of steps -/
def sF (f : Int → Int) (a b : Int) : Int := sm (b - a).toNat (fun k => f (a + k))
theorem sm_add (f : Int → Int) (n : Nat) : ∀ k : Nat, sm (n + k) f = sm n f + sm k (fun j => f (n + j)) := by
  intro k
  induction k with
  | zero => show sm n f = sm n f + 0; omega
  | succ k ih => rw [show n + (k + 1) = (n + k) + 1 by omega, sm_s, sm_s, ih, show ((n + k : Nat) : Int) = (n : Int) + (k : Int) by omega]; omega
theorem sF_add {f : Int → Int} {a b c : Int} (h1 : a ≤ b) (h2 : b ≤ c) : sF f a c = sF f a b + sF f b c := by
  unfold sF
  rw [show (c - a).toNat = (b - a).toNat + (c - b).toNat by omega, sm_add]
  congr 1
  refine sm_ext (fun k _ _ => ?_)
  congr 1; omega
theorem sF_0 {f : Int → Int} {a : Int} : sF f a a = 0 := by
  unfold sF
  rw [show (a - a).toNat = 0 by omega]; rfl
theorem sF_1 {f : Int → Int} {a b : Int} (h : b = a + 1) : sF f a b = f a := by
  unfold sF
  rw [show (b - a).toNat = 1 by omega]
  show 0 + f (a + 0) = f a
  rw [Int.add_zero, Int.zero_add]
theorem sF_n {f : Int → Int} {n : Nat} : sF f 0 n = sm n f := by
  unfold sF
  rw [show ((n : Int) - 0).toNat = n by omega]
  refine sm_ext (fun k _ _ => ?_)
  rw [Int.zero_add]
/-- choices and marks of a tree's steps -/
def tfk : RT → Int
  | .num _ => 0
  | .var _ => 0
  | .add a b => tfk a + tfk b
  | .sub a b => tfk a + tfk b + 1
  | .neg a => tfk a + 1
  | .mulL _ _ => 0
  | .mulR a k => if k = 0 ∨ k = -1 then tfk a + 1 else tfk a + 2
theorem tfk_0 (t : RT) : 0 ≤ tfk t := by
  induction t with
  | num c => unfold tfk; omega
  | var c => unfold tfk; omega
  | add a b iha ihb => unfold tfk; omega
  | sub a b iha ihb => unfold tfk; omega
  | neg a iha => unfold tfk; omega
  | mulL b e _ => unfold tfk; omega
  | mulR a k iha => unfold tfk; split <;> omega
theorem MuOk_tfk : MuOk 1 tfk := by
  refine ⟨tfk_0, rfl, fun c => by show (0 : Int) ≤ 1; omega, fun a b => by show tfk a + tfk b ≤ _; omega, fun a b => by show tfk a + tfk b + 1 ≤ _; omega, fun a => by show tfk a + 1 ≤ _; omega, fun b e => by show (0 : Int) ≤ _; omega, fun a => ?_, fun a => ?_, fun a k hk => ?_⟩
  · show (if (0 : Int) = 0 ∨ (0 : Int) = -1 then tfk a + 1 else tfk a + 2) ≤ _; split <;> omega
  · show (if (-1 : Int) = 0 ∨ (-1 : Int) = -1 then tfk a + 1 else tfk a + 2) ≤ _; split <;> omega
  · show (if k = 0 ∨ k = -1 then tfk a + 1 else tfk a + 2) ≤ _; split <;> omega
def fw (op : Int → Int × Int × Int) (s : Int) : Int := if (op s).1 = 1 ∨ (op s).1 = 3 then 1 else 0
/-- a step leads into lo .. hi -/
def OpI (op : Int → Int × Int × Int) (lo hi s : Int) : Prop := ((op s).1 = 0) ∨ ((op s).1 = 1 ∧ lo ≤ (op s).2.1 ∧ (op s).2.1 ≤ hi ∧ lo ≤ (op s).2.2 ∧ (op s).2.2 ≤ hi) ∨ ((op s).1 = 2 ∧ lo ≤ (op s).2.1 ∧ (op s).2.1 ≤ hi) ∨ ((op s).1 = 3 ∧ 0 ≤ (op s).2.1 ∧ (op s).2.1 ≤ 9)
theorem OpI.w {op : Int → Int × Int × Int} {lo hi lo' hi' s : Int} (h : OpI op lo hi s) (h1 : lo' ≤ lo) (h2 : hi ≤ hi') : OpI op lo' hi' s := by
  rcases h with h | h | h | h
  · exact Or.inl h
  · exact Or.inr (Or.inl ⟨h.1, by omega, by omega, by omega, by omega⟩)
  · exact Or.inr (Or.inr (Or.inl ⟨h.1, by omega, by omega⟩))
  · exact Or.inr (Or.inr (Or.inr h))
