/-! the stack, branches, arrays, fields, new cells: one row a kind -/
theorem nn64_ok {r : UInt64} (h : nn64 r = true) : vf_n64 r := by
  unfold nn64 at h
  have h2 := of_decide_eq_true h
  exact h2
theorem nn32_ok {r : UInt32} (h : nn32 r = true) : vf_n32 r := by
  unfold nn32 at h
  have h2 := of_decide_eq_true h
  exact h2
section JR2
variable {p : Program} {l : Launch} {e : Env} {R : Room} {s : State} {m : MethodId} {args : Array Value} {below : List Frame} {meth : Method} {c : Code} {H : Heap} {locs : List Loc} {cells slots : Nat} {Q : State → Prop}
variable {cc : ByteArray} {pc : Nat} {ls : Array Slot} {st : List Value} {i : Instr} {D : va_G} {tyC : Nat → ClassId} {base : Nat} {M : JM} {A : Nat → Prop} {H0 : Heap}
theorem S_sop (hexec : p.tables.exec = Jvm.exec) (hb : c.code = cc) {st' : List Value} (hs : sop i st = some st') (hdg : decode cc pc = .ok (i, iln i))
    (kk : W p l e R s m args below meth c H locs cells slots Q (F0 m (pc + iln i) ls st')) : W p l e R s m args below meth c H locs cells slots Q (F0 m pc ls st) := by
  unfold sop at hs
  split at hs <;> first | (cases hs; done) | skip
  · cases hs; exact lv_iadd hexec hb hdg kk
  · cases hs; exact lv_isub hexec hb hdg kk
  · cases hs; exact lv_imul hexec hb hdg kk
  · cases hs; exact lv_iand hexec hb hdg kk
  · cases hs; exact lv_ior hexec hb hdg kk
  · cases hs; exact lv_ishl hexec hb hdg kk
  · cases hs; exact lv_ishr hexec hb hdg kk
  · split at hs
    · cases hs
    · rename_i h0; cases hs; exact lv_idiv hexec hb hdg h0 kk
  · split at hs
    · cases hs
    · rename_i h0; cases hs; exact lv_irem hexec hb hdg h0 kk
  · cases hs; exact lv_ineg hexec hb hdg kk
  · cases hs; exact lv_land hexec hb hdg kk
  · cases hs; exact lv_lor hexec hb hdg kk
  · cases hs; exact lv_lshl hexec hb hdg rfl kk
  · cases hs; exact W.lcmp hexec hb hdg kk
  · cases hs; exact lv_i2l hexec hb hdg rfl kk
  · cases hs; exact lv_i2c hexec hb hdg rfl kk
  · cases hs; exact lv_i2f hexec hb hdg kk
  · cases hs; exact lv_i2d hexec hb hdg kk
  · split at hs
    · rename_i h0; cases hs; exact lv_f2d hexec hb hdg (nn64_ok h0) kk
    · cases hs
  · split at hs
    · rename_i h0; cases hs; exact lv_fdiv hexec hb hdg (nn32_ok h0) kk
    · cases hs
  · split at hs
    · rename_i h0; cases hs; exact lv_ddiv hexec hb hdg (nn64_ok h0) kk
    · cases hs
  · cases hs; exact lv_fcmp hexec hb hdg kk
  · cases hs; exact lv_dcmp hexec hb hdg kk
  · split at hs
    · rename_i h0; cases hs; exact lv_dup hexec hb hdg h0 kk
    · cases hs
  · split at hs
    · rename_i h0; cases hs; exact lv_pop hexec hb hdg h0 kk
    · cases hs
  · split at hs
    · rename_i h0; cases hs; exact lv_dup2_11 hexec hb hdg h0.1 h0.2 kk
    · cases hs
/-- where a branch goes -/
def btg (i : Instr) : Option Int := match i with
  | .ifCond _ o => some o | .if_icmp _ o => some o | .ifnull o => some o | .ifnonnull o => some o | .goto o => some o | _ => none
theorem S_bop (hexec : p.tables.exec = Jvm.exec) (hb : c.code = cc) {b : Bool} {st' : List Value} {t : Nat} (hs : bop i st = some (b, st')) (hdg : decode cc pc = .ok (i, iln i)) (ht : ∀ o, btg i = some o → (pc : Int) + o = (t : Int))
    (kk : W p l e R s m args below meth c H locs cells slots Q (F0 m (if b = true then t else pc + iln i) ls st')) : W p l e R s m args below meth c H locs cells slots Q (F0 m pc ls st) := by
  unfold bop at hs
  split at hs <;> first | (cases hs; done) | skip
  all_goals cases hs
  all_goals have ht := ht _ rfl
  · exact lv_if_eq hexec hb hdg ht (fun h => by rw [decide_eq_true h] at kk; exact kk) (fun h => by rw [decide_eq_false h] at kk; exact kk)
  · exact lv_if_ne hexec hb hdg ht (fun h => by rw [decide_eq_true h] at kk; exact kk) (fun h => by rw [decide_eq_false (not_not_intro h)] at kk; exact kk)
  · exact lv_if_lt hexec hb hdg ht (fun h => by rw [decide_eq_true h] at kk; exact kk) (fun h => by rw [decide_eq_false h] at kk; exact kk)
  · exact lv_if_ge hexec hb hdg ht (fun h => by rw [decide_eq_true h] at kk; exact kk) (fun h => by rw [decide_eq_false h] at kk; exact kk)
  · exact lv_if_gt hexec hb hdg ht (fun h => by rw [decide_eq_true h] at kk; exact kk) (fun h => by rw [decide_eq_false h] at kk; exact kk)
  · exact lv_if_le hexec hb hdg ht (fun h => by rw [decide_eq_true h] at kk; exact kk) (fun h => by rw [decide_eq_false h] at kk; exact kk)
  · exact lv_icmp_eq hexec hb hdg ht (fun h => by rw [decide_eq_true h] at kk; exact kk) (fun h => by rw [decide_eq_false h] at kk; exact kk)
  · exact lv_icmp_ne hexec hb hdg ht (fun h => by rw [decide_eq_true h] at kk; exact kk) (fun h => by rw [decide_eq_false (not_not_intro h)] at kk; exact kk)
  · exact lv_icmp_lt hexec hb hdg ht (fun h => by rw [decide_eq_true h] at kk; exact kk) (fun h => by rw [decide_eq_false h] at kk; exact kk)
  · exact lv_icmp_ge hexec hb hdg ht (fun h => by rw [decide_eq_true h] at kk; exact kk) (fun h => by rw [decide_eq_false h] at kk; exact kk)
  · exact lv_icmp_gt hexec hb hdg ht (fun h => by rw [decide_eq_true h] at kk; exact kk) (fun h => by rw [decide_eq_false h] at kk; exact kk)
  · exact lv_icmp_le hexec hb hdg ht (fun h => by rw [decide_eq_true h] at kk; exact kk) (fun h => by rw [decide_eq_false h] at kk; exact kk)
  · exact lv_ifnullN hexec hb hdg ht kk
  · exact lv_ifnull hexec hb hdg kk
  · exact lv_ifnonnullN hexec hb hdg kk
  · exact lv_ifnonnull hexec hb hdg ht kk
  · exact lv_goto hexec hb hdg ht kk
theorem S_ald (hexec : p.tables.exec = Jvm.exec) (hb : c.code = cc) (hK : KT D tyC s) (hM : MR D tyC base M H) {a t n : Nat} {g : Nat → Value} {k : Int32} (ha : M.2.2 a = some (.inl (t, n, g))) (hi : isAld i = true) (ht : aldT i t = true) (hin : ¬ (k < 0 ∨ n ≤ k.toNatClampNeg)) (hdg : decode cc pc = .ok (i, iln i))
    (kk : W p l e R s m args below meth c H locs cells slots Q (F0 m (pc + iln i) ls (g k.toNatClampNeg :: st))) : W p l e R s m args below meth c H locs cells slots Q (F0 m pc ls (.int k :: .ref a :: st)) := by
  obtain ⟨h7, hc⟩ := (hM.2 a _ ha).2
  have hlt : k.toNatClampNeg < n := Nat.not_le.mp fun q => hin (Or.inr q)
  have hA := (hK.2 t h7).1 n g
  have h1 : ¬ (k < 0 ∨ (arrV (tyC t) n g).slots.size ≤ k.toNatClampNeg) := by rw [arrV_size]; exact hin
  have h2 : (arrV (tyC t) n g).slots[k.toNatClampNeg]? = some (g k.toNatClampNeg) := arrV_read _ _ hlt
  have h3 : (arrV (tyC t) n g).vm ≠ .unknown := fun q => by cases q
  unfold isAld at hi
  split at hi <;> first | (cases hi; done) | skip
  · have e : t = 0 := by simpa [aldT] using ht
    subst e
    exact W.iald hexec hb hc hA h3 h1 h2 rfl rfl hdg kk
  · have e : t = 1 := by simpa [aldT] using ht
    subst e
    exact W.lald hexec hb hc hA h3 h1 h2 rfl rfl hdg kk
  · have e : t = 2 := by simpa [aldT] using ht
    subst e
    exact W.dald hexec hb hc hA h3 h1 h2 rfl rfl hdg kk
  · have e : t = 3 := by simpa [aldT] using ht
    subst e
    exact W.zald hexec hb hc hA h3 h1 h2 rfl rfl hdg kk
  · have e : t = 4 := by simpa [aldT] using ht
    subst e
    exact W.cald hexec hb hc hA h3 h1 h2 rfl rfl hdg kk
  · have e : t = 5 ∨ t = 6 := by simpa [aldT] using ht
    rcases e with e | e
    · subst e
      exact W.aald hexec hb hc hA rfl h3 h1 h2 rfl rfl hdg kk
    · subst e
      exact W.aald hexec hb hc hA rfl h3 h1 h2 rfl rfl hdg kk
theorem updV_up (g : Nat → Value) (k : Nat) (v : Value) : updV g k v = va_up g k v := rfl
theorem S_ast (hexec : p.tables.exec = Jvm.exec) (hb : c.code = cc) (hK : KT D tyC s) (hM : MR D tyC base M H) (hS : va_S A H0 H locs) (hA : ∀ q, base ≤ q → A q) {a t n : Nat} {g : Nat → Value} {k : Int32} {v w : Value} (ha : M.2.2 a = some (.inl (t, n, g))) (hw : astV i t v (mcl M) = some w) (hin : ¬ (k < 0 ∨ n ≤ k.toNatClampNeg)) (hdg : decode cc pc = .ok (i, iln i))
    (kk : ∀ (H1 : Heap) (locs1 : List Loc), MR D tyC base (mset M a (.inl (t, n, va_up g k.toNatClampNeg w))) H1 → va_S A H0 H1 locs1 → W p l e R s m args below meth c H1 locs1 cells slots Q (F0 m (pc + iln i) ls st)) : W p l e R s m args below meth c H locs cells slots Q (F0 m pc ls (v :: .int k :: .ref a :: st)) := by
  obtain ⟨hba, h7, hc⟩ := hM.2 a _ ha
  have hlt : k.toNatClampNeg < n := Nat.not_le.mp fun q => hin (Or.inr q)
  have h0 : ¬ k < 0 := fun q => hin (Or.inl q)
  have hAr := (hK.2 t h7).1 n g
  have h1 : ¬ (k < 0 ∨ (arrV (tyC t) n g).slots.size ≤ k.toNatClampNeg) := by rw [arrV_size]; exact hin
  have h3 : (arrV (tyC t) n g).vm ≠ .unknown := fun q => by cases q
  have fin : ∀ (w : Value) (H1 : Heap) (j : Nat), H1[a]? = some ((arrV (tyC t) n g).setSlot k.toNatClampNeg w) → H1.size = H.size → (∀ q, q ≠ a → H1[q]? = H[q]?) → MR D tyC base (mset M a (.inl (t, n, va_up g k.toNatClampNeg w))) H1 ∧ va_S A H0 H1 (locs ++ [⟨a, j⟩]) := by
    intro w H1 j e z oq
    exact ⟨hM.set ha z oq ⟨h7, by rw [e, arrV_store, updV_up]⟩, hS.put z oq (hA a hba)⟩
  unfold astV at hw
  split at hw <;> first | (cases hw; done) | skip
  all_goals (split at hw <;> first | (cases hw; done) | skip)
  all_goals cases hw
  · rename_i ht; subst ht
    exact W.iast hexec hb hc hAr h3 h1 rfl rfl hdg fun H1 h z oq => kk H1 _ (fin _ H1 k.toNatClampNeg h z oq).1 (fin _ H1 k.toNatClampNeg h z oq).2
  · rename_i ht; subst ht
    exact W.last hexec hb hc hAr h3 h1 rfl rfl hdg fun H1 h z oq => kk H1 _ (fin _ H1 k.toNatClampNeg h z oq).1 (fin _ H1 k.toNatClampNeg h z oq).2
  · rename_i ht; subst ht
    exact W.dast hexec hb hc hAr h3 h1 rfl rfl hdg fun H1 h z oq => kk H1 _ (fin _ H1 k.toNatClampNeg h z oq).1 (fin _ H1 k.toNatClampNeg h z oq).2
  · rename_i ht; subst ht
    exact W.zast hexec hb hc hAr h3 h1 rfl rfl hdg fun H1 h z oq => kk H1 _ (fin _ H1 k.toNatClampNeg h z oq).1 (fin _ H1 k.toNatClampNeg h z oq).2
  · rename_i ht; subst ht
    exact W.cast hexec hb hc hAr h3 h1 rfl rfl hdg fun H1 h z oq => kk H1 _ (fin _ H1 k.toNatClampNeg h z oq).1 (fin _ H1 k.toNatClampNeg h z oq).2
  · rename_i ht
    rcases ht with ht | ht
    · subst ht
      exact va_WaastN (C := "RegexTracer$Pattern") hexec hb hc hAr h3 h1 rfl rfl hdg fun H1 h z oq => kk H1 _ (fin _ H1 k.toNatClampNeg h z oq).1 (fin _ H1 k.toNatClampNeg h z oq).2
    · subst ht
      exact va_WaastN (C := "RegexTracer$Content") hexec hb hc hAr h3 h1 rfl rfl hdg fun H1 h z oq => kk H1 _ (fin _ H1 k.toNatClampNeg h z oq).1 (fin _ H1 k.toNatClampNeg h z oq).2
  · rename_i b ht
    have key : ∀ (ci : Nat) (C : String) (T : u_T) (N : Nat), mcl M b = some ci → clz[ci]? = some (C, T, N) → atY t = .object C → W p l e R s m args below meth c H locs cells slots Q (F0 m pc ls (.ref b :: .int k :: .ref a :: st)) := by
      intro ci C T N hm hcl hty
      have hm2 : ∃ fs, M.2.2 b = some (.inr (ci, fs)) := by
        unfold mcl at hm
        split at hm
        · rename_i ci' fs hb2; cases hm; exact ⟨fs, hb2⟩
        · cases hm
      obtain ⟨fs, hm2⟩ := hm2
      obtain ⟨-, r', hr', ⟨cellV, g1, g2, g3, -⟩, -⟩ := hM.2 b _ hm2
      have hcls := (hK.1 ci (C, T, N) hcl).2
      have hra := (hK.2 t h7).2
      rw [hty] at hra
      obtain ⟨kA, comp, k1, k2, k3, -⟩ := hra
      have hcomp : comp = D.1 ci := Option.some.inj (k3.symm.trans hcls.1)
      subst hcomp
      obtain ⟨kC, hkC, -⟩ := hcls.2
      exact W.aast hexec hb hc (fun q h => by cases h) (fun h => by cases h) k1 k2 rfl hkC ⟨h0, by show _ < (arrV _ _ _).slots.size; rw [arrV_size]; exact hlt⟩ g1 (fun q h => by rw [g3] at h; cases h) (by rw [g2]; exact hkC) (by rw [g2]; exact va_assign hcls) rfl rfl hdg fun H1 h z oq => kk H1 _ (fin _ H1 k.toNatClampNeg h z oq).1 (fin _ H1 k.toNatClampNeg h z oq).2
    rcases ht with ⟨e1, e2⟩ | ⟨e1, e2⟩
    · subst e1; exact key 4 _ _ _ e2 rfl rfl
    · subst e1; exact key 1 _ _ _ e2 rfl rfl
theorem S_alen (hexec : p.tables.exec = Jvm.exec) (hb : c.code = cc) (hK : KT D tyC s) (hM : MR D tyC base M H) {a t n : Nat} {g : Nat → Value} (ha : M.2.2 a = some (.inl (t, n, g))) (hdg : decode cc pc = .ok (.arraylength, 1))
    (kk : W p l e R s m args below meth c H locs cells slots Q (F0 m (pc + 1) ls (.int (Int32.ofNat n) :: st))) : W p l e R s m args below meth c H locs cells slots Q (F0 m pc ls (.ref a :: st)) := by
  obtain ⟨h7, hc⟩ := (hM.2 a _ ha).2
  exact W.alen (n := Int32.ofNat n) hexec hb hc ((hK.2 t h7).1 n g) (by rw [arrV_size] <;> rfl) rfl rfl hdg kk
end JR2
