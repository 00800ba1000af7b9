/-! fields, new cells, switches, increments, calls -/
theorem clz_ok {ci : Nat} {C : String} {T : u_T} {N : Nat} (h : clz[ci]? = some (C, T, N)) :
    (∀ k, k < N → parseFieldDescriptor (T k).2.2.1 = some (clTy ci k)) ∧ (∀ a, a < N → ∀ b, b < N → a ≠ b → (T a).2.1 ≠ (T b).2.1) ∧ (clD ci).length = N ∧ ∀ j, j < N → defaultValue (clTy ci j) = vp_V (clD ci) j := by
  match ci, h with
  | 0, h => cases h; exact ⟨tyX0_ok, nmX0, rfl, by decide +kernel⟩
  | 1, h => cases h; exact ⟨tyX1_ok, nmX1, rfl, by decide +kernel⟩
  | 2, h => cases h; exact ⟨tyX2_ok, nmX2, rfl, by decide +kernel⟩
  | 3, h => cases h; exact ⟨tyX3_ok, nmX3, rfl, by decide +kernel⟩
  | 4, h => cases h; exact ⟨tyX4_ok, nmX4, rfl, by decide +kernel⟩
  | 5, h => cases h; exact ⟨tyX5_ok, nmX5, rfl, by decide +kernel⟩
  | 6, h => cases h; exact ⟨tyX6_ok, nmX6, rfl, by decide +kernel⟩
  | 7, h => cases h; exact ⟨tyX7_ok, nmX7, rfl, by decide +kernel⟩
  | 8, h => cases h; exact ⟨tyX8_ok, nmX8, rfl, by decide +kernel⟩
  | 9, h => cases h; exact ⟨tyX9_ok, nmX9, rfl, by decide +kernel⟩
  | n + 10, h => simp [clz] at h
theorem fOk_ok {ty : FieldType} {v : Value} (h : fOk ty v = true) : narrow ty v = v ∧ fits ty v = true := by
  unfold fOk at h
  split at h <;> first | (cases h; done) | skip
  · exact ⟨rfl, rfl⟩
  · rename_i x
    have : x = 0 ∨ x = 1 := by simpa using h
    rcases this with e | e <;> subst e <;> decide
  · exact ⟨rfl, rfl⟩
  · exact ⟨rfl, rfl⟩
  · exact ⟨rfl, rfl⟩
  · exact ⟨rfl, rfl⟩
  · exact ⟨rfl, rfl⟩
section JR3
variable {p : Program} {l : Launch} {e : Env} {R : Room} {s : State} {m : MethodId} {args : Array Value} {below : List Frame} {meth : Method} {c : Code} {H : Heap} {locs : List Loc} {cells slots : Nat} {Q : State → Prop}
variable {pc : Nat} {ls : Array Slot} {st : List Value} {i : Instr} {D : va_G} {tyC : Nat → ClassId} {base : Nat} {M : JM} {H0 : Heap} {mid : Nat} {r : List Nat}
theorem S_getf (hexec : p.tables.exec = Jvm.exec) (hb : c.code = mB mid) (htsG : ∀ w ∈ GL, w.before args s = true) (hown : s.vm.findClass (own mid) = some m.cls) (hE : EN base D tyC s H0) (hM : MR D tyC base M H) {n a : Nat} {fs : List Value} {v : Value} (hc : chF mid n r = true)
    (ha : M.2.2 a = some (.inr (r.getD 0 0, fs))) (hv : fs[r.getD 1 0]? = some v) (hdg : decode (mB mid) pc = .ok (.getfield n, 3))
    (kk : W p l e R s m args below meth c H locs cells slots Q (F0 m (pc + 3) ls (v :: st))) : W p l e R s m args below meth c H locs cells slots Q (F0 m pc ls (.ref a :: st)) := by
  obtain ⟨-, r', hr', ⟨cell, q1, q2, q3, q4⟩, hlen⟩ := hM.2 a _ ha
  unfold chF at hc
  rw [hr'] at hc
  obtain ⟨C, T, N⟩ := r'
  simp only [Bool.and_eq_true, decide_eq_true_eq] at hc
  obtain ⟨⟨hk, hC⟩, hw⟩ := hc
  have hin := clz_ws hr'
  obtain ⟨hS, hfc, kC, hkC, hkind⟩ := hE.2.2.2.2.1.1 _ _ hr'
  obtain ⟨cf, kf, fi, f, hi, hsl⟩ := hS _ hk
  have hi2 : s.fieldFound? C (T (r.getD 1 0)).2.1 (T (r.getD 1 0)).2.2.1 = some (cf, kf, fi, f) := by rw [← hC]; exact hi
  have hslot : cell.slots[f.slot]? = some v := by
    rw [hsl, q4 _ hk]
    show some (fs.getD _ .null) = some v
    rw [List.getD_eq_getElem?_getD, hv]; rfl
  have hst := (u_facts hfc hkC (u_lays htsG hin hk) hi).1
  split at hw
  · exact va_Wgetf hexec hb hown (va_Nw.use rfl (hE.1 _ (nw_in hw))) hi2 hst q1 (by rw [q3]; exact fun h => by cases h) hslot rfl rfl hdg kk
  · exact W.getf hexec hb hown (htsG _ (gw_in hw)) hi2 hst q1 (by rw [q3]; exact fun h => by cases h) hslot rfl rfl hdg kk
theorem S_putf (hexec : p.tables.exec = Jvm.exec) (hb : c.code = mB mid) (htsG : ∀ w ∈ GL, w.before args s = true) (hown : s.vm.findClass (own mid) = some m.cls) (hname : (mN mid).name = "<init>" → meth.name = "<init>") (hE : EN base D tyC s H0) (hM : MR D tyC base M H) (hSv : va_S (fun q => base ≤ q) s.heap H locs) {n a : Nat} {fs : List Value} {v : Value} (hc : chF mid n r = true) (hc2 : chW mid r = true)
    (ha : M.2.2 a = some (.inr (r.getD 0 0, fs))) (hl : r.getD 1 0 < fs.length) (hv : fOk (clTy (r.getD 0 0) (r.getD 1 0)) v = true) (hdg : decode (mB mid) pc = .ok (.putfield n, 3))
    (kk : ∀ (H1 : Heap) (locs1 : List Loc), MR D tyC base (mset M a (.inr (r.getD 0 0, fs.set (r.getD 1 0) v))) H1 → va_S (fun q => base ≤ q) s.heap H1 locs1 → W p l e R s m args below meth c H1 locs1 cells slots Q (F0 m (pc + 3) ls st)) : W p l e R s m args below meth c H locs cells slots Q (F0 m pc ls (v :: .ref a :: st)) := by
  obtain ⟨hba, r', hr', ⟨cell, q1, q2, q3, q4⟩, hlen⟩ := hM.2 a _ ha
  unfold chF at hc
  unfold chW at hc2
  rw [hr'] at hc hc2
  obtain ⟨C, T, N⟩ := r'
  simp only [Bool.and_eq_true, decide_eq_true_eq] at hc hc2
  obtain ⟨⟨hk, hC⟩, hw⟩ := hc
  have hin := clz_ws hr'
  obtain ⟨hty, hnm, -, -⟩ := clz_ok hr'
  obtain ⟨hS, hfc, kC, hkC, hkind⟩ := hE.2.2.2.2.1.1 _ _ hr'
  have hap : ∀ x y, x < N → y < N → x ≠ y → (D.2 (r.getD 0 0)) x ≠ (D.2 (r.getD 0 0)) y := by
    intro x y hx hy hne
    obtain ⟨_, _, _, fa, hia, ea⟩ := hS x hx
    obtain ⟨_, _, _, fb, hib, eb⟩ := hS y hy
    rw [← ea, ← eb]
    refine u_apart (u_lays htsG hin hx) (u_lays htsG hin hy) hia hib ?_
    rw [(State.fieldFound?_type hia (hty x hx)).1, (State.fieldFound?_type hib (hty y hy)).1]
    exact hnm x hx y hy hne
  obtain ⟨cf, kf, fi, f, hi, hsl⟩ := hS _ hk
  have hi2 : s.fieldFound? C (T (r.getD 1 0)).2.1 (T (r.getD 1 0)).2.2.1 = some (cf, kf, fi, f) := by rw [← hC]; exact hi
  have hst := (u_facts hfc hkC (u_lays htsG hin hk) hi).1
  obtain ⟨hn, hfit⟩ := fOk_ok hv
  have hlay := htsG _ (hin _ (u_in_lay hk))
  have fin : ∀ H1 : Heap, H1[a]? = some (cell.setSlot f.slot v) → H1.size = H.size → (∀ q, q ≠ a → H1[q]? = H[q]?) → MR D tyC base (mset M a (.inr (r.getD 0 0, fs.set (r.getD 1 0) v))) H1 ∧ va_S (fun q => base ≤ q) s.heap H1 (locs ++ [⟨a, f.slot⟩]) := by
    intro H1 e1 e2 e3
    rw [hsl] at e1
    exact ⟨hM.set ha e2 e3 ⟨_, hr', t_OB.to (V := updV (vp_V fs) (r.getD 1 0) v) ⟨_, e1, q2, q3, t_set q4 hap hk v⟩ (fun j _ => vp_updV_set hl v j), by simpa using hlen⟩, hSv.put e2 e3 hba⟩
  have hslt : f.slot < cell.slots.size := by rw [hsl]; exact k2_hasslot (q4 _ hk)
  by_cases hfin : (T (r.getD 1 0)).2.2.2 = true
  · rw [if_pos hfin] at hc2
    simp only [Bool.and_eq_true, decide_eq_true_eq] at hc2
    obtain ⟨⟨h0, hin2⟩, hCo⟩ := hc2
    rw [if_neg (by omega)] at hw
    unfold u_lay at hlay
    rw [if_pos hfin] at hlay
    have hcf : m.cls = cf := by
      obtain ⟨_, _, c', _, _, _, -, -, hf', -, -, -, hown2, -⟩ := Cond.laysFinal_spec hlay
      have e1 : c' = cf := by have := hi.symm.trans hf'; simp at this; exact this.1.symm
      rw [hC, hCo] at hown2
      rw [← e1]; exact Option.some.inj (hown.symm.trans hown2)
    have h6 := u_fits hfc hkC hkind (Or.inr hlay) hi (hty _ hk) hn hfit
    exact W.putFinK hexec hb hown (htsG _ (gw_in hw)) hi2 hst hcf (hname hin2) (by rw [q2]; exact h6) q1 q3 hslt rfl rfl hdg fun H1 e1 e2 e3 => kk H1 _ (fin H1 e1 e2 e3).1 (fin H1 e1 e2 e3).2
  · unfold u_lay at hlay
    rw [if_neg hfin] at hlay
    have h6 := u_store hfc hkC hkind hlay hi (hty _ hk) hn hfit
    split at hw
    · exact va_WputK hexec hb hown (va_Nw.use rfl (hE.1 _ (nw_in hw))) hi2 hst (by rw [q2]; exact h6) q1 q3 hslt rfl rfl hdg fun H1 e1 e2 e3 => kk H1 _ (fin H1 e1 e2 e3).1 (fin H1 e1 e2 e3).2
    · exact W.putK hexec hb (f := f) ⟨hown, htsG _ (gw_in hw), ⟨_, _, _, hi2⟩, hst⟩ (by rw [q2]; exact h6) q1 q3 hslt rfl rfl hdg fun H1 e1 e2 e3 => kk H1 _ (fin H1 e1 e2 e3).1 (fin H1 e1 e2 e3).2
theorem va_S.push {A : Nat → Prop} {H0 H H1 : Heap} {locs : List Loc} (h : va_S A H0 H locs) (z : H1.size = H.size + 1) (oq : ∀ q : Nat, q < H.size → H1[q]? = H[q]?) : va_S A H0 H1 locs :=
  ⟨Nat.le_trans h.1 (by omega), fun x h1 h2 => (oq x (Nat.lt_of_lt_of_le h1 h.1)).trans (h.2.1 x h1 h2), h.2.2⟩
theorem S_new (hexec : p.tables.exec = Jvm.exec) (hb : c.code = mB mid) (htsG : ∀ w ∈ GL, w.before args s = true) (hown : s.vm.findClass (own mid) = some m.cls) (hE : EN base D tyC s H0) (hM : MR D tyC base M H) (hSv : va_S (fun q => base ≤ q) s.heap H locs) (hbs : base ≤ s.heap.size) {n : Nat} {C : String} {T : u_T} {N : Nat} (hcl : clz[r.getD 0 0]? = some (C, T, N))
    (hw1 : gw (r.getD 1 0) (.classLink (own mid) n C) = true) (hw2 : gw (r.getD 2 0) (.instantiable C N) = true) (hw3 : gw (r.getD 3 0) (.initialized C) = true) (hdg : decode (mB mid) pc = .ok (.new n, 3)) (hcells : cells + 1 ≤ R.cells) (hslots : slots + (clD (r.getD 0 0)).length ≤ R.slots)
    (kk : ∀ (H1 : Heap), MR D tyC base (mnew M (clD (r.getD 0 0)).length (.inr (r.getD 0 0, clD (r.getD 0 0)))) H1 → va_S (fun q => base ≤ q) s.heap H1 locs → W p l e R s m args below meth c H1 locs (cells + 1) (slots + (clD (r.getD 0 0)).length) Q (F0 m (pc + 3) ls (.ref M.1 :: st))) : W p l e R s m args below meth c H locs cells slots Q (F0 m pc ls st) := by
  obtain ⟨hty, -, hlen, hdef⟩ := clz_ok hcl
  have hKn := hE.2.2.2.2.1.1 _ _ hcl
  rw [hlen] at hslots kk
  refine W.newcK hexec hb hown (htsG _ (gw_in hw1)) (htsG _ (gw_in hw2)) (htsG _ (gw_in hw3)) rfl hdg hcells hslots hKn.2.1 hM.1 fun H1 kC hkC e1 z1 o1 => ?_
  have z2 : H1.size = H.size + 1 := by rw [z1, hM.1]
  have o2 : ∀ q : Nat, q < H.size → H1[q]? = H[q]? := fun q hq => o1 q (by rw [← hM.1]; exact hq)
  exact kk H1 (hM.push (Nat.le_trans hbs hSv.1) z2 o2 ⟨_, hcl, (u_born (clTy (r.getD 0 0)) htsG (clz_ws hcl) hKn hkC e1 hty).to hdef, hlen⟩) (hSv.push z2 o2)
theorem arD_ok {t : Nat} (h : t < 5) : defaultValue (atY t) = arD t := by
  rcases (show t = 0 ∨ t = 1 ∨ t = 2 ∨ t = 3 ∨ t = 4 by omega) with rfl | rfl | rfl | rfl | rfl <;> rfl
theorem S_newa (hexec : p.tables.exec = Jvm.exec) (hb : c.code = mB mid) (htsG : ∀ w ∈ GL, w.before args s = true) (hE : EN base D tyC s H0) (hM : MR D tyC base M H) (hSv : va_S (fun q => base ≤ q) s.heap H locs) (hbs : base ≤ s.heap.size) {ty : ArrayType} {k : Int32}
    (hw1 : gw (r.getD 1 0) (.arrayClass (newarray.typeOf ty)) = true) (hty : atY (r.getD 0 0) = newarray.typeOf ty) (h5 : r.getD 0 0 < 5) (hk : ¬ k < 0) (hk2 : k.toNatClampNeg ≤ 10000) (hdg : decode (mB mid) pc = .ok (.newarray ty, 2)) (hcells : cells + 1 ≤ R.cells) (hslots : slots + k.toNatClampNeg ≤ R.slots)
    (kk : ∀ (H1 : Heap), MR D tyC base (mnew M k.toNatClampNeg (.inl (r.getD 0 0, k.toNatClampNeg, fun _ => arD (r.getD 0 0)))) H1 → va_S (fun q => base ≤ q) s.heap H1 locs → W p l e R s m args below meth c H1 locs (cells + 1) (slots + k.toNatClampNeg) Q (F0 m (pc + 2) ls (.ref M.1 :: st))) : W p l e R s m args below meth c H locs cells slots Q (F0 m pc ls (.int k :: st)) := by
  have hcb : componentBytes (newarray.typeOf ty) ≤ 8 := by cases ty <;> decide
  have hbytes : k.toNatClampNeg * componentBytes (newarray.typeOf ty) ≤ 536870912 := Nat.le_trans (Nat.mul_le_mul hk2 hcb) (by decide)
  refine va_newaK hexec hb (htsG _ (gw_in hw1)) rfl hdg rfl hk rfl hbytes hcells hslots hM.1 fun H1 cA e1 z1 o1 hAr hNm => ?_
  have z2 : H1.size = H.size + 1 := by rw [z1, hM.1]
  have o2 : ∀ q : Nat, q < H.size → H1[q]? = H[q]? := fun q hq => o1 q (by rw [← hM.1]; exact hq)
  have hra := (hE.2.2.2.2.1.2 (r.getD 0 0) (by omega)).2
  have hcA : tyC (r.getD 0 0) = cA := by
    rw [hty] at hra
    have h1 : s.vm.findClass ("[" ++ (newarray.typeOf ty).toString) = some (tyC (r.getD 0 0)) := by cases ty <;> exact hra
    exact Option.some.inj (h1.symm.trans hNm)
  refine kk H1 (hM.push (Nat.le_trans hbs hSv.1) z2 o2 ⟨by omega, ?_⟩) (hSv.push z2 o2)
  rw [e1, hcA, ← arD_ok h5, hty]
theorem S_anew (hexec : p.tables.exec = Jvm.exec) (hb : c.code = mB mid) (hown : s.vm.findClass (own mid) = some m.cls) (hE : EN base D tyC s H0) (hM : MR D tyC base M H) (hSv : va_S (fun q => base ≤ q) s.heap H locs) (hbs : base ≤ s.heap.size) {n t : Nat} {C : String} {k : Int32}
    (hw1 : (Cond.classLink (own mid) n C).before args s = true) (hao : va_AO C s) (ht : t < 7) (hty : atY t = .object C) (hk : ¬ k < 0) (hk2 : k.toNatClampNeg ≤ 10000) (hdg : decode (mB mid) pc = .ok (.anewarray n, 3)) (hcells : cells + 1 ≤ R.cells) (hslots : slots + k.toNatClampNeg ≤ R.slots)
    (kk : ∀ (H1 : Heap), MR D tyC base (mnew M k.toNatClampNeg (.inl (t, k.toNatClampNeg, fun _ => .null))) H1 → va_S (fun q => base ≤ q) s.heap H1 locs → W p l e R s m args below meth c H1 locs (cells + 1) (slots + k.toNatClampNeg) Q (F0 m (pc + 3) ls (.ref M.1 :: st))) : W p l e R s m args below meth c H locs cells slots Q (F0 m pc ls (.int k :: st)) := by
  have hra := (hE.2.2.2.2.1.2 t ht).2
  rw [hty] at hra
  obtain ⟨kA0, comp0, -, -, -, hra⟩ := hra
  refine W.anew hexec hb hown hw1 (va_AO.use hao) rfl hdg rfl hk (by omega) hcells hslots fun cA kA comp f1 f2 f3 f4 => ?_
  have hcA : tyC t = cA := Option.some.inj (hra.symm.trans f1)
  generalize hH1 : H.push ({ cls := cA, slots := Array.replicate k.toNatClampNeg .null, vm := .none } : Cell) = H1
  have z1 : H1.size = H.size + 1 := by rw [← hH1, Array.size_push]
  have e1 : H1[H.size]? = some (arrV cA k.toNatClampNeg (fun _ => .null)) := by rw [← hH1, Array.getElem?_push_size, ← arrV_new]
  have o1 : ∀ q : Nat, q < H.size → H1[q]? = H[q]? := fun q hq => by rw [← hH1, Array.getElem?_push, if_neg (Nat.ne_of_lt hq)]
  have hz := hM.1
  rw [hz]
  exact kk H1 (hM.push (Nat.le_trans hbs hSv.1) z1 o1 ⟨ht, by rw [← hz, e1, hcA]⟩) (hSv.push z1 o1)
theorem S_iinc (hexec : p.tables.exec = Jvm.exec) (hb : c.code = mB mid) {nL k : Nat} {n : Int} {x : Int32} {L : List (Option Value)} (h : LH ls nL L) (hx : L[k]? = some (some (.int x))) (hw : k = 0 ∨ wide L[k - 1]? = false) (hdg : decode (mB mid) pc = .ok (.iinc k n, 3))
    (kk : ∀ ls' : Array Slot, LH ls' nL (L.set k (some (.int (x + Int32.ofInt n)))) → W p l e R s m args below meth c H locs cells slots Q (F0 m (pc + 3) ls' st)) : W p l e R s m args below meth c H locs cells slots Q (F0 m pc ls st) := by
  have hm : (k, Value.int x) ∈ lvO 0 L := (lvO_mem L 0 k _).mpr ⟨Nat.zero_le _, by simpa using hx⟩
  obtain ⟨j, hj⟩ := List.getElem?_of_mem hm
  have hk : k < nL := by rw [← h.1]; exact (List.getElem?_eq_some_iff.mp hx).1
  exact lv_iinc hexec hb hdg h.has hj rfl hk rfl (fun ls' hl => kk ls' (h.st1 hw hl))
theorem S_tsw (hexec : p.tables.exec = Jvm.exec) (hb : c.code = mB mid) {d lo hi : Int} {os : Array Int} {ln t : Nat} {x : Int32} (h1 : r.length = os.size + 1) (h2 : hi - lo + 1 = os.size) (h3 : (pc : Int) + d = (r.getD 0 0 : Nat)) (h4 : (List.range os.size).all (fun j => decide ((pc : Int) + os.getD j 0 = (r.getD (j + 1) 0 : Nat))) = true)
    (hs : swT r lo hi x = some t) (hdg : decode (mB mid) pc = .ok (.tableswitch d lo hi os, ln))
    (kk : W p l e R s m args below meth c H locs cells slots Q (F0 m t ls st)) : W p l e R s m args below meth c H locs cells slots Q (F0 m pc ls (.int x :: st)) := by
  unfold swT at hs
  split at hs
  · rename_i ho
    refine lv_tableOut hexec hb hdg ho ?_ kk
    rw [h3, List.getD_eq_getElem?_getD, hs]; rfl
  · rename_i ho
    have hj : (x.toInt - lo).toNat < os.size := by omega
    have h5 := List.all_eq_true.mp h4 _ (List.mem_range.mpr hj)
    simp only [decide_eq_true_eq] at h5
    refine lv_tableIn hexec hb hdg (by omega) (by omega) (off := os.getD (x.toInt - lo).toNat 0) ?_ ?_ kk
    · rw [Array.getElem?_eq_getElem hj]; simp [Array.getD, hj]
    · rw [h5, List.getD_eq_getElem?_getD, hs]; rfl
theorem swL_ok {d : Int} {x : Int32} {t d0 : Nat} (h3 : (pc : Int) + d = (d0 : Nat)) : ∀ (ps : List (Int × Int)) (tg : List Nat), ps.length = tg.length → ((ps.zip tg).all fun q => decide ((pc : Int) + q.1.2 = (q.2 : Nat))) = true → swL ps tg (some d0) x = some t → (pc : Int) + Op.lookupswitch.offset ps d x.toInt = (t : Nat) := by
  intro ps
  induction ps with
  | nil =>
    intro tg _ _ h
    simp only [swL] at h
    cases h
    exact h3
  | cons q ps ih =>
    intro tg hlen hall h
    cases tg with
    | nil => simp at hlen
    | cons u tg =>
      simp only [List.zip_cons_cons, List.all_cons, Bool.and_eq_true, decide_eq_true_eq] at hall
      simp only [swL] at h
      obtain ⟨qa, qo⟩ := q
      rw [Op.lookupswitch.offset_cons]
      split at h
      · rename_i hx
        cases h
        rw [if_pos (by simpa using hx.symm)]
        exact hall.1
      · rename_i hx
        rw [if_neg (by intro hc; exact hx (by simpa using hc.symm))]
        exact ih tg (by simpa using hlen) hall.2 h
end JR3
