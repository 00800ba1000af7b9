/-! what holds at the law's entry, and the law's own run -/
theorem st_inst : ((List.range 10).all fun ci => match clz[ci]? with
  | some (C, _, N) => decide (Cond.instantiable C N ∈ lw_tbl)
  | none => false) = true := by decide +kernel
theorem st_str : (SL.all fun q => decide (Cond.exactly (Term.string q.1 q.2.1) "java/lang/String" ∈ flatC (Jvm.Cond.and given_1 narrow_1)) && decide (Cond.stringRef q.1 q.2.1 q.2.2 ∈ lw_tbl)) = true := by decide +kernel
theorem st_nc : ((List.range 5).all fun i => (List.range 5).all fun j => decide (i = j) || decide (Cond.not (.castable (exN i) (exN j)) ∈ flatC (Jvm.Cond.and given_1 narrow_1))) = true := by decide +kernel
theorem st_arr : ((List.range 5).all fun t => decide (Cond.arrayClass (atY t) ∈ lw_tbl)) = true := by decide +kernel
theorem st_w : (decide (Cond.laysStatic Bundle.tN "UNASSIGNED_STACK" Bundle.steD ∈ lw_tbl) && decide (Cond.laysStatic Bundle.tN "SUPPRESSED_SENTINEL" Bundle.listD ∈ lw_tbl) && decide (Cond.initialized Bundle.tN ∈ lw_tbl) && decide (Cond.arrayOver (.object "RegexTracer$Pattern") ∈ lw_tbl) && decide (Cond.arrayOver (.object "RegexTracer$Content") ∈ lw_tbl) &&
  decide (Cond.isRef (.static Bundle.tN "UNASSIGNED_STACK" Bundle.steD) ∈ flatC (Jvm.Cond.and given_1 narrow_1)) && decide (Cond.isRef (.static Bundle.tN "SUPPRESSED_SENTINEL" Bundle.listD) ∈ flatC (Jvm.Cond.and given_1 narrow_1))) = true := by decide +kernel
theorem st_EN {s : State} {args : Array Value} (hts : ∀ w ∈ lw_tbl, w.before args s = true) (hgv : (Jvm.Cond.and given_1 narrow_1).before args s = true) : ∃ (D : va_G) (tyC : Nat → ClassId), EN s.heap.size D tyC s s.heap := by
  have hfl := flat_of_before _ hgv
  have hw := st_w
  simp only [Bool.and_eq_true, decide_eq_true_eq] at hw
  obtain ⟨⟨⟨⟨⟨⟨w1, w2⟩, w3⟩, w4⟩, w5⟩, w6⟩, w7⟩ := hw
  have hA : ∀ a : Nat, a < s.heap.size → ¬ (fun q => s.heap.size ≤ q) a := fun a h1 h2 => absurd h2 (Nat.not_le.mpr h1)
  have hcl : ∀ ci : Nat, ∃ x : ClassId × (Nat → Nat), ∀ q, clz[ci]? = some q → u_Kn s q.1 q.2.1 q.2.2 x.1 x.2 := by
    intro ci
    cases hq : clz[ci]? with
    | none => exact ⟨(0, fun _ => 0), fun q h => by cases h⟩
    | some q =>
      obtain ⟨C, T, N⟩ := q
      have hlt : ci < 10 := (List.getElem?_eq_some_iff.mp hq).1
      have h1 := List.all_eq_true.mp st_inst ci (List.mem_range.mpr hlt)
      rw [hq] at h1
      simp only [decide_eq_true_eq] at h1
      obtain ⟨cC, iS, h⟩ := u_known (C := C) (T := T) (N := N) (n := N) (ws := lw_tbl) hts (fun w hw => (List.mem_filter.mp (clz_ws hq w hw)).1) (hts _ h1)
      exact ⟨(cC, iS), fun q h2 => by cases h2; exact h⟩
  obtain ⟨fD, hfD⟩ := Classical.axiomOfChoice hcl
  have hao : ∀ C : String, Cond.arrayOver (.object C) ∈ lw_tbl → ∃ cA : ClassId, ArrOfT s cA (.object C) ∧ va_RA s cA (.object C) := by
    intro C hC
    obtain ⟨comp, c, k, h1, h2, h3, h4, h5⟩ := Cond.arrayOver_spec (hts _ hC)
    exact ⟨c, fun n z => ⟨fun q h => (by cases h), k, h3, comp, h4⟩, k, comp, h3, h4, h1, h5⟩
  have har : ∀ t : Nat, ∃ cA : ClassId, t < 7 → ArrOfT s cA (atY t) ∧ va_RA s cA (atY t) := by
    intro t
    by_cases h5 : t < 5
    · have h1 := List.all_eq_true.mp st_arr t (List.mem_range.mpr h5)
      simp only [decide_eq_true_eq] at h1
      obtain ⟨c, k, comp, h2, h3, h4⟩ := Cond.arrayClass_spec (hts _ h1)
      refine ⟨c, fun _ => ⟨fun n z => ⟨fun q h => (by cases h), k, h3, comp, h4⟩, ?_⟩⟩
      rcases (show t = 0 ∨ t = 1 ∨ t = 2 ∨ t = 3 ∨ t = 4 by omega) with rfl | rfl | rfl | rfl | rfl <;> exact h2
    · by_cases h7 : t < 7
      · rcases (show t = 5 ∨ t = 6 by omega) with rfl | rfl
        · obtain ⟨cA, h⟩ := hao _ w4
          exact ⟨cA, fun _ => h⟩
        · obtain ⟨cA, h⟩ := hao _ w5
          exact ⟨cA, fun _ => h⟩
      · exact ⟨0, fun h => absurd h h7⟩
  obtain ⟨tyC, htyC⟩ := Classical.axiomOfChoice har
  refine ⟨(fun c => (fD c).1, fun c => (fD c).2), tyC, fun w hw => ?_, fun q hq => ?_, vx_Zqof (hts _ w1) (hts _ w3) (hfl _ w6) hA, vx_Zqof (hts _ w2) (hts _ w3) (hfl _ w7) hA, ⟨fun c q hq => hfD c q hq, fun t ht => htyC t ht⟩, va_AO.of (hts _ w4), va_AO.of (hts _ w5), fun i j hi hj hij => ?_⟩
  · obtain ⟨h1, h2⟩ := List.mem_filter.mp hw
    refine va_Nw.of ?_ (hts _ h1)
    unfold nlk at h2
    split at h2 <;> first | (cases h2; done) | rfl
  · have h1 := List.all_eq_true.mp st_str q hq
    simp only [Bool.and_eq_true, decide_eq_true_eq] at h1
    obtain ⟨a, c, cA, kA, q1, -⟩ := Cond.exactly_spec (args := args) (first := s) (o := none) (s := s) (idx := []) (t := Term.string q.1 q.2.1) (cls := "java/lang/String") (hfl _ h1.1)
    exact ⟨a, vk_R.of (hts _ h1.2) q1⟩
  · have h1 := List.all_eq_true.mp (List.all_eq_true.mp st_nc i (List.mem_range.mpr hi)) j (List.mem_range.mpr hj)
    simp only [Bool.or_eq_true, decide_eq_true_eq] at h1
    rcases h1 with h1 | h1
    · exact absurd h1 hij
    · exact va_Nc.of (hfl _ h1)
theorem st_traces {l : Launch} (h : l.flags = flags0) : l.stackTraces = false := by
  unfold Launch.stackTraces
  rw [h]
  decide +kernel
def M00 (base : Nat) : JM := (base, 0, fun _ => none)
/-- the law's walk, out of the law's run -/
theorem law_run {p : Program} {e : Env} {s : State} {m : MethodId} {below : List Frame} {meth : Method} {c : Code} (l : Launch) (hflags : l.flags = flags0) {b L : Nat} {xs : Nat → Int32} (C0 : lw_At p s m meth c b L xs) (n d : Nat) (hd : d ≤ 2000) (MF : JM)
    (hrun : run (b, L, xs) n d 0 (ent 0 [.ref b] (M00 s.heap.size)) = some (.inl (some (.int 1)), MF)) (hc : MF.1 ≤ s.heap.size + 603072) (hs : MF.2.1 ≤ 7186538) :
    W p l e room_1 s m #[Value.ref b] below meth c s.heap [] 0 0 (lw_Z below #[Value.ref b] s) (entryFrame m ([Value.ref b] : List Value).toArray 9) := by
  obtain ⟨hx, hb, hr, hml, hown, hts, hX, hbl, hlocks, hgv⟩ := id C0
  obtain ⟨D, tyC, hE⟩ := st_EN hts hgv
  have htr := st_traces hflags
  have hCX : CX p l s m #[Value.ref b] meth c 0 s.heap.size D tyC (b, L, xs) :=
    ⟨hx, hb, hr, hml, hown, fun w h => hts w (List.mem_filter.mp h).1, hlocks, fun h => absurd h (by decide +kernel), fun h => absurd h (by omega), htr, hE, Nat.le_refl _, fun _ => ⟨hX, hbl, hbl⟩, by decide⟩
  rw [lg_entry_eq]
  have hl0 := lv_entry [Value.ref b] (n := 9) (Nat.le_of_ble_eq_true rfl)
  have hlen : (entL [Value.ref b]).length ≤ mL 0 := by show 1 ≤ 9; decide
  generalize (lg_sl [Value.ref b] ++ List.replicate (9 - (lg_sl [Value.ref b]).length) Slot.unset).toArray = ls at hl0 ⊢
  obtain ⟨hL1, hL2⟩ := ent_LH (args := [Value.ref b]) 0 (M00 s.heap.size) hlen
  have hL : LH ls (mL 0) (ent 0 [Value.ref b] (M00 s.heap.size)).2.1 := ⟨hL1, hl0.1, hl0.2.1, fun i v h => hl0.2.2 (i, v) (hL2 i v h)⟩
  have key := sndF (p := p) (e := e) (R := room_1) (below := below) (Q := lw_Z below #[Value.ref b] s) (z0 := s.heap.size) (l0 := 0) (d := d) hCX ⟨by show d + 10 ≤ 2048; omega, by show 32 * d + 120 ≤ 94400; omega⟩ ⟨by show 9 ≤ 2048; omega, by show 120 ≤ 94400; omega⟩ (.inl (some (.int 1))) MF ⟨by show MF.1 - s.heap.size ≤ 603072; omega, by show MF.2.1 - 0 ≤ 7186538; omega⟩ ?_ ?_ ?_ n
    (fun k hk d' mid' args' M1 r1 M1' hd h1 h2 h3 h4 => sound l htr s.heap.size D tyC (b, L, xs) k d' mid' args' M1 r1 M1' h1 h2 h3 h4) 0 (ent 0 [Value.ref b] (M00 s.heap.size)).2.1 [] (M00 s.heap.size) ls s.heap [] hrun ⟨rfl, fun a e h => by cases h⟩ va_S.rf hL (Nat.le_refl _) (Nat.le_refl _)
  · rw [show (M00 s.heap.size).1 - s.heap.size = 0 from Nat.sub_self _] at key
    exact key
  · intro v pc i ls H locs hv hMR hS hdg hk
    cases hv
    rcases hk with ⟨h, -⟩ | ⟨w, hw, hro⟩
    · cases h
    · cases hw
      have hi : i = .ireturn := by
        unfold rOk at hro
        split at hro <;> first | (cases hro; done) | rfl | skip
        all_goals (rename_i h9; cases h9)
      subst hi
      refine va_forget (fun q hq => hS.2.2 q hq) ?_
      refine W.widen (k := 603072) (n := 7186538) (by show MF.1 - s.heap.size ≤ 603072; omega) (by show MF.2.1 - 0 ≤ 7186538; omega) ?_
      refine W.base ?_
      exact lw_ret (Drawn.sameBut.refl s.drawn lw_cs) hx hb hr hlocks hdg
  · intro k pc q rr st ls M1 H locs hk
    cases hk
  · intro k pc st ls H locs ce q hk
    cases hk
