/-! small: each row at its place, printed by wip/whole/genx.py -/
section PX22pxsmall
variable {X : JX} {d a a1 a2 a3 a4 : Nat} {L : List (Option Value)} {st : List Value} {M : JM} {Q : JR → JM → Prop} {p q : Int} {b : Bool} {x x2 x3 x4 x5 x6 : Int32} {y y2 : Int64} {z z2 : UInt32} {w w2 : UInt64} {v v2 : Value} {l0 l1 l2 l3 l4 l5 l6 l7 l8 l9 l10 l11 l12 l13 l14 : Option Value}
-- 15 X1_init ()V
theorem x15_0 : XX X d 15 (0, [some (.ref a)], st, M) Q = XX X d 15 (1, [some (.ref a)], .ref a :: st, M) Q := H_ld rfl rfl rfl rfl rfl
theorem x15_0n : XX X d 15 (0, [some (.null)], st, M) Q = XX X d 15 (1, [some (.null)], .null :: st, M) Q := H_ld rfl rfl rfl rfl rfl
theorem x15_1 (hs : stB st = true) : XX X d 15 (1, L, .ref a :: st, M) Q = XX X d 15 (4, L, st, M) Q := H_obj rfl (by decide) rfl rfl rfl hs
theorem x15_4 : XX X d 15 (4, [some (.ref a)], st, M) Q = XX X d 15 (5, [some (.ref a)], .ref a :: st, M) Q := H_ld rfl rfl rfl rfl rfl
theorem x15_4n : XX X d 15 (4, [some (.null)], st, M) Q = XX X d 15 (5, [some (.null)], .null :: st, M) Q := H_ld rfl rfl rfl rfl rfl
theorem x15_5 : XX X d 15 (5, L, st, M) Q = XX X d 15 (6, L, .int (ii 4) :: st, M) Q := G_cst rfl rfl rfl rfl rfl
theorem x15_6 (h : 0 ≤ p ∧ p ≤ 10000) : XX X d 15 (6, L, .int (ii p) :: st, M) Q = XX X d 15 (9, L, .ref M.1 :: st, mnew M p.toNat (AR 5 p.toNat (fun _ => .null))) Q := H_anew rfl (by decide) rfl rfl h
theorem x15_9 : XX X d 15 (9, L, v :: .ref a :: st, M) Q = yp (M.2.2 a) a 1 0 v X d 15 12 L st M Q := G_putf rfl (by decide) rfl rfl rfl
theorem x15_12 : XX X d 15 (12, [some (.ref a)], st, M) Q = XX X d 15 (13, [some (.ref a)], .ref a :: st, M) Q := H_ld rfl rfl rfl rfl rfl
theorem x15_12n : XX X d 15 (12, [some (.null)], st, M) Q = XX X d 15 (13, [some (.null)], .null :: st, M) Q := H_ld rfl rfl rfl rfl rfl
theorem x15_13 : XX X d 15 (13, L, st, M) Q = XX X d 15 (14, L, .int (ii 0) :: st, M) Q := G_cst rfl rfl rfl rfl rfl
theorem x15_14 : XX X d 15 (14, L, v :: .ref a :: st, M) Q = yp (M.2.2 a) a 1 1 v X d 15 17 L st M Q := G_putf rfl (by decide) rfl rfl rfl
theorem x15_17 : XX X d 15 (17, [some (.ref a)], st, M) Q = XX X d 15 (18, [some (.ref a)], .ref a :: st, M) Q := H_ld rfl rfl rfl rfl rfl
theorem x15_17n : XX X d 15 (17, [some (.null)], st, M) Q = XX X d 15 (18, [some (.null)], .null :: st, M) Q := H_ld rfl rfl rfl rfl rfl
theorem x15_18 : XX X d 15 (18, L, st, M) Q = XX X d 15 (21, L, .ref M.1 :: st, mnew M 2 (.inr (6, [.null, .int (ii 0)]))) Q := H_new rfl (by decide) rfl rfl (by decide) rfl rfl
theorem x15_21 (h : v.category = 1) : XX X d 15 (21, L, v :: st, M) Q = XX X d 15 (22, L, v :: v :: st, M) Q := G_sop rfl ⟨rfl, rfl, rfl, by decide⟩ (if_pos h) rfl
theorem x15_22 : XX X d 15 (22, L, st, M) Q = XX X d 15 (24, L, .int (ii 40) :: st, M) Q := G_cst rfl rfl rfl rfl rfl
theorem x15_24 {v1 : Value} (hd : 0 < d) (hs : stB st = true) : XX X d 15 (24, L, v1 :: .ref a :: st, M) Q = CC X (d - 1) 57 [.ref a, v1] M (XC X d 15 24 27 L st Q) := H_spec [v1] rfl (by decide) rfl rfl (by decide) rfl rfl hd hs
theorem x15_27 : XX X d 15 (27, L, v :: .ref a :: st, M) Q = yp (M.2.2 a) a 1 2 v X d 15 30 L st M Q := G_putf rfl (by decide) rfl rfl rfl
theorem x15_30 : XX X d 15 (30, L, [], M) Q = Q (.inl none) M := G_retv rfl (by decide) rfl
theorem e15 : CC X d 15 [.ref a] M Q = XX X d 15 (0, [some (.ref a)], [], M) Q := H_ent rfl rfl
-- 16 X1_size ()I
theorem x16_0 : XX X d 16 (0, [some (.ref a)], st, M) Q = XX X d 16 (1, [some (.ref a)], .ref a :: st, M) Q := H_ld rfl rfl rfl rfl rfl
theorem x16_0n : XX X d 16 (0, [some (.null)], st, M) Q = XX X d 16 (1, [some (.null)], .null :: st, M) Q := H_ld rfl rfl rfl rfl rfl
theorem x16_1 : XX X d 16 (1, L, .ref a :: st, M) Q = yg (M.2.2 a) 1 1 X d 16 4 L st M Q := G_getf rfl (by decide) rfl rfl rfl
theorem x16_4 : XX X d 16 (4, L, [.int (ii p)], M) Q = Q (.inl (some (.int (ii p)))) M := G_ret rfl ⟨⟨⟨rfl, rfl, rfl, by decide⟩, rfl, rfl⟩, rfl, rfl⟩ rfl
theorem e16 : CC X d 16 [.ref a] M Q = XX X d 16 (0, [some (.ref a)], [], M) Q := H_ent rfl rfl
-- 17 X1_isFull ()Z
theorem x17_0 : XX X d 17 (0, [some (.ref a)], st, M) Q = XX X d 17 (1, [some (.ref a)], .ref a :: st, M) Q := H_ld rfl rfl rfl rfl rfl
theorem x17_0n : XX X d 17 (0, [some (.null)], st, M) Q = XX X d 17 (1, [some (.null)], .null :: st, M) Q := H_ld rfl rfl rfl rfl rfl
theorem x17_1 : XX X d 17 (1, L, .ref a :: st, M) Q = yg (M.2.2 a) 1 1 X d 17 4 L st M Q := G_getf rfl (by decide) rfl rfl rfl
theorem x17_4 : XX X d 17 (4, [some (.ref a)], st, M) Q = XX X d 17 (5, [some (.ref a)], .ref a :: st, M) Q := H_ld rfl rfl rfl rfl rfl
theorem x17_4n : XX X d 17 (4, [some (.null)], st, M) Q = XX X d 17 (5, [some (.null)], .null :: st, M) Q := H_ld rfl rfl rfl rfl rfl
theorem x17_5 : XX X d 17 (5, L, .ref a :: st, M) Q = yg (M.2.2 a) 1 0 X d 17 8 L st M Q := G_getf rfl (by decide) rfl rfl rfl
theorem x17_8 : XX X d 17 (8, L, .ref a :: st, M) Q = yn (M.2.2 a) X d 17 9 L st M Q := H_alen rfl (by decide) rfl
theorem x17_9 (h : -2147483648 ≤ p ∧ p ≤ 2147483647 ∧ -2147483648 ≤ q ∧ q ≤ 2147483647) : XX X d 17 (9, L, .int (ii q) :: .int (ii p) :: st, M) Q = bq (p < q) X d 17 16 12 L st M Q := H_if2 rfl ⟨rfl, rfl, rfl, by decide⟩ rfl rfl rfl rfl (D_lt h)
theorem x17_12 : XX X d 17 (12, L, st, M) Q = XX X d 17 (13, L, .int (ii 1) :: st, M) Q := G_cst rfl rfl rfl rfl rfl
theorem x17_13 : XX X d 17 (13, L, st, M) Q = XX X d 17 (17, L, st, M) Q := H_jmp rfl (by decide) rfl
theorem x17_16 : XX X d 17 (16, L, st, M) Q = XX X d 17 (17, L, .int (ii 0) :: st, M) Q := G_cst rfl rfl rfl rfl rfl
theorem x17_17 (h : p = 0 ∨ p = 1) : XX X d 17 (17, L, [.int (ii p)], M) Q = Q (.inl (some (.int (ii p)))) M := G_ret rfl ⟨⟨⟨rfl, rfl, rfl, by decide⟩, rfl, rfl⟩, rfl, rfl⟩ (bz_ok h)
theorem e17 : CC X d 17 [.ref a] M Q = XX X d 17 (0, [some (.ref a)], [], M) Q := H_ent rfl rfl
-- 18 X1_patternAt (I)LRegexTracer$Pattern;
theorem x18_0 : XX X d 18 (0, [l0, some (.int x)], st, M) Q = XX X d 18 (1, [l0, some (.int x)], .int x :: st, M) Q := H_ld rfl rfl rfl rfl rfl
theorem x18_1 (h : -2147483648 ≤ p ∧ p ≤ 2147483647) : XX X d 18 (1, L, .int (ii p) :: st, M) Q = bq (p < 0) X d 18 21 4 L st M Q := H_if rfl ⟨rfl, rfl, rfl, by decide⟩ rfl rfl rfl rfl (D_lt (b := 0) (by omega))
theorem x18_4 : XX X d 18 (4, [l0, some (.int x)], st, M) Q = XX X d 18 (5, [l0, some (.int x)], .int x :: st, M) Q := H_ld rfl rfl rfl rfl rfl
theorem x18_5 : XX X d 18 (5, [some (.ref a), l1], st, M) Q = XX X d 18 (6, [some (.ref a), l1], .ref a :: st, M) Q := H_ld rfl rfl rfl rfl rfl
theorem x18_5n : XX X d 18 (5, [some (.null), l1], st, M) Q = XX X d 18 (6, [some (.null), l1], .null :: st, M) Q := H_ld rfl rfl rfl rfl rfl
theorem x18_6 : XX X d 18 (6, L, .ref a :: st, M) Q = yg (M.2.2 a) 1 1 X d 18 9 L st M Q := G_getf rfl (by decide) rfl rfl rfl
theorem x18_9 (h : -2147483648 ≤ p ∧ p ≤ 2147483647 ∧ -2147483648 ≤ q ∧ q ≤ 2147483647) : XX X d 18 (9, L, .int (ii q) :: .int (ii p) :: st, M) Q = bq (q ≤ p) X d 18 21 12 L st M Q := H_if2 rfl ⟨rfl, rfl, rfl, by decide⟩ rfl rfl rfl rfl (D_le h)
theorem x18_12 : XX X d 18 (12, [l0, some (.int x)], st, M) Q = XX X d 18 (13, [l0, some (.int x)], .int x :: st, M) Q := H_ld rfl rfl rfl rfl rfl
theorem x18_13 : XX X d 18 (13, [some (.ref a), l1], st, M) Q = XX X d 18 (14, [some (.ref a), l1], .ref a :: st, M) Q := H_ld rfl rfl rfl rfl rfl
theorem x18_13n : XX X d 18 (13, [some (.null), l1], st, M) Q = XX X d 18 (14, [some (.null), l1], .null :: st, M) Q := H_ld rfl rfl rfl rfl rfl
theorem x18_14 : XX X d 18 (14, L, .ref a :: st, M) Q = yg (M.2.2 a) 1 0 X d 18 17 L st M Q := G_getf rfl (by decide) rfl rfl rfl
theorem x18_17 : XX X d 18 (17, L, .ref a :: st, M) Q = yn (M.2.2 a) X d 18 18 L st M Q := H_alen rfl (by decide) rfl
theorem x18_18 (h : -2147483648 ≤ p ∧ p ≤ 2147483647 ∧ -2147483648 ≤ q ∧ q ≤ 2147483647) : XX X d 18 (18, L, .int (ii q) :: .int (ii p) :: st, M) Q = bq (p < q) X d 18 23 21 L st M Q := H_if2 rfl ⟨rfl, rfl, rfl, by decide⟩ rfl rfl rfl rfl (D_lt h)
theorem x18_21 : XX X d 18 (21, L, st, M) Q = XX X d 18 (22, L, .null :: st, M) Q := G_cst rfl rfl rfl rfl rfl
theorem x18_22 : XX X d 18 (22, L, [.ref a], M) Q = Q (.inl (some (.ref a))) M := G_ret rfl ⟨⟨⟨rfl, rfl, rfl, by decide⟩, rfl, rfl⟩, rfl, rfl⟩ rfl
theorem x18_22n : XX X d 18 (22, L, [.null], M) Q = Q (.inl (some .null)) M := G_ret rfl ⟨⟨⟨rfl, rfl, rfl, by decide⟩, rfl, rfl⟩, rfl, rfl⟩ rfl
theorem x18_23 : XX X d 18 (23, [some (.ref a), l1], st, M) Q = XX X d 18 (24, [some (.ref a), l1], .ref a :: st, M) Q := H_ld rfl rfl rfl rfl rfl
theorem x18_23n : XX X d 18 (23, [some (.null), l1], st, M) Q = XX X d 18 (24, [some (.null), l1], .null :: st, M) Q := H_ld rfl rfl rfl rfl rfl
theorem x18_24 : XX X d 18 (24, L, .ref a :: st, M) Q = yg (M.2.2 a) 1 0 X d 18 27 L st M Q := G_getf rfl (by decide) rfl rfl rfl
theorem x18_27 : XX X d 18 (27, [l0, some (.int x)], st, M) Q = XX X d 18 (28, [l0, some (.int x)], .int x :: st, M) Q := H_ld rfl rfl rfl rfl rfl
theorem x18_28 : XX X d 18 (28, L, .int x :: .ref a :: st, M) Q = ya (M.2.2 a) .aaload x X d 18 29 L st M Q := G_ald rfl ⟨⟨rfl, rfl, rfl, by decide⟩, rfl, rfl⟩ rfl rfl
theorem x18_29 : XX X d 18 (29, L, [.ref a], M) Q = Q (.inl (some (.ref a))) M := G_ret rfl ⟨⟨⟨rfl, rfl, rfl, by decide⟩, rfl, rfl⟩, rfl, rfl⟩ rfl
theorem x18_29n : XX X d 18 (29, L, [.null], M) Q = Q (.inl (some .null)) M := G_ret rfl ⟨⟨⟨rfl, rfl, rfl, by decide⟩, rfl, rfl⟩, rfl, rfl⟩ rfl
theorem e18 : CC X d 18 [.ref a, .int x] M Q = XX X d 18 (0, [some (.ref a), some (.int x)], [], M) Q := H_ent rfl rfl
-- 19 X1_addPattern (LRegexTracer$Pattern;)V
theorem x19_0 : XX X d 19 (0, [some (.ref a), l1, l2], st, M) Q = XX X d 19 (1, [some (.ref a), l1, l2], .ref a :: st, M) Q := H_ld rfl rfl rfl rfl rfl
theorem x19_0n : XX X d 19 (0, [some (.null), l1, l2], st, M) Q = XX X d 19 (1, [some (.null), l1, l2], .null :: st, M) Q := H_ld rfl rfl rfl rfl rfl
theorem x19_1 : XX X d 19 (1, L, .ref a :: st, M) Q = yg (M.2.2 a) 1 1 X d 19 4 L st M Q := G_getf rfl (by decide) rfl rfl rfl
theorem x19_4 (h : wide (some l1) = false) : XX X d 19 (4, [l0, l1, l2], .int x :: st, M) Q = XX X d 19 (5, [l0, l1, some (.int x)], st, M) Q := H_st rfl rfl rfl rfl rfl rfl rfl rfl (Or.inr h)
theorem x19_5 : XX X d 19 (5, [l0, l1, some (.int x)], st, M) Q = XX X d 19 (6, [l0, l1, some (.int x)], .int x :: st, M) Q := H_ld rfl rfl rfl rfl rfl
theorem x19_6 (h : -2147483648 ≤ p ∧ p ≤ 2147483647) : XX X d 19 (6, L, .int (ii p) :: st, M) Q = bq (p < 0) X d 19 32 9 L st M Q := H_if rfl ⟨rfl, rfl, rfl, by decide⟩ rfl rfl rfl rfl (D_lt (b := 0) (by omega))
theorem x19_9 : XX X d 19 (9, [l0, l1, some (.int x)], st, M) Q = XX X d 19 (10, [l0, l1, some (.int x)], .int x :: st, M) Q := H_ld rfl rfl rfl rfl rfl
theorem x19_10 : XX X d 19 (10, [some (.ref a), l1, l2], st, M) Q = XX X d 19 (11, [some (.ref a), l1, l2], .ref a :: st, M) Q := H_ld rfl rfl rfl rfl rfl
theorem x19_10n : XX X d 19 (10, [some (.null), l1, l2], st, M) Q = XX X d 19 (11, [some (.null), l1, l2], .null :: st, M) Q := H_ld rfl rfl rfl rfl rfl
theorem x19_11 : XX X d 19 (11, L, .ref a :: st, M) Q = yg (M.2.2 a) 1 0 X d 19 14 L st M Q := G_getf rfl (by decide) rfl rfl rfl
theorem x19_14 : XX X d 19 (14, L, .ref a :: st, M) Q = yn (M.2.2 a) X d 19 15 L st M Q := H_alen rfl (by decide) rfl
theorem x19_15 (h : -2147483648 ≤ p ∧ p ≤ 2147483647 ∧ -2147483648 ≤ q ∧ q ≤ 2147483647) : XX X d 19 (15, L, .int (ii q) :: .int (ii p) :: st, M) Q = bq (q ≤ p) X d 19 32 18 L st M Q := H_if2 rfl ⟨rfl, rfl, rfl, by decide⟩ rfl rfl rfl rfl (D_le h)
theorem x19_18 : XX X d 19 (18, [some (.ref a), l1, l2], st, M) Q = XX X d 19 (19, [some (.ref a), l1, l2], .ref a :: st, M) Q := H_ld rfl rfl rfl rfl rfl
theorem x19_18n : XX X d 19 (18, [some (.null), l1, l2], st, M) Q = XX X d 19 (19, [some (.null), l1, l2], .null :: st, M) Q := H_ld rfl rfl rfl rfl rfl
theorem x19_19 : XX X d 19 (19, L, .ref a :: st, M) Q = yg (M.2.2 a) 1 0 X d 19 22 L st M Q := G_getf rfl (by decide) rfl rfl rfl
theorem x19_22 : XX X d 19 (22, [l0, l1, some (.int x)], st, M) Q = XX X d 19 (23, [l0, l1, some (.int x)], .int x :: st, M) Q := H_ld rfl rfl rfl rfl rfl
theorem x19_23 : XX X d 19 (23, [l0, some (.ref a), l2], st, M) Q = XX X d 19 (24, [l0, some (.ref a), l2], .ref a :: st, M) Q := H_ld rfl rfl rfl rfl rfl
theorem x19_23n : XX X d 19 (23, [l0, some (.null), l2], st, M) Q = XX X d 19 (24, [l0, some (.null), l2], .null :: st, M) Q := H_ld rfl rfl rfl rfl rfl
theorem x19_24 : XX X d 19 (24, L, v :: .int x :: .ref a :: st, M) Q = yw (M.2.2 a) a .aastore v x X d 19 25 L st M Q := G_ast rfl ⟨⟨rfl, rfl, rfl, by decide⟩, rfl, rfl⟩ rfl rfl rfl
theorem x19_25 : XX X d 19 (25, [some (.ref a), l1, l2], st, M) Q = XX X d 19 (26, [some (.ref a), l1, l2], .ref a :: st, M) Q := H_ld rfl rfl rfl rfl rfl
theorem x19_25n : XX X d 19 (25, [some (.null), l1, l2], st, M) Q = XX X d 19 (26, [some (.null), l1, l2], .null :: st, M) Q := H_ld rfl rfl rfl rfl rfl
theorem x19_26 : XX X d 19 (26, [l0, l1, some (.int x)], st, M) Q = XX X d 19 (27, [l0, l1, some (.int x)], .int x :: st, M) Q := H_ld rfl rfl rfl rfl rfl
theorem x19_27 : XX X d 19 (27, L, st, M) Q = XX X d 19 (28, L, .int (ii 1) :: st, M) Q := G_cst rfl rfl rfl rfl rfl
theorem x19_28 : XX X d 19 (28, L, .int (ii q) :: .int (ii p) :: st, M) Q = XX X d 19 (29, L, .int (ii (p + q)) :: st, M) Q := H_add rfl (by decide) rfl
theorem x19_29 : XX X d 19 (29, L, v :: .ref a :: st, M) Q = yp (M.2.2 a) a 1 1 v X d 19 32 L st M Q := G_putf rfl (by decide) rfl rfl rfl
theorem x19_32 : XX X d 19 (32, L, [], M) Q = Q (.inl none) M := G_retv rfl (by decide) rfl
theorem e19 : CC X d 19 [.ref a, .ref a1] M Q = XX X d 19 (0, [some (.ref a), some (.ref a1), none], [], M) Q := H_ent rfl rfl
-- 20 X1_dropPattern (I)V
theorem x20_0 : XX X d 20 (0, [l0, some (.int x), l2], st, M) Q = XX X d 20 (1, [l0, some (.int x), l2], .int x :: st, M) Q := H_ld rfl rfl rfl rfl rfl
theorem x20_1 (h : -2147483648 ≤ p ∧ p ≤ 2147483647) : XX X d 20 (1, L, .int (ii p) :: st, M) Q = bq (p < 0) X d 20 12 4 L st M Q := H_if rfl ⟨rfl, rfl, rfl, by decide⟩ rfl rfl rfl rfl (D_lt (b := 0) (by omega))
theorem x20_4 : XX X d 20 (4, [l0, some (.int x), l2], st, M) Q = XX X d 20 (5, [l0, some (.int x), l2], .int x :: st, M) Q := H_ld rfl rfl rfl rfl rfl
theorem x20_5 : XX X d 20 (5, [some (.ref a), l1, l2], st, M) Q = XX X d 20 (6, [some (.ref a), l1, l2], .ref a :: st, M) Q := H_ld rfl rfl rfl rfl rfl
theorem x20_5n : XX X d 20 (5, [some (.null), l1, l2], st, M) Q = XX X d 20 (6, [some (.null), l1, l2], .null :: st, M) Q := H_ld rfl rfl rfl rfl rfl
theorem x20_6 : XX X d 20 (6, L, .ref a :: st, M) Q = yg (M.2.2 a) 1 1 X d 20 9 L st M Q := G_getf rfl (by decide) rfl rfl rfl
theorem x20_9 (h : -2147483648 ≤ p ∧ p ≤ 2147483647 ∧ -2147483648 ≤ q ∧ q ≤ 2147483647) : XX X d 20 (9, L, .int (ii q) :: .int (ii p) :: st, M) Q = bq (p < q) X d 20 13 12 L st M Q := H_if2 rfl ⟨rfl, rfl, rfl, by decide⟩ rfl rfl rfl rfl (D_lt h)
theorem x20_12 : XX X d 20 (12, L, [], M) Q = Q (.inl none) M := G_retv rfl (by decide) rfl
theorem x20_13 : XX X d 20 (13, [l0, some (.int x), l2], st, M) Q = XX X d 20 (14, [l0, some (.int x), l2], .int x :: st, M) Q := H_ld rfl rfl rfl rfl rfl
theorem x20_14 (h : wide (some l1) = false) : XX X d 20 (14, [l0, l1, l2], .int x :: st, M) Q = XX X d 20 (15, [l0, l1, some (.int x)], st, M) Q := H_st rfl rfl rfl rfl rfl rfl rfl rfl (Or.inr h)
theorem x20_15 : XX X d 20 (15, [l0, l1, some (.int x)], st, M) Q = XX X d 20 (16, [l0, l1, some (.int x)], .int x :: st, M) Q := H_ld rfl rfl rfl rfl rfl
theorem x20_16 : XX X d 20 (16, [some (.ref a), l1, l2], st, M) Q = XX X d 20 (17, [some (.ref a), l1, l2], .ref a :: st, M) Q := H_ld rfl rfl rfl rfl rfl
theorem x20_16n : XX X d 20 (16, [some (.null), l1, l2], st, M) Q = XX X d 20 (17, [some (.null), l1, l2], .null :: st, M) Q := H_ld rfl rfl rfl rfl rfl
theorem x20_17 : XX X d 20 (17, L, .ref a :: st, M) Q = yg (M.2.2 a) 1 1 X d 20 20 L st M Q := G_getf rfl (by decide) rfl rfl rfl
theorem x20_20 (h : -2147483648 ≤ p ∧ p ≤ 2147483647 ∧ -2147483648 ≤ q ∧ q ≤ 2147483647) : XX X d 20 (20, L, .int (ii q) :: .int (ii p) :: st, M) Q = bq (q ≤ p) X d 20 51 23 L st M Q := H_if2 rfl ⟨rfl, rfl, rfl, by decide⟩ rfl rfl rfl rfl (D_le h)
theorem x20_23 : XX X d 20 (23, [l0, l1, some (.int x)], st, M) Q = XX X d 20 (24, [l0, l1, some (.int x)], .int x :: st, M) Q := H_ld rfl rfl rfl rfl rfl
theorem x20_24 : XX X d 20 (24, [some (.ref a), l1, l2], st, M) Q = XX X d 20 (25, [some (.ref a), l1, l2], .ref a :: st, M) Q := H_ld rfl rfl rfl rfl rfl
theorem x20_24n : XX X d 20 (24, [some (.null), l1, l2], st, M) Q = XX X d 20 (25, [some (.null), l1, l2], .null :: st, M) Q := H_ld rfl rfl rfl rfl rfl
theorem x20_25 : XX X d 20 (25, L, .ref a :: st, M) Q = yg (M.2.2 a) 1 0 X d 20 28 L st M Q := G_getf rfl (by decide) rfl rfl rfl
theorem x20_28 : XX X d 20 (28, L, .ref a :: st, M) Q = yn (M.2.2 a) X d 20 29 L st M Q := H_alen rfl (by decide) rfl
theorem x20_29 (h : -2147483648 ≤ p ∧ p ≤ 2147483647 ∧ -2147483648 ≤ q ∧ q ≤ 2147483647) : XX X d 20 (29, L, .int (ii q) :: .int (ii p) :: st, M) Q = bq (q ≤ p) X d 20 51 32 L st M Q := H_if2 rfl ⟨rfl, rfl, rfl, by decide⟩ rfl rfl rfl rfl (D_le h)
theorem x20_32 : XX X d 20 (32, [some (.ref a), l1, l2], st, M) Q = XX X d 20 (33, [some (.ref a), l1, l2], .ref a :: st, M) Q := H_ld rfl rfl rfl rfl rfl
theorem x20_32n : XX X d 20 (32, [some (.null), l1, l2], st, M) Q = XX X d 20 (33, [some (.null), l1, l2], .null :: st, M) Q := H_ld rfl rfl rfl rfl rfl
theorem x20_33 : XX X d 20 (33, L, .ref a :: st, M) Q = yg (M.2.2 a) 1 0 X d 20 36 L st M Q := G_getf rfl (by decide) rfl rfl rfl
theorem x20_36 : XX X d 20 (36, [l0, l1, some (.int x)], st, M) Q = XX X d 20 (37, [l0, l1, some (.int x)], .int x :: st, M) Q := H_ld rfl rfl rfl rfl rfl
theorem x20_37 : XX X d 20 (37, [some (.ref a), l1, l2], st, M) Q = XX X d 20 (38, [some (.ref a), l1, l2], .ref a :: st, M) Q := H_ld rfl rfl rfl rfl rfl
theorem x20_37n : XX X d 20 (37, [some (.null), l1, l2], st, M) Q = XX X d 20 (38, [some (.null), l1, l2], .null :: st, M) Q := H_ld rfl rfl rfl rfl rfl
theorem x20_38 : XX X d 20 (38, [l0, l1, some (.int x)], st, M) Q = XX X d 20 (39, [l0, l1, some (.int x)], .int x :: st, M) Q := H_ld rfl rfl rfl rfl rfl
theorem x20_39 : XX X d 20 (39, L, st, M) Q = XX X d 20 (40, L, .int (ii 1) :: st, M) Q := G_cst rfl rfl rfl rfl rfl
theorem x20_40 : XX X d 20 (40, L, .int (ii q) :: .int (ii p) :: st, M) Q = XX X d 20 (41, L, .int (ii (p + q)) :: st, M) Q := H_add rfl (by decide) rfl
theorem x20_41 {v1 : Value} (hd : 0 < d) (hs : stB st = true) : XX X d 20 (41, L, v1 :: .ref a :: st, M) Q = (mcl M a = some 1 ∧ CC X (d - 1) 18 [.ref a, v1] M (XC X d 20 41 44 L st Q)) := H_virt [v1] rfl (by decide) rfl rfl rfl rfl rfl hd hs
theorem x20_44 : XX X d 20 (44, L, v :: .int x :: .ref a :: st, M) Q = yw (M.2.2 a) a .aastore v x X d 20 45 L st M Q := G_ast rfl ⟨⟨rfl, rfl, rfl, by decide⟩, rfl, rfl⟩ rfl rfl rfl
theorem x20_45 (h : wide (some l1) = false) : XX X d 20 (45, [l0, l1, some (.int (ii p))], st, M) Q = XX X d 20 (48, [l0, l1, some (.int (ii (p + 1)))], st, M) Q := H_inc rfl (by decide) rfl rfl rfl (Or.inr h)
theorem x20_48 : XX X d 20 (48, L, st, M) Q = XX X d 20 (15, L, st, M) Q := H_jmp rfl (by decide) rfl
theorem x20_51 : XX X d 20 (51, [some (.ref a), l1, l2], st, M) Q = XX X d 20 (52, [some (.ref a), l1, l2], .ref a :: st, M) Q := H_ld rfl rfl rfl rfl rfl
theorem x20_51n : XX X d 20 (51, [some (.null), l1, l2], st, M) Q = XX X d 20 (52, [some (.null), l1, l2], .null :: st, M) Q := H_ld rfl rfl rfl rfl rfl
theorem x20_52 (h : v.category = 1) : XX X d 20 (52, L, v :: st, M) Q = XX X d 20 (53, L, v :: v :: st, M) Q := G_sop rfl ⟨rfl, rfl, rfl, by decide⟩ (if_pos h) rfl
theorem x20_53 : XX X d 20 (53, L, .ref a :: st, M) Q = yg (M.2.2 a) 1 1 X d 20 56 L st M Q := G_getf rfl (by decide) rfl rfl rfl
theorem x20_56 : XX X d 20 (56, L, st, M) Q = XX X d 20 (57, L, .int (ii 1) :: st, M) Q := G_cst rfl rfl rfl rfl rfl
theorem x20_57 : XX X d 20 (57, L, .int (ii q) :: .int (ii p) :: st, M) Q = XX X d 20 (58, L, .int (ii (p - q)) :: st, M) Q := H_sub rfl (by decide) rfl
theorem x20_58 : XX X d 20 (58, L, v :: .ref a :: st, M) Q = yp (M.2.2 a) a 1 1 v X d 20 61 L st M Q := G_putf rfl (by decide) rfl rfl rfl
theorem x20_61 : XX X d 20 (61, L, [], M) Q = Q (.inl none) M := G_retv rfl (by decide) rfl
theorem e20 : CC X d 20 [.ref a, .int x] M Q = XX X d 20 (0, [some (.ref a), some (.int x), none], [], M) Q := H_ent rfl rfl
-- 21 X1_copyFrom (LRegexTracer$Content;)V
theorem x21_0 : XX X d 21 (0, [some (.ref a), l1, l2], st, M) Q = XX X d 21 (1, [some (.ref a), l1, l2], .ref a :: st, M) Q := H_ld rfl rfl rfl rfl rfl
theorem x21_0n : XX X d 21 (0, [some (.null), l1, l2], st, M) Q = XX X d 21 (1, [some (.null), l1, l2], .null :: st, M) Q := H_ld rfl rfl rfl rfl rfl
theorem x21_1 : XX X d 21 (1, L, st, M) Q = XX X d 21 (2, L, .int (ii 0) :: st, M) Q := G_cst rfl rfl rfl rfl rfl
theorem x21_2 : XX X d 21 (2, L, v :: .ref a :: st, M) Q = yp (M.2.2 a) a 1 1 v X d 21 5 L st M Q := G_putf rfl (by decide) rfl rfl rfl
theorem x21_5 : XX X d 21 (5, L, st, M) Q = XX X d 21 (6, L, .int (ii 0) :: st, M) Q := G_cst rfl rfl rfl rfl rfl
theorem x21_6 (h : wide (some l1) = false) : XX X d 21 (6, [l0, l1, l2], .int x :: st, M) Q = XX X d 21 (7, [l0, l1, some (.int x)], st, M) Q := H_st rfl rfl rfl rfl rfl rfl rfl rfl (Or.inr h)
theorem x21_7 : XX X d 21 (7, [l0, l1, some (.int x)], st, M) Q = XX X d 21 (8, [l0, l1, some (.int x)], .int x :: st, M) Q := H_ld rfl rfl rfl rfl rfl
theorem x21_8 : XX X d 21 (8, [l0, some (.ref a), l2], st, M) Q = XX X d 21 (9, [l0, some (.ref a), l2], .ref a :: st, M) Q := H_ld rfl rfl rfl rfl rfl
theorem x21_8n : XX X d 21 (8, [l0, some (.null), l2], st, M) Q = XX X d 21 (9, [l0, some (.null), l2], .null :: st, M) Q := H_ld rfl rfl rfl rfl rfl
theorem x21_9 : XX X d 21 (9, L, .ref a :: st, M) Q = yg (M.2.2 a) 1 1 X d 21 12 L st M Q := G_getf rfl (by decide) rfl rfl rfl
theorem x21_12 (h : -2147483648 ≤ p ∧ p ≤ 2147483647 ∧ -2147483648 ≤ q ∧ q ≤ 2147483647) : XX X d 21 (12, L, .int (ii q) :: .int (ii p) :: st, M) Q = bq (q ≤ p) X d 21 30 15 L st M Q := H_if2 rfl ⟨rfl, rfl, rfl, by decide⟩ rfl rfl rfl rfl (D_le h)
theorem x21_15 : XX X d 21 (15, [some (.ref a), l1, l2], st, M) Q = XX X d 21 (16, [some (.ref a), l1, l2], .ref a :: st, M) Q := H_ld rfl rfl rfl rfl rfl
theorem x21_15n : XX X d 21 (15, [some (.null), l1, l2], st, M) Q = XX X d 21 (16, [some (.null), l1, l2], .null :: st, M) Q := H_ld rfl rfl rfl rfl rfl
theorem x21_16 : XX X d 21 (16, [l0, some (.ref a), l2], st, M) Q = XX X d 21 (17, [l0, some (.ref a), l2], .ref a :: st, M) Q := H_ld rfl rfl rfl rfl rfl
theorem x21_16n : XX X d 21 (16, [l0, some (.null), l2], st, M) Q = XX X d 21 (17, [l0, some (.null), l2], .null :: st, M) Q := H_ld rfl rfl rfl rfl rfl
theorem x21_17 : XX X d 21 (17, [l0, l1, some (.int x)], st, M) Q = XX X d 21 (18, [l0, l1, some (.int x)], .int x :: st, M) Q := H_ld rfl rfl rfl rfl rfl
theorem x21_18 {v1 : Value} (hd : 0 < d) (hs : stB st = true) : XX X d 21 (18, L, v1 :: .ref a :: st, M) Q = (mcl M a = some 1 ∧ CC X (d - 1) 18 [.ref a, v1] M (XC X d 21 18 21 L st Q)) := H_virt [v1] rfl (by decide) rfl rfl rfl rfl rfl hd hs
theorem x21_21 {v1 : Value} (hd : 0 < d) (hs : stB st = true) : XX X d 21 (21, L, v1 :: .ref a :: st, M) Q = (mcl M a = some 1 ∧ CC X (d - 1) 19 [.ref a, v1] M (XC X d 21 21 24 L st Q)) := H_virt [v1] rfl (by decide) rfl rfl rfl rfl rfl hd hs
theorem x21_24 (h : wide (some l1) = false) : XX X d 21 (24, [l0, l1, some (.int (ii p))], st, M) Q = XX X d 21 (27, [l0, l1, some (.int (ii (p + 1)))], st, M) Q := H_inc rfl (by decide) rfl rfl rfl (Or.inr h)
theorem x21_27 : XX X d 21 (27, L, st, M) Q = XX X d 21 (7, L, st, M) Q := H_jmp rfl (by decide) rfl
theorem x21_30 : XX X d 21 (30, [some (.ref a), l1, l2], st, M) Q = XX X d 21 (31, [some (.ref a), l1, l2], .ref a :: st, M) Q := H_ld rfl rfl rfl rfl rfl
theorem x21_30n : XX X d 21 (30, [some (.null), l1, l2], st, M) Q = XX X d 21 (31, [some (.null), l1, l2], .null :: st, M) Q := H_ld rfl rfl rfl rfl rfl
theorem x21_31 : XX X d 21 (31, L, .ref a :: st, M) Q = yg (M.2.2 a) 1 2 X d 21 34 L st M Q := G_getf rfl (by decide) rfl rfl rfl
theorem x21_34 : XX X d 21 (34, [l0, some (.ref a), l2], st, M) Q = XX X d 21 (35, [l0, some (.ref a), l2], .ref a :: st, M) Q := H_ld rfl rfl rfl rfl rfl
theorem x21_34n : XX X d 21 (34, [l0, some (.null), l2], st, M) Q = XX X d 21 (35, [l0, some (.null), l2], .null :: st, M) Q := H_ld rfl rfl rfl rfl rfl
theorem x21_35 : XX X d 21 (35, L, .ref a :: st, M) Q = yg (M.2.2 a) 1 2 X d 21 38 L st M Q := G_getf rfl (by decide) rfl rfl rfl
theorem x21_38 {v1 : Value} (hd : 0 < d) (hs : stB st = true) : XX X d 21 (38, L, v1 :: .ref a :: st, M) Q = (mcl M a = some 6 ∧ CC X (d - 1) 69 [.ref a, v1] M (XC X d 21 38 41 L st Q)) := H_virt [v1] rfl (by decide) rfl rfl rfl rfl rfl hd hs
theorem x21_41 : XX X d 21 (41, L, [], M) Q = Q (.inl none) M := G_retv rfl (by decide) rfl
theorem e21 : CC X d 21 [.ref a, .ref a1] M Q = XX X d 21 (0, [some (.ref a), some (.ref a1), none], [], M) Q := H_ent rfl rfl
-- 22 X2_init ()V
theorem x22_0 : XX X d 22 (0, [some (.ref a), l1], st, M) Q = XX X d 22 (1, [some (.ref a), l1], .ref a :: st, M) Q := H_ld rfl rfl rfl rfl rfl
theorem x22_0n : XX X d 22 (0, [some (.null), l1], st, M) Q = XX X d 22 (1, [some (.null), l1], .null :: st, M) Q := H_ld rfl rfl rfl rfl rfl
theorem x22_1 (hs : stB st = true) : XX X d 22 (1, L, .ref a :: st, M) Q = XX X d 22 (4, L, st, M) Q := H_obj rfl (by decide) rfl rfl rfl hs
theorem x22_4 : XX X d 22 (4, [some (.ref a), l1], st, M) Q = XX X d 22 (5, [some (.ref a), l1], .ref a :: st, M) Q := H_ld rfl rfl rfl rfl rfl
theorem x22_4n : XX X d 22 (4, [some (.null), l1], st, M) Q = XX X d 22 (5, [some (.null), l1], .null :: st, M) Q := H_ld rfl rfl rfl rfl rfl
theorem x22_5 : XX X d 22 (5, L, st, M) Q = XX X d 22 (7, L, .int (ii 8) :: st, M) Q := G_cst rfl rfl rfl rfl rfl
theorem x22_7 (h : 0 ≤ p ∧ p ≤ 10000) : XX X d 22 (7, L, .int (ii p) :: st, M) Q = XX X d 22 (10, L, .ref M.1 :: st, mnew M p.toNat (AR 6 p.toNat (fun _ => .null))) Q := H_anew rfl (by decide) rfl rfl h
theorem x22_10 : XX X d 22 (10, L, v :: .ref a :: st, M) Q = yp (M.2.2 a) a 2 0 v X d 22 13 L st M Q := G_putf rfl (by decide) rfl rfl rfl
theorem x22_13 : XX X d 22 (13, [some (.ref a), l1], st, M) Q = XX X d 22 (14, [some (.ref a), l1], .ref a :: st, M) Q := H_ld rfl rfl rfl rfl rfl
theorem x22_13n : XX X d 22 (13, [some (.null), l1], st, M) Q = XX X d 22 (14, [some (.null), l1], .null :: st, M) Q := H_ld rfl rfl rfl rfl rfl
theorem x22_14 : XX X d 22 (14, L, st, M) Q = XX X d 22 (15, L, .int (ii 0) :: st, M) Q := G_cst rfl rfl rfl rfl rfl
theorem x22_15 : XX X d 22 (15, L, v :: .ref a :: st, M) Q = yp (M.2.2 a) a 2 1 v X d 22 18 L st M Q := G_putf rfl (by decide) rfl rfl rfl
theorem x22_18 : XX X d 22 (18, [some (.ref a), l1], st, M) Q = XX X d 22 (19, [some (.ref a), l1], .ref a :: st, M) Q := H_ld rfl rfl rfl rfl rfl
theorem x22_18n : XX X d 22 (18, [some (.null), l1], st, M) Q = XX X d 22 (19, [some (.null), l1], .null :: st, M) Q := H_ld rfl rfl rfl rfl rfl
theorem x22_19 : XX X d 22 (19, L, st, M) Q = XX X d 22 (20, L, .int (ii 0) :: st, M) Q := G_cst rfl rfl rfl rfl rfl
theorem x22_20 : XX X d 22 (20, L, v :: .ref a :: st, M) Q = yp (M.2.2 a) a 2 2 v X d 22 23 L st M Q := G_putf rfl (by decide) rfl rfl rfl
theorem x22_23 : XX X d 22 (23, L, st, M) Q = XX X d 22 (24, L, .int (ii 0) :: st, M) Q := G_cst rfl rfl rfl rfl rfl
theorem x22_24 (h : wide (some l0) = false) : XX X d 22 (24, [l0, l1], .int x :: st, M) Q = XX X d 22 (25, [l0, some (.int x)], st, M) Q := H_st rfl rfl rfl rfl rfl rfl rfl rfl (Or.inr h)
theorem x22_25 : XX X d 22 (25, [l0, some (.int x)], st, M) Q = XX X d 22 (26, [l0, some (.int x)], .int x :: st, M) Q := H_ld rfl rfl rfl rfl rfl
theorem x22_26 : XX X d 22 (26, [some (.ref a), l1], st, M) Q = XX X d 22 (27, [some (.ref a), l1], .ref a :: st, M) Q := H_ld rfl rfl rfl rfl rfl
theorem x22_26n : XX X d 22 (26, [some (.null), l1], st, M) Q = XX X d 22 (27, [some (.null), l1], .null :: st, M) Q := H_ld rfl rfl rfl rfl rfl
theorem x22_27 : XX X d 22 (27, L, .ref a :: st, M) Q = yg (M.2.2 a) 2 0 X d 22 30 L st M Q := G_getf rfl (by decide) rfl rfl rfl
theorem x22_30 : XX X d 22 (30, L, .ref a :: st, M) Q = yn (M.2.2 a) X d 22 31 L st M Q := H_alen rfl (by decide) rfl
theorem x22_31 (h : -2147483648 ≤ p ∧ p ≤ 2147483647 ∧ -2147483648 ≤ q ∧ q ≤ 2147483647) : XX X d 22 (31, L, .int (ii q) :: .int (ii p) :: st, M) Q = bq (q ≤ p) X d 22 53 34 L st M Q := H_if2 rfl ⟨rfl, rfl, rfl, by decide⟩ rfl rfl rfl rfl (D_le h)
theorem x22_34 : XX X d 22 (34, [some (.ref a), l1], st, M) Q = XX X d 22 (35, [some (.ref a), l1], .ref a :: st, M) Q := H_ld rfl rfl rfl rfl rfl
theorem x22_34n : XX X d 22 (34, [some (.null), l1], st, M) Q = XX X d 22 (35, [some (.null), l1], .null :: st, M) Q := H_ld rfl rfl rfl rfl rfl
theorem x22_35 : XX X d 22 (35, L, .ref a :: st, M) Q = yg (M.2.2 a) 2 0 X d 22 38 L st M Q := G_getf rfl (by decide) rfl rfl rfl
theorem x22_38 : XX X d 22 (38, [l0, some (.int x)], st, M) Q = XX X d 22 (39, [l0, some (.int x)], .int x :: st, M) Q := H_ld rfl rfl rfl rfl rfl
theorem x22_39 : XX X d 22 (39, L, st, M) Q = XX X d 22 (42, L, .ref M.1 :: st, mnew M 3 (.inr (1, [.null, .int (ii 0), .null]))) Q := H_new rfl (by decide) rfl rfl (by decide) rfl rfl
theorem x22_42 (h : v.category = 1) : XX X d 22 (42, L, v :: st, M) Q = XX X d 22 (43, L, v :: v :: st, M) Q := G_sop rfl ⟨rfl, rfl, rfl, by decide⟩ (if_pos h) rfl
theorem x22_43 (hd : 0 < d) (hs : stB st = true) : XX X d 22 (43, L, .ref a :: st, M) Q = CC X (d - 1) 15 [.ref a] M (XC X d 22 43 46 L st Q) := H_spec [] rfl (by decide) rfl rfl (by decide) rfl rfl hd hs
theorem x22_46 : XX X d 22 (46, L, v :: .int x :: .ref a :: st, M) Q = yw (M.2.2 a) a .aastore v x X d 22 47 L st M Q := G_ast rfl ⟨⟨rfl, rfl, rfl, by decide⟩, rfl, rfl⟩ rfl rfl rfl
theorem x22_47 (h : wide (some l0) = false) : XX X d 22 (47, [l0, some (.int (ii p))], st, M) Q = XX X d 22 (50, [l0, some (.int (ii (p + 1)))], st, M) Q := H_inc rfl (by decide) rfl rfl rfl (Or.inr h)
theorem x22_50 : XX X d 22 (50, L, st, M) Q = XX X d 22 (25, L, st, M) Q := H_jmp rfl (by decide) rfl
theorem x22_53 : XX X d 22 (53, L, [], M) Q = Q (.inl none) M := G_retv rfl (by decide) rfl
theorem e22 : CC X d 22 [.ref a] M Q = XX X d 22 (0, [some (.ref a), none], [], M) Q := H_ent rfl rfl
-- 23 X2_size ()I
theorem x23_0 : XX X d 23 (0, [some (.ref a)], st, M) Q = XX X d 23 (1, [some (.ref a)], .ref a :: st, M) Q := H_ld rfl rfl rfl rfl rfl
theorem x23_0n : XX X d 23 (0, [some (.null)], st, M) Q = XX X d 23 (1, [some (.null)], .null :: st, M) Q := H_ld rfl rfl rfl rfl rfl
theorem x23_1 : XX X d 23 (1, L, .ref a :: st, M) Q = yg (M.2.2 a) 2 2 X d 23 4 L st M Q := G_getf rfl (by decide) rfl rfl rfl
theorem x23_4 : XX X d 23 (4, L, [.int (ii p)], M) Q = Q (.inl (some (.int (ii p)))) M := G_ret rfl ⟨⟨⟨rfl, rfl, rfl, by decide⟩, rfl, rfl⟩, rfl, rfl⟩ rfl
theorem e23 : CC X d 23 [.ref a] M Q = XX X d 23 (0, [some (.ref a)], [], M) Q := H_ent rfl rfl
-- 24 X2_clear ()V
theorem x24_0 : XX X d 24 (0, [some (.ref a)], st, M) Q = XX X d 24 (1, [some (.ref a)], .ref a :: st, M) Q := H_ld rfl rfl rfl rfl rfl
theorem x24_0n : XX X d 24 (0, [some (.null)], st, M) Q = XX X d 24 (1, [some (.null)], .null :: st, M) Q := H_ld rfl rfl rfl rfl rfl
theorem x24_1 : XX X d 24 (1, L, st, M) Q = XX X d 24 (2, L, .int (ii 0) :: st, M) Q := G_cst rfl rfl rfl rfl rfl
theorem x24_2 : XX X d 24 (2, L, v :: .ref a :: st, M) Q = yp (M.2.2 a) a 2 2 v X d 24 5 L st M Q := G_putf rfl (by decide) rfl rfl rfl
theorem x24_5 : XX X d 24 (5, L, [], M) Q = Q (.inl none) M := G_retv rfl (by decide) rfl
theorem e24 : CC X d 24 [.ref a] M Q = XX X d 24 (0, [some (.ref a)], [], M) Q := H_ent rfl rfl
-- 25 X2_remember (LRegexTracer$Content;)V
theorem x25_0 : XX X d 25 (0, [some (.ref a), l1, l2], st, M) Q = XX X d 25 (1, [some (.ref a), l1, l2], .ref a :: st, M) Q := H_ld rfl rfl rfl rfl rfl
theorem x25_0n : XX X d 25 (0, [some (.null), l1, l2], st, M) Q = XX X d 25 (1, [some (.null), l1, l2], .null :: st, M) Q := H_ld rfl rfl rfl rfl rfl
theorem x25_1 : XX X d 25 (1, L, .ref a :: st, M) Q = yg (M.2.2 a) 2 2 X d 25 4 L st M Q := G_getf rfl (by decide) rfl rfl rfl
theorem x25_4 : XX X d 25 (4, L, st, M) Q = XX X d 25 (6, L, .int (ii 8) :: st, M) Q := G_cst rfl rfl rfl rfl rfl
theorem x25_6 (h : -2147483648 ≤ p ∧ p ≤ 2147483647 ∧ -2147483648 ≤ q ∧ q ≤ 2147483647) : XX X d 25 (6, L, .int (ii q) :: .int (ii p) :: st, M) Q = bq (p < q) X d 25 32 9 L st M Q := H_if2 rfl ⟨rfl, rfl, rfl, by decide⟩ rfl rfl rfl rfl (D_lt h)
theorem x25_9 : XX X d 25 (9, [some (.ref a), l1, l2], st, M) Q = XX X d 25 (10, [some (.ref a), l1, l2], .ref a :: st, M) Q := H_ld rfl rfl rfl rfl rfl
theorem x25_9n : XX X d 25 (9, [some (.null), l1, l2], st, M) Q = XX X d 25 (10, [some (.null), l1, l2], .null :: st, M) Q := H_ld rfl rfl rfl rfl rfl
theorem x25_10 : XX X d 25 (10, [some (.ref a), l1, l2], st, M) Q = XX X d 25 (11, [some (.ref a), l1, l2], .ref a :: st, M) Q := H_ld rfl rfl rfl rfl rfl
theorem x25_10n : XX X d 25 (10, [some (.null), l1, l2], st, M) Q = XX X d 25 (11, [some (.null), l1, l2], .null :: st, M) Q := H_ld rfl rfl rfl rfl rfl
theorem x25_11 : XX X d 25 (11, L, .ref a :: st, M) Q = yg (M.2.2 a) 2 1 X d 25 14 L st M Q := G_getf rfl (by decide) rfl rfl rfl
theorem x25_14 : XX X d 25 (14, L, st, M) Q = XX X d 25 (15, L, .int (ii 1) :: st, M) Q := G_cst rfl rfl rfl rfl rfl
theorem x25_15 : XX X d 25 (15, L, .int (ii q) :: .int (ii p) :: st, M) Q = XX X d 25 (16, L, .int (ii (p + q)) :: st, M) Q := H_add rfl (by decide) rfl
theorem x25_16 : XX X d 25 (16, L, st, M) Q = XX X d 25 (18, L, .int (ii 8) :: st, M) Q := G_cst rfl rfl rfl rfl rfl
theorem x25_18 (h : 0 ≤ p ∧ p ≤ 2147483647 ∧ 0 < q ∧ q ≤ 2147483647) : XX X d 25 (18, L, .int (ii q) :: .int (ii p) :: st, M) Q = XX X d 25 (19, L, .int (ii (p % q)) :: st, M) Q := H_rem rfl (by decide) rfl h
theorem x25_19 : XX X d 25 (19, L, v :: .ref a :: st, M) Q = yp (M.2.2 a) a 2 1 v X d 25 22 L st M Q := G_putf rfl (by decide) rfl rfl rfl
theorem x25_22 : XX X d 25 (22, [some (.ref a), l1, l2], st, M) Q = XX X d 25 (23, [some (.ref a), l1, l2], .ref a :: st, M) Q := H_ld rfl rfl rfl rfl rfl
theorem x25_22n : XX X d 25 (22, [some (.null), l1, l2], st, M) Q = XX X d 25 (23, [some (.null), l1, l2], .null :: st, M) Q := H_ld rfl rfl rfl rfl rfl
theorem x25_23 (h : v.category = 1) : XX X d 25 (23, L, v :: st, M) Q = XX X d 25 (24, L, v :: v :: st, M) Q := G_sop rfl ⟨rfl, rfl, rfl, by decide⟩ (if_pos h) rfl
theorem x25_24 : XX X d 25 (24, L, .ref a :: st, M) Q = yg (M.2.2 a) 2 2 X d 25 27 L st M Q := G_getf rfl (by decide) rfl rfl rfl
theorem x25_27 : XX X d 25 (27, L, st, M) Q = XX X d 25 (28, L, .int (ii 1) :: st, M) Q := G_cst rfl rfl rfl rfl rfl
theorem x25_28 : XX X d 25 (28, L, .int (ii q) :: .int (ii p) :: st, M) Q = XX X d 25 (29, L, .int (ii (p - q)) :: st, M) Q := H_sub rfl (by decide) rfl
theorem x25_29 : XX X d 25 (29, L, v :: .ref a :: st, M) Q = yp (M.2.2 a) a 2 2 v X d 25 32 L st M Q := G_putf rfl (by decide) rfl rfl rfl
theorem x25_32 : XX X d 25 (32, [some (.ref a), l1, l2], st, M) Q = XX X d 25 (33, [some (.ref a), l1, l2], .ref a :: st, M) Q := H_ld rfl rfl rfl rfl rfl
theorem x25_32n : XX X d 25 (32, [some (.null), l1, l2], st, M) Q = XX X d 25 (33, [some (.null), l1, l2], .null :: st, M) Q := H_ld rfl rfl rfl rfl rfl
theorem x25_33 : XX X d 25 (33, [some (.ref a), l1, l2], st, M) Q = XX X d 25 (34, [some (.ref a), l1, l2], .ref a :: st, M) Q := H_ld rfl rfl rfl rfl rfl
theorem x25_33n : XX X d 25 (33, [some (.null), l1, l2], st, M) Q = XX X d 25 (34, [some (.null), l1, l2], .null :: st, M) Q := H_ld rfl rfl rfl rfl rfl
theorem x25_34 : XX X d 25 (34, L, .ref a :: st, M) Q = yg (M.2.2 a) 2 2 X d 25 37 L st M Q := G_getf rfl (by decide) rfl rfl rfl
theorem x25_37 {v1 : Value} (hd : 0 < d) (hs : stB st = true) : XX X d 25 (37, L, v1 :: .ref a :: st, M) Q = (mcl M a = some 2 ∧ CC X (d - 1) 27 [.ref a, v1] M (XC X d 25 37 40 L st Q)) := H_virt [v1] rfl (by decide) rfl rfl rfl rfl rfl hd hs
theorem x25_40 (h : wide (some l1) = false) : XX X d 25 (40, [l0, l1, l2], .ref a :: st, M) Q = XX X d 25 (41, [l0, l1, some (.ref a)], st, M) Q := H_st rfl rfl rfl rfl rfl rfl rfl rfl (Or.inr h)
theorem x25_40n (h : wide (some l1) = false) : XX X d 25 (40, [l0, l1, l2], .null :: st, M) Q = XX X d 25 (41, [l0, l1, some (.null)], st, M) Q := H_st rfl rfl rfl rfl rfl rfl rfl rfl (Or.inr h)
theorem x25_41 : XX X d 25 (41, [l0, l1, some (.ref a)], st, M) Q = XX X d 25 (42, [l0, l1, some (.ref a)], .ref a :: st, M) Q := H_ld rfl rfl rfl rfl rfl
theorem x25_41n : XX X d 25 (41, [l0, l1, some (.null)], st, M) Q = XX X d 25 (42, [l0, l1, some (.null)], .null :: st, M) Q := H_ld rfl rfl rfl rfl rfl
theorem x25_42n : XX X d 25 (42, L, .null :: st, M) Q = XX X d 25 (60, L, st, M) Q := G_jmp rfl ⟨rfl, rfl, rfl, by decide⟩ rfl rfl rfl
theorem x25_42 : XX X d 25 (42, L, .ref a :: st, M) Q = XX X d 25 (45, L, st, M) Q := G_jmp rfl ⟨rfl, rfl, rfl, by decide⟩ rfl rfl rfl
theorem x25_45 : XX X d 25 (45, [l0, l1, some (.ref a)], st, M) Q = XX X d 25 (46, [l0, l1, some (.ref a)], .ref a :: st, M) Q := H_ld rfl rfl rfl rfl rfl
theorem x25_45n : XX X d 25 (45, [l0, l1, some (.null)], st, M) Q = XX X d 25 (46, [l0, l1, some (.null)], .null :: st, M) Q := H_ld rfl rfl rfl rfl rfl
theorem x25_46 : XX X d 25 (46, [l0, some (.ref a), l2], st, M) Q = XX X d 25 (47, [l0, some (.ref a), l2], .ref a :: st, M) Q := H_ld rfl rfl rfl rfl rfl
theorem x25_46n : XX X d 25 (46, [l0, some (.null), l2], st, M) Q = XX X d 25 (47, [l0, some (.null), l2], .null :: st, M) Q := H_ld rfl rfl rfl rfl rfl
theorem x25_47 {v1 : Value} (hd : 0 < d) (hs : stB st = true) : XX X d 25 (47, L, v1 :: .ref a :: st, M) Q = (mcl M a = some 1 ∧ CC X (d - 1) 21 [.ref a, v1] M (XC X d 25 47 50 L st Q)) := H_virt [v1] rfl (by decide) rfl rfl rfl rfl rfl hd hs
theorem x25_50 : XX X d 25 (50, [some (.ref a), l1, l2], st, M) Q = XX X d 25 (51, [some (.ref a), l1, l2], .ref a :: st, M) Q := H_ld rfl rfl rfl rfl rfl
theorem x25_50n : XX X d 25 (50, [some (.null), l1, l2], st, M) Q = XX X d 25 (51, [some (.null), l1, l2], .null :: st, M) Q := H_ld rfl rfl rfl rfl rfl
theorem x25_51 (h : v.category = 1) : XX X d 25 (51, L, v :: st, M) Q = XX X d 25 (52, L, v :: v :: st, M) Q := G_sop rfl ⟨rfl, rfl, rfl, by decide⟩ (if_pos h) rfl
theorem x25_52 : XX X d 25 (52, L, .ref a :: st, M) Q = yg (M.2.2 a) 2 2 X d 25 55 L st M Q := G_getf rfl (by decide) rfl rfl rfl
theorem x25_55 : XX X d 25 (55, L, st, M) Q = XX X d 25 (56, L, .int (ii 1) :: st, M) Q := G_cst rfl rfl rfl rfl rfl
theorem x25_56 : XX X d 25 (56, L, .int (ii q) :: .int (ii p) :: st, M) Q = XX X d 25 (57, L, .int (ii (p + q)) :: st, M) Q := H_add rfl (by decide) rfl
theorem x25_57 : XX X d 25 (57, L, v :: .ref a :: st, M) Q = yp (M.2.2 a) a 2 2 v X d 25 60 L st M Q := G_putf rfl (by decide) rfl rfl rfl
theorem x25_60 : XX X d 25 (60, L, [], M) Q = Q (.inl none) M := G_retv rfl (by decide) rfl
theorem e25 : CC X d 25 [.ref a, .ref a1] M Q = XX X d 25 (0, [some (.ref a), some (.ref a1), none], [], M) Q := H_ent rfl rfl
-- 26 X2_takeBack (LRegexTracer$Content;)V
theorem x26_0 : XX X d 26 (0, [some (.ref a), l1, l2], st, M) Q = XX X d 26 (1, [some (.ref a), l1, l2], .ref a :: st, M) Q := H_ld rfl rfl rfl rfl rfl
theorem x26_0n : XX X d 26 (0, [some (.null), l1, l2], st, M) Q = XX X d 26 (1, [some (.null), l1, l2], .null :: st, M) Q := H_ld rfl rfl rfl rfl rfl
theorem x26_1 : XX X d 26 (1, L, .ref a :: st, M) Q = yg (M.2.2 a) 2 2 X d 26 4 L st M Q := G_getf rfl (by decide) rfl rfl rfl
theorem x26_4 (h : -2147483648 ≤ p ∧ p ≤ 2147483647) : XX X d 26 (4, L, .int (ii p) :: st, M) Q = bq (0 < p) X d 26 8 7 L st M Q := H_if rfl ⟨rfl, rfl, rfl, by decide⟩ rfl rfl rfl rfl (D_gt (b := 0) (by omega))
theorem x26_7 : XX X d 26 (7, L, [], M) Q = Q (.inl none) M := G_retv rfl (by decide) rfl
theorem x26_8 : XX X d 26 (8, [some (.ref a), l1, l2], st, M) Q = XX X d 26 (9, [some (.ref a), l1, l2], .ref a :: st, M) Q := H_ld rfl rfl rfl rfl rfl
theorem x26_8n : XX X d 26 (8, [some (.null), l1, l2], st, M) Q = XX X d 26 (9, [some (.null), l1, l2], .null :: st, M) Q := H_ld rfl rfl rfl rfl rfl
theorem x26_9 (h : v.category = 1) : XX X d 26 (9, L, v :: st, M) Q = XX X d 26 (10, L, v :: v :: st, M) Q := G_sop rfl ⟨rfl, rfl, rfl, by decide⟩ (if_pos h) rfl
theorem x26_10 : XX X d 26 (10, L, .ref a :: st, M) Q = yg (M.2.2 a) 2 2 X d 26 13 L st M Q := G_getf rfl (by decide) rfl rfl rfl
theorem x26_13 : XX X d 26 (13, L, st, M) Q = XX X d 26 (14, L, .int (ii 1) :: st, M) Q := G_cst rfl rfl rfl rfl rfl
theorem x26_14 : XX X d 26 (14, L, .int (ii q) :: .int (ii p) :: st, M) Q = XX X d 26 (15, L, .int (ii (p - q)) :: st, M) Q := H_sub rfl (by decide) rfl
theorem x26_15 : XX X d 26 (15, L, v :: .ref a :: st, M) Q = yp (M.2.2 a) a 2 2 v X d 26 18 L st M Q := G_putf rfl (by decide) rfl rfl rfl
theorem x26_18 : XX X d 26 (18, [some (.ref a), l1, l2], st, M) Q = XX X d 26 (19, [some (.ref a), l1, l2], .ref a :: st, M) Q := H_ld rfl rfl rfl rfl rfl
theorem x26_18n : XX X d 26 (18, [some (.null), l1, l2], st, M) Q = XX X d 26 (19, [some (.null), l1, l2], .null :: st, M) Q := H_ld rfl rfl rfl rfl rfl
theorem x26_19 : XX X d 26 (19, [some (.ref a), l1, l2], st, M) Q = XX X d 26 (20, [some (.ref a), l1, l2], .ref a :: st, M) Q := H_ld rfl rfl rfl rfl rfl
theorem x26_19n : XX X d 26 (19, [some (.null), l1, l2], st, M) Q = XX X d 26 (20, [some (.null), l1, l2], .null :: st, M) Q := H_ld rfl rfl rfl rfl rfl
theorem x26_20 : XX X d 26 (20, L, .ref a :: st, M) Q = yg (M.2.2 a) 2 2 X d 26 23 L st M Q := G_getf rfl (by decide) rfl rfl rfl
theorem x26_23 {v1 : Value} (hd : 0 < d) (hs : stB st = true) : XX X d 26 (23, L, v1 :: .ref a :: st, M) Q = (mcl M a = some 2 ∧ CC X (d - 1) 27 [.ref a, v1] M (XC X d 26 23 26 L st Q)) := H_virt [v1] rfl (by decide) rfl rfl rfl rfl rfl hd hs
theorem x26_26 (h : wide (some l1) = false) : XX X d 26 (26, [l0, l1, l2], .ref a :: st, M) Q = XX X d 26 (27, [l0, l1, some (.ref a)], st, M) Q := H_st rfl rfl rfl rfl rfl rfl rfl rfl (Or.inr h)
theorem x26_26n (h : wide (some l1) = false) : XX X d 26 (26, [l0, l1, l2], .null :: st, M) Q = XX X d 26 (27, [l0, l1, some (.null)], st, M) Q := H_st rfl rfl rfl rfl rfl rfl rfl rfl (Or.inr h)
theorem x26_27 : XX X d 26 (27, [l0, l1, some (.ref a)], st, M) Q = XX X d 26 (28, [l0, l1, some (.ref a)], .ref a :: st, M) Q := H_ld rfl rfl rfl rfl rfl
theorem x26_27n : XX X d 26 (27, [l0, l1, some (.null)], st, M) Q = XX X d 26 (28, [l0, l1, some (.null)], .null :: st, M) Q := H_ld rfl rfl rfl rfl rfl
theorem x26_28n : XX X d 26 (28, L, .null :: st, M) Q = XX X d 26 (36, L, st, M) Q := G_jmp rfl ⟨rfl, rfl, rfl, by decide⟩ rfl rfl rfl
theorem x26_28 : XX X d 26 (28, L, .ref a :: st, M) Q = XX X d 26 (31, L, st, M) Q := G_jmp rfl ⟨rfl, rfl, rfl, by decide⟩ rfl rfl rfl
theorem x26_31 : XX X d 26 (31, [l0, some (.ref a), l2], st, M) Q = XX X d 26 (32, [l0, some (.ref a), l2], .ref a :: st, M) Q := H_ld rfl rfl rfl rfl rfl
theorem x26_31n : XX X d 26 (31, [l0, some (.null), l2], st, M) Q = XX X d 26 (32, [l0, some (.null), l2], .null :: st, M) Q := H_ld rfl rfl rfl rfl rfl
theorem x26_32 : XX X d 26 (32, [l0, l1, some (.ref a)], st, M) Q = XX X d 26 (33, [l0, l1, some (.ref a)], .ref a :: st, M) Q := H_ld rfl rfl rfl rfl rfl
theorem x26_32n : XX X d 26 (32, [l0, l1, some (.null)], st, M) Q = XX X d 26 (33, [l0, l1, some (.null)], .null :: st, M) Q := H_ld rfl rfl rfl rfl rfl
theorem x26_33 {v1 : Value} (hd : 0 < d) (hs : stB st = true) : XX X d 26 (33, L, v1 :: .ref a :: st, M) Q = (mcl M a = some 1 ∧ CC X (d - 1) 21 [.ref a, v1] M (XC X d 26 33 36 L st Q)) := H_virt [v1] rfl (by decide) rfl rfl rfl rfl rfl hd hs
theorem x26_36 : XX X d 26 (36, L, [], M) Q = Q (.inl none) M := G_retv rfl (by decide) rfl
theorem e26 : CC X d 26 [.ref a, .ref a1] M Q = XX X d 26 (0, [some (.ref a), some (.ref a1), none], [], M) Q := H_ent rfl rfl
-- 27 X2_placeAt (I)LRegexTracer$Content;
theorem x27_0 : XX X d 27 (0, [some (.ref a), l1, l2], st, M) Q = XX X d 27 (1, [some (.ref a), l1, l2], .ref a :: st, M) Q := H_ld rfl rfl rfl rfl rfl
theorem x27_0n : XX X d 27 (0, [some (.null), l1, l2], st, M) Q = XX X d 27 (1, [some (.null), l1, l2], .null :: st, M) Q := H_ld rfl rfl rfl rfl rfl
theorem x27_1 : XX X d 27 (1, L, .ref a :: st, M) Q = yg (M.2.2 a) 2 1 X d 27 4 L st M Q := G_getf rfl (by decide) rfl rfl rfl
theorem x27_4 : XX X d 27 (4, [l0, some (.int x), l2], st, M) Q = XX X d 27 (5, [l0, some (.int x), l2], .int x :: st, M) Q := H_ld rfl rfl rfl rfl rfl
theorem x27_5 : XX X d 27 (5, L, .int (ii q) :: .int (ii p) :: st, M) Q = XX X d 27 (6, L, .int (ii (p + q)) :: st, M) Q := H_add rfl (by decide) rfl
theorem x27_6 : XX X d 27 (6, L, st, M) Q = XX X d 27 (8, L, .int (ii 8) :: st, M) Q := G_cst rfl rfl rfl rfl rfl
theorem x27_8 (h : 0 ≤ p ∧ p ≤ 2147483647 ∧ 0 < q ∧ q ≤ 2147483647) : XX X d 27 (8, L, .int (ii q) :: .int (ii p) :: st, M) Q = XX X d 27 (9, L, .int (ii (p % q)) :: st, M) Q := H_rem rfl (by decide) rfl h
theorem x27_9 (h : wide (some l1) = false) : XX X d 27 (9, [l0, l1, l2], .int x :: st, M) Q = XX X d 27 (10, [l0, l1, some (.int x)], st, M) Q := H_st rfl rfl rfl rfl rfl rfl rfl rfl (Or.inr h)
theorem x27_10 : XX X d 27 (10, [l0, l1, some (.int x)], st, M) Q = XX X d 27 (11, [l0, l1, some (.int x)], .int x :: st, M) Q := H_ld rfl rfl rfl rfl rfl
theorem x27_11 (h : -2147483648 ≤ p ∧ p ≤ 2147483647) : XX X d 27 (11, L, .int (ii p) :: st, M) Q = bq (p < 0) X d 27 23 14 L st M Q := H_if rfl ⟨rfl, rfl, rfl, by decide⟩ rfl rfl rfl rfl (D_lt (b := 0) (by omega))
theorem x27_14 : XX X d 27 (14, [l0, l1, some (.int x)], st, M) Q = XX X d 27 (15, [l0, l1, some (.int x)], .int x :: st, M) Q := H_ld rfl rfl rfl rfl rfl
theorem x27_15 : XX X d 27 (15, [some (.ref a), l1, l2], st, M) Q = XX X d 27 (16, [some (.ref a), l1, l2], .ref a :: st, M) Q := H_ld rfl rfl rfl rfl rfl
theorem x27_15n : XX X d 27 (15, [some (.null), l1, l2], st, M) Q = XX X d 27 (16, [some (.null), l1, l2], .null :: st, M) Q := H_ld rfl rfl rfl rfl rfl
theorem x27_16 : XX X d 27 (16, L, .ref a :: st, M) Q = yg (M.2.2 a) 2 0 X d 27 19 L st M Q := G_getf rfl (by decide) rfl rfl rfl
theorem x27_19 : XX X d 27 (19, L, .ref a :: st, M) Q = yn (M.2.2 a) X d 27 20 L st M Q := H_alen rfl (by decide) rfl
theorem x27_20 (h : -2147483648 ≤ p ∧ p ≤ 2147483647 ∧ -2147483648 ≤ q ∧ q ≤ 2147483647) : XX X d 27 (20, L, .int (ii q) :: .int (ii p) :: st, M) Q = bq (p < q) X d 27 25 23 L st M Q := H_if2 rfl ⟨rfl, rfl, rfl, by decide⟩ rfl rfl rfl rfl (D_lt h)
theorem x27_23 : XX X d 27 (23, L, st, M) Q = XX X d 27 (24, L, .null :: st, M) Q := G_cst rfl rfl rfl rfl rfl
theorem x27_24 : XX X d 27 (24, L, [.ref a], M) Q = Q (.inl (some (.ref a))) M := G_ret rfl ⟨⟨⟨rfl, rfl, rfl, by decide⟩, rfl, rfl⟩, rfl, rfl⟩ rfl
theorem x27_24n : XX X d 27 (24, L, [.null], M) Q = Q (.inl (some .null)) M := G_ret rfl ⟨⟨⟨rfl, rfl, rfl, by decide⟩, rfl, rfl⟩, rfl, rfl⟩ rfl
theorem x27_25 : XX X d 27 (25, [some (.ref a), l1, l2], st, M) Q = XX X d 27 (26, [some (.ref a), l1, l2], .ref a :: st, M) Q := H_ld rfl rfl rfl rfl rfl
theorem x27_25n : XX X d 27 (25, [some (.null), l1, l2], st, M) Q = XX X d 27 (26, [some (.null), l1, l2], .null :: st, M) Q := H_ld rfl rfl rfl rfl rfl
theorem x27_26 : XX X d 27 (26, L, .ref a :: st, M) Q = yg (M.2.2 a) 2 0 X d 27 29 L st M Q := G_getf rfl (by decide) rfl rfl rfl
theorem x27_29 : XX X d 27 (29, [l0, l1, some (.int x)], st, M) Q = XX X d 27 (30, [l0, l1, some (.int x)], .int x :: st, M) Q := H_ld rfl rfl rfl rfl rfl
theorem x27_30 : XX X d 27 (30, L, .int x :: .ref a :: st, M) Q = ya (M.2.2 a) .aaload x X d 27 31 L st M Q := G_ald rfl ⟨⟨rfl, rfl, rfl, by decide⟩, rfl, rfl⟩ rfl rfl
theorem x27_31 : XX X d 27 (31, L, [.ref a], M) Q = Q (.inl (some (.ref a))) M := G_ret rfl ⟨⟨⟨rfl, rfl, rfl, by decide⟩, rfl, rfl⟩, rfl, rfl⟩ rfl
theorem x27_31n : XX X d 27 (31, L, [.null], M) Q = Q (.inl (some .null)) M := G_ret rfl ⟨⟨⟨rfl, rfl, rfl, by decide⟩, rfl, rfl⟩, rfl, rfl⟩ rfl
theorem e27 : CC X d 27 [.ref a, .int x] M Q = XX X d 27 (0, [some (.ref a), some (.int x), none], [], M) Q := H_ent rfl rfl
-- 28 X3_init (LRegexTracer$Level;II)V
theorem x28_0 : XX X d 28 (0, [some (.ref a), l1, l2, l3], st, M) Q = XX X d 28 (1, [some (.ref a), l1, l2, l3], .ref a :: st, M) Q := H_ld rfl rfl rfl rfl rfl
theorem x28_0n : XX X d 28 (0, [some (.null), l1, l2, l3], st, M) Q = XX X d 28 (1, [some (.null), l1, l2, l3], .null :: st, M) Q := H_ld rfl rfl rfl rfl rfl
theorem x28_1 (hs : stB st = true) : XX X d 28 (1, L, .ref a :: st, M) Q = XX X d 28 (4, L, st, M) Q := H_obj rfl (by decide) rfl rfl rfl hs
theorem x28_4 : XX X d 28 (4, [some (.ref a), l1, l2, l3], st, M) Q = XX X d 28 (5, [some (.ref a), l1, l2, l3], .ref a :: st, M) Q := H_ld rfl rfl rfl rfl rfl
theorem x28_4n : XX X d 28 (4, [some (.null), l1, l2, l3], st, M) Q = XX X d 28 (5, [some (.null), l1, l2, l3], .null :: st, M) Q := H_ld rfl rfl rfl rfl rfl
theorem x28_5 : XX X d 28 (5, L, st, M) Q = XX X d 28 (6, L, .int (ii 0) :: st, M) Q := G_cst rfl rfl rfl rfl rfl
theorem x28_6 : XX X d 28 (6, L, v :: .ref a :: st, M) Q = yp (M.2.2 a) a 3 4 v X d 28 9 L st M Q := G_putf rfl (by decide) rfl rfl rfl
theorem x28_9 : XX X d 28 (9, [some (.ref a), l1, l2, l3], st, M) Q = XX X d 28 (10, [some (.ref a), l1, l2, l3], .ref a :: st, M) Q := H_ld rfl rfl rfl rfl rfl
theorem x28_9n : XX X d 28 (9, [some (.null), l1, l2, l3], st, M) Q = XX X d 28 (10, [some (.null), l1, l2, l3], .null :: st, M) Q := H_ld rfl rfl rfl rfl rfl
theorem x28_10 : XX X d 28 (10, L, st, M) Q = XX X d 28 (11, L, .int (ii 0) :: st, M) Q := G_cst rfl rfl rfl rfl rfl
theorem x28_11 : XX X d 28 (11, L, v :: .ref a :: st, M) Q = yp (M.2.2 a) a 3 5 v X d 28 14 L st M Q := G_putf rfl (by decide) rfl rfl rfl
theorem x28_14 : XX X d 28 (14, [some (.ref a), l1, l2, l3], st, M) Q = XX X d 28 (15, [some (.ref a), l1, l2, l3], .ref a :: st, M) Q := H_ld rfl rfl rfl rfl rfl
theorem x28_14n : XX X d 28 (14, [some (.null), l1, l2, l3], st, M) Q = XX X d 28 (15, [some (.null), l1, l2, l3], .null :: st, M) Q := H_ld rfl rfl rfl rfl rfl
theorem x28_15 : XX X d 28 (15, L, st, M) Q = XX X d 28 (16, L, .int (ii 0) :: st, M) Q := G_cst rfl rfl rfl rfl rfl
theorem x28_16 : XX X d 28 (16, L, v :: .ref a :: st, M) Q = yp (M.2.2 a) a 3 6 v X d 28 19 L st M Q := G_putf rfl (by decide) rfl rfl rfl
theorem x28_19 : XX X d 28 (19, [some (.ref a), l1, l2, l3], st, M) Q = XX X d 28 (20, [some (.ref a), l1, l2, l3], .ref a :: st, M) Q := H_ld rfl rfl rfl rfl rfl
theorem x28_19n : XX X d 28 (19, [some (.null), l1, l2, l3], st, M) Q = XX X d 28 (20, [some (.null), l1, l2, l3], .null :: st, M) Q := H_ld rfl rfl rfl rfl rfl
theorem x28_20 : XX X d 28 (20, L, st, M) Q = XX X d 28 (21, L, .int (ii 0) :: st, M) Q := G_cst rfl rfl rfl rfl rfl
theorem x28_21 : XX X d 28 (21, L, v :: .ref a :: st, M) Q = yp (M.2.2 a) a 3 7 v X d 28 24 L st M Q := G_putf rfl (by decide) rfl rfl rfl
theorem x28_24 : XX X d 28 (24, [some (.ref a), l1, l2, l3], st, M) Q = XX X d 28 (25, [some (.ref a), l1, l2, l3], .ref a :: st, M) Q := H_ld rfl rfl rfl rfl rfl
theorem x28_24n : XX X d 28 (24, [some (.null), l1, l2, l3], st, M) Q = XX X d 28 (25, [some (.null), l1, l2, l3], .null :: st, M) Q := H_ld rfl rfl rfl rfl rfl
theorem x28_25 : XX X d 28 (25, L, st, M) Q = XX X d 28 (26, L, .int (ii 0) :: st, M) Q := G_cst rfl rfl rfl rfl rfl
theorem x28_26 : XX X d 28 (26, L, v :: .ref a :: st, M) Q = yp (M.2.2 a) a 3 8 v X d 28 29 L st M Q := G_putf rfl (by decide) rfl rfl rfl
theorem x28_29 : XX X d 28 (29, [some (.ref a), l1, l2, l3], st, M) Q = XX X d 28 (30, [some (.ref a), l1, l2, l3], .ref a :: st, M) Q := H_ld rfl rfl rfl rfl rfl
theorem x28_29n : XX X d 28 (29, [some (.null), l1, l2, l3], st, M) Q = XX X d 28 (30, [some (.null), l1, l2, l3], .null :: st, M) Q := H_ld rfl rfl rfl rfl rfl
theorem x28_30 : XX X d 28 (30, L, st, M) Q = XX X d 28 (31, L, .int (ii 0) :: st, M) Q := G_cst rfl rfl rfl rfl rfl
theorem x28_31 : XX X d 28 (31, L, v :: .ref a :: st, M) Q = yp (M.2.2 a) a 3 9 v X d 28 34 L st M Q := G_putf rfl (by decide) rfl rfl rfl
theorem x28_34 : XX X d 28 (34, [some (.ref a), l1, l2, l3], st, M) Q = XX X d 28 (35, [some (.ref a), l1, l2, l3], .ref a :: st, M) Q := H_ld rfl rfl rfl rfl rfl
theorem x28_34n : XX X d 28 (34, [some (.null), l1, l2, l3], st, M) Q = XX X d 28 (35, [some (.null), l1, l2, l3], .null :: st, M) Q := H_ld rfl rfl rfl rfl rfl
theorem x28_35 : XX X d 28 (35, L, st, M) Q = XX X d 28 (37, L, .int (ii 1000000) :: st, M) Q := G_cst rfl rfl rfl rfl rfl
theorem x28_37 : XX X d 28 (37, L, v :: .ref a :: st, M) Q = yp (M.2.2 a) a 3 10 v X d 28 40 L st M Q := G_putf rfl (by decide) rfl rfl rfl
theorem x28_40 : XX X d 28 (40, [some (.ref a), l1, l2, l3], st, M) Q = XX X d 28 (41, [some (.ref a), l1, l2, l3], .ref a :: st, M) Q := H_ld rfl rfl rfl rfl rfl
theorem x28_40n : XX X d 28 (40, [some (.null), l1, l2, l3], st, M) Q = XX X d 28 (41, [some (.null), l1, l2, l3], .null :: st, M) Q := H_ld rfl rfl rfl rfl rfl
theorem x28_41 : XX X d 28 (41, L, st, M) Q = XX X d 28 (42, L, .int (ii 0) :: st, M) Q := G_cst rfl rfl rfl rfl rfl
theorem x28_42 : XX X d 28 (42, L, v :: .ref a :: st, M) Q = yp (M.2.2 a) a 3 11 v X d 28 45 L st M Q := G_putf rfl (by decide) rfl rfl rfl
theorem x28_45 : XX X d 28 (45, [some (.ref a), l1, l2, l3], st, M) Q = XX X d 28 (46, [some (.ref a), l1, l2, l3], .ref a :: st, M) Q := H_ld rfl rfl rfl rfl rfl
theorem x28_45n : XX X d 28 (45, [some (.null), l1, l2, l3], st, M) Q = XX X d 28 (46, [some (.null), l1, l2, l3], .null :: st, M) Q := H_ld rfl rfl rfl rfl rfl
theorem x28_46 : XX X d 28 (46, [l0, some (.ref a), l2, l3], st, M) Q = XX X d 28 (47, [l0, some (.ref a), l2, l3], .ref a :: st, M) Q := H_ld rfl rfl rfl rfl rfl
theorem x28_46n : XX X d 28 (46, [l0, some (.null), l2, l3], st, M) Q = XX X d 28 (47, [l0, some (.null), l2, l3], .null :: st, M) Q := H_ld rfl rfl rfl rfl rfl
theorem x28_47 : XX X d 28 (47, L, v :: .ref a :: st, M) Q = yp (M.2.2 a) a 3 0 v X d 28 50 L st M Q := G_putf rfl (by decide) rfl rfl rfl
theorem x28_50 : XX X d 28 (50, [some (.ref a), l1, l2, l3], st, M) Q = XX X d 28 (51, [some (.ref a), l1, l2, l3], .ref a :: st, M) Q := H_ld rfl rfl rfl rfl rfl
theorem x28_50n : XX X d 28 (50, [some (.null), l1, l2, l3], st, M) Q = XX X d 28 (51, [some (.null), l1, l2, l3], .null :: st, M) Q := H_ld rfl rfl rfl rfl rfl
theorem x28_51 : XX X d 28 (51, [l0, l1, some (.int x), l3], st, M) Q = XX X d 28 (52, [l0, l1, some (.int x), l3], .int x :: st, M) Q := H_ld rfl rfl rfl rfl rfl
theorem x28_52 : XX X d 28 (52, L, v :: .ref a :: st, M) Q = yp (M.2.2 a) a 3 1 v X d 28 55 L st M Q := G_putf rfl (by decide) rfl rfl rfl
theorem x28_55 : XX X d 28 (55, [some (.ref a), l1, l2, l3], st, M) Q = XX X d 28 (56, [some (.ref a), l1, l2, l3], .ref a :: st, M) Q := H_ld rfl rfl rfl rfl rfl
theorem x28_55n : XX X d 28 (55, [some (.null), l1, l2, l3], st, M) Q = XX X d 28 (56, [some (.null), l1, l2, l3], .null :: st, M) Q := H_ld rfl rfl rfl rfl rfl
theorem x28_56 : XX X d 28 (56, [l0, l1, l2, some (.int x)], st, M) Q = XX X d 28 (57, [l0, l1, l2, some (.int x)], .int x :: st, M) Q := H_ld rfl rfl rfl rfl rfl
theorem x28_57 : XX X d 28 (57, L, v :: .ref a :: st, M) Q = yp (M.2.2 a) a 3 2 v X d 28 60 L st M Q := G_putf rfl (by decide) rfl rfl rfl
theorem x28_60 : XX X d 28 (60, [some (.ref a), l1, l2, l3], st, M) Q = XX X d 28 (61, [some (.ref a), l1, l2, l3], .ref a :: st, M) Q := H_ld rfl rfl rfl rfl rfl
theorem x28_60n : XX X d 28 (60, [some (.null), l1, l2, l3], st, M) Q = XX X d 28 (61, [some (.null), l1, l2, l3], .null :: st, M) Q := H_ld rfl rfl rfl rfl rfl
theorem x28_61 : XX X d 28 (61, [l0, l1, l2, some (.int x)], st, M) Q = XX X d 28 (62, [l0, l1, l2, some (.int x)], .int x :: st, M) Q := H_ld rfl rfl rfl rfl rfl
theorem x28_62 : XX X d 28 (62, L, v :: .ref a :: st, M) Q = yp (M.2.2 a) a 3 3 v X d 28 65 L st M Q := G_putf rfl (by decide) rfl rfl rfl
theorem x28_65 : XX X d 28 (65, L, [], M) Q = Q (.inl none) M := G_retv rfl (by decide) rfl
theorem e28 : CC X d 28 [.ref a, .ref a1, .int x, .int x2] M Q = XX X d 28 (0, [some (.ref a), some (.ref a1), some (.int x), some (.int x2)], [], M) Q := H_ent rfl rfl
theorem e28n : CC X d 28 [.ref a, .null, .int x, .int x2] M Q = XX X d 28 (0, [some (.ref a), some (.null), some (.int x), some (.int x2)], [], M) Q := H_ent rfl rfl
-- 29 X3_startAtom (III)V
theorem x29_0 : XX X d 29 (0, [some (.ref a), l1, l2, l3], st, M) Q = XX X d 29 (1, [some (.ref a), l1, l2, l3], .ref a :: st, M) Q := H_ld rfl rfl rfl rfl rfl
theorem x29_0n : XX X d 29 (0, [some (.null), l1, l2, l3], st, M) Q = XX X d 29 (1, [some (.null), l1, l2, l3], .null :: st, M) Q := H_ld rfl rfl rfl rfl rfl
theorem x29_1 (hd : 0 < d) (hs : stB st = true) : XX X d 29 (1, L, .ref a :: st, M) Q = (mcl M a = some 3 ∧ CC X (d - 1) 31 [.ref a] M (XC X d 29 1 4 L st Q)) := H_virt [] rfl (by decide) rfl rfl rfl rfl rfl hd hs
theorem x29_4 : XX X d 29 (4, [some (.ref a), l1, l2, l3], st, M) Q = XX X d 29 (5, [some (.ref a), l1, l2, l3], .ref a :: st, M) Q := H_ld rfl rfl rfl rfl rfl
theorem x29_4n : XX X d 29 (4, [some (.null), l1, l2, l3], st, M) Q = XX X d 29 (5, [some (.null), l1, l2, l3], .null :: st, M) Q := H_ld rfl rfl rfl rfl rfl
theorem x29_5 : XX X d 29 (5, L, st, M) Q = XX X d 29 (6, L, .int (ii 1) :: st, M) Q := G_cst rfl rfl rfl rfl rfl
theorem x29_6 : XX X d 29 (6, L, v :: .ref a :: st, M) Q = yp (M.2.2 a) a 3 4 v X d 29 9 L st M Q := G_putf rfl (by decide) rfl rfl rfl
theorem x29_9 : XX X d 29 (9, [some (.ref a), l1, l2, l3], st, M) Q = XX X d 29 (10, [some (.ref a), l1, l2, l3], .ref a :: st, M) Q := H_ld rfl rfl rfl rfl rfl
theorem x29_9n : XX X d 29 (9, [some (.null), l1, l2, l3], st, M) Q = XX X d 29 (10, [some (.null), l1, l2, l3], .null :: st, M) Q := H_ld rfl rfl rfl rfl rfl
theorem x29_10 : XX X d 29 (10, [l0, some (.int x), l2, l3], st, M) Q = XX X d 29 (11, [l0, some (.int x), l2, l3], .int x :: st, M) Q := H_ld rfl rfl rfl rfl rfl
theorem x29_11 : XX X d 29 (11, L, v :: .ref a :: st, M) Q = yp (M.2.2 a) a 3 5 v X d 29 14 L st M Q := G_putf rfl (by decide) rfl rfl rfl
theorem x29_14 : XX X d 29 (14, [some (.ref a), l1, l2, l3], st, M) Q = XX X d 29 (15, [some (.ref a), l1, l2, l3], .ref a :: st, M) Q := H_ld rfl rfl rfl rfl rfl
theorem x29_14n : XX X d 29 (14, [some (.null), l1, l2, l3], st, M) Q = XX X d 29 (15, [some (.null), l1, l2, l3], .null :: st, M) Q := H_ld rfl rfl rfl rfl rfl
theorem x29_15 : XX X d 29 (15, [l0, l1, some (.int x), l3], st, M) Q = XX X d 29 (16, [l0, l1, some (.int x), l3], .int x :: st, M) Q := H_ld rfl rfl rfl rfl rfl
theorem x29_16 : XX X d 29 (16, L, v :: .ref a :: st, M) Q = yp (M.2.2 a) a 3 6 v X d 29 19 L st M Q := G_putf rfl (by decide) rfl rfl rfl
theorem x29_19 : XX X d 29 (19, [some (.ref a), l1, l2, l3], st, M) Q = XX X d 29 (20, [some (.ref a), l1, l2, l3], .ref a :: st, M) Q := H_ld rfl rfl rfl rfl rfl
theorem x29_19n : XX X d 29 (19, [some (.null), l1, l2, l3], st, M) Q = XX X d 29 (20, [some (.null), l1, l2, l3], .null :: st, M) Q := H_ld rfl rfl rfl rfl rfl
theorem x29_20 : XX X d 29 (20, [l0, l1, l2, some (.int x)], st, M) Q = XX X d 29 (21, [l0, l1, l2, some (.int x)], .int x :: st, M) Q := H_ld rfl rfl rfl rfl rfl
theorem x29_21 : XX X d 29 (21, L, v :: .ref a :: st, M) Q = yp (M.2.2 a) a 3 7 v X d 29 24 L st M Q := G_putf rfl (by decide) rfl rfl rfl
theorem x29_24 : XX X d 29 (24, L, [], M) Q = Q (.inl none) M := G_retv rfl (by decide) rfl
theorem e29 : CC X d 29 [.ref a, .int x, .int x2, .int x3] M Q = XX X d 29 (0, [some (.ref a), some (.int x), some (.int x2), some (.int x3)], [], M) Q := H_ent rfl rfl
-- 30 X3_repeat (ZZ)V
theorem x30_0 : XX X d 30 (0, [l0, some (.int x), l2], st, M) Q = XX X d 30 (1, [l0, some (.int x), l2], .int x :: st, M) Q := H_ld rfl rfl rfl rfl rfl
theorem x30_1 (h : -2147483648 ≤ p ∧ p ≤ 2147483647) : XX X d 30 (1, L, .int (ii p) :: st, M) Q = bq (p = 0) X d 30 9 4 L st M Q := H_if rfl ⟨rfl, rfl, rfl, by decide⟩ rfl rfl rfl rfl (D_eq (b := 0) (by omega))
theorem x30_1b : XX X d 30 (1, L, .int (ii (b2i b)) :: st, M) Q = bq (b = false) X d 30 9 4 L st M Q := (x30_1 (b2i_r b)).trans (by rw [b2i_0])
theorem x30_4 : XX X d 30 (4, [some (.ref a), l1, l2], st, M) Q = XX X d 30 (5, [some (.ref a), l1, l2], .ref a :: st, M) Q := H_ld rfl rfl rfl rfl rfl
theorem x30_4n : XX X d 30 (4, [some (.null), l1, l2], st, M) Q = XX X d 30 (5, [some (.null), l1, l2], .null :: st, M) Q := H_ld rfl rfl rfl rfl rfl
theorem x30_5 : XX X d 30 (5, L, st, M) Q = XX X d 30 (6, L, .int (ii 0) :: st, M) Q := G_cst rfl rfl rfl rfl rfl
theorem x30_6 : XX X d 30 (6, L, v :: .ref a :: st, M) Q = yp (M.2.2 a) a 3 6 v X d 30 9 L st M Q := G_putf rfl (by decide) rfl rfl rfl
theorem x30_9 : XX X d 30 (9, [l0, l1, some (.int x)], st, M) Q = XX X d 30 (10, [l0, l1, some (.int x)], .int x :: st, M) Q := H_ld rfl rfl rfl rfl rfl
theorem x30_10 (h : -2147483648 ≤ p ∧ p ≤ 2147483647) : XX X d 30 (10, L, .int (ii p) :: st, M) Q = bq (p = 0) X d 30 19 13 L st M Q := H_if rfl ⟨rfl, rfl, rfl, by decide⟩ rfl rfl rfl rfl (D_eq (b := 0) (by omega))
theorem x30_10b : XX X d 30 (10, L, .int (ii (b2i b)) :: st, M) Q = bq (b = false) X d 30 19 13 L st M Q := (x30_10 (b2i_r b)).trans (by rw [b2i_0])
theorem x30_13 : XX X d 30 (13, [some (.ref a), l1, l2], st, M) Q = XX X d 30 (14, [some (.ref a), l1, l2], .ref a :: st, M) Q := H_ld rfl rfl rfl rfl rfl
theorem x30_13n : XX X d 30 (13, [some (.null), l1, l2], st, M) Q = XX X d 30 (14, [some (.null), l1, l2], .null :: st, M) Q := H_ld rfl rfl rfl rfl rfl
theorem x30_14 : XX X d 30 (14, L, st, M) Q = XX X d 30 (16, L, .int (ii 1000000) :: st, M) Q := G_cst rfl rfl rfl rfl rfl
theorem x30_16 : XX X d 30 (16, L, v :: .ref a :: st, M) Q = yp (M.2.2 a) a 3 7 v X d 30 19 L st M Q := G_putf rfl (by decide) rfl rfl rfl
theorem x30_19 : XX X d 30 (19, [some (.ref a), l1, l2], st, M) Q = XX X d 30 (20, [some (.ref a), l1, l2], .ref a :: st, M) Q := H_ld rfl rfl rfl rfl rfl
theorem x30_19n : XX X d 30 (19, [some (.null), l1, l2], st, M) Q = XX X d 30 (20, [some (.null), l1, l2], .null :: st, M) Q := H_ld rfl rfl rfl rfl rfl
theorem x30_20 (hd : 0 < d) (hs : stB st = true) : XX X d 30 (20, L, .ref a :: st, M) Q = (mcl M a = some 3 ∧ CC X (d - 1) 31 [.ref a] M (XC X d 30 20 23 L st Q)) := H_virt [] rfl (by decide) rfl rfl rfl rfl rfl hd hs
theorem x30_23 : XX X d 30 (23, L, [], M) Q = Q (.inl none) M := G_retv rfl (by decide) rfl
theorem e30 : CC X d 30 [.ref a, .int x, .int x2] M Q = XX X d 30 (0, [some (.ref a), some (.int x), some (.int x2)], [], M) Q := H_ent rfl rfl
-- 31 X3_settleAtom ()V
theorem x31_0 : XX X d 31 (0, [some (.ref a)], st, M) Q = XX X d 31 (1, [some (.ref a)], .ref a :: st, M) Q := H_ld rfl rfl rfl rfl rfl
theorem x31_0n : XX X d 31 (0, [some (.null)], st, M) Q = XX X d 31 (1, [some (.null)], .null :: st, M) Q := H_ld rfl rfl rfl rfl rfl
theorem x31_1 : XX X d 31 (1, L, .ref a :: st, M) Q = yg (M.2.2 a) 3 4 X d 31 4 L st M Q := G_getf rfl (by decide) rfl rfl rfl
theorem x31_4 (h : -2147483648 ≤ p ∧ p ≤ 2147483647) : XX X d 31 (4, L, .int (ii p) :: st, M) Q = bq (p = 0) X d 31 43 7 L st M Q := H_if rfl ⟨rfl, rfl, rfl, by decide⟩ rfl rfl rfl rfl (D_eq (b := 0) (by omega))
theorem x31_4b : XX X d 31 (4, L, .int (ii (b2i b)) :: st, M) Q = bq (b = false) X d 31 43 7 L st M Q := (x31_4 (b2i_r b)).trans (by rw [b2i_0])
theorem x31_7 : XX X d 31 (7, [some (.ref a)], st, M) Q = XX X d 31 (8, [some (.ref a)], .ref a :: st, M) Q := H_ld rfl rfl rfl rfl rfl
theorem x31_7n : XX X d 31 (7, [some (.null)], st, M) Q = XX X d 31 (8, [some (.null)], .null :: st, M) Q := H_ld rfl rfl rfl rfl rfl
theorem x31_8 : XX X d 31 (8, [some (.ref a)], st, M) Q = XX X d 31 (9, [some (.ref a)], .ref a :: st, M) Q := H_ld rfl rfl rfl rfl rfl
theorem x31_8n : XX X d 31 (8, [some (.null)], st, M) Q = XX X d 31 (9, [some (.null)], .null :: st, M) Q := H_ld rfl rfl rfl rfl rfl
theorem x31_9 : XX X d 31 (9, L, .ref a :: st, M) Q = yg (M.2.2 a) 3 8 X d 31 12 L st M Q := G_getf rfl (by decide) rfl rfl rfl
theorem x31_12 : XX X d 31 (12, [some (.ref a)], st, M) Q = XX X d 31 (13, [some (.ref a)], .ref a :: st, M) Q := H_ld rfl rfl rfl rfl rfl
theorem x31_12n : XX X d 31 (12, [some (.null)], st, M) Q = XX X d 31 (13, [some (.null)], .null :: st, M) Q := H_ld rfl rfl rfl rfl rfl
theorem x31_13 : XX X d 31 (13, L, .ref a :: st, M) Q = yg (M.2.2 a) 3 6 X d 31 16 L st M Q := G_getf rfl (by decide) rfl rfl rfl
theorem x31_16 : XX X d 31 (16, L, .int (ii q) :: .int (ii p) :: st, M) Q = XX X d 31 (17, L, .int (ii (p + q)) :: st, M) Q := H_add rfl (by decide) rfl
theorem x31_17 : XX X d 31 (17, L, v :: .ref a :: st, M) Q = yp (M.2.2 a) a 3 8 v X d 31 20 L st M Q := G_putf rfl (by decide) rfl rfl rfl
theorem x31_20 : XX X d 31 (20, [some (.ref a)], st, M) Q = XX X d 31 (21, [some (.ref a)], .ref a :: st, M) Q := H_ld rfl rfl rfl rfl rfl
theorem x31_20n : XX X d 31 (20, [some (.null)], st, M) Q = XX X d 31 (21, [some (.null)], .null :: st, M) Q := H_ld rfl rfl rfl rfl rfl
theorem x31_21 : XX X d 31 (21, L, st, M) Q = XX X d 31 (23, L, .int (ii 1000000) :: st, M) Q := G_cst rfl rfl rfl rfl rfl
theorem x31_23 : XX X d 31 (23, [some (.ref a)], st, M) Q = XX X d 31 (24, [some (.ref a)], .ref a :: st, M) Q := H_ld rfl rfl rfl rfl rfl
theorem x31_23n : XX X d 31 (23, [some (.null)], st, M) Q = XX X d 31 (24, [some (.null)], .null :: st, M) Q := H_ld rfl rfl rfl rfl rfl
theorem x31_24 : XX X d 31 (24, L, .ref a :: st, M) Q = yg (M.2.2 a) 3 9 X d 31 27 L st M Q := G_getf rfl (by decide) rfl rfl rfl
theorem x31_27 : XX X d 31 (27, [some (.ref a)], st, M) Q = XX X d 31 (28, [some (.ref a)], .ref a :: st, M) Q := H_ld rfl rfl rfl rfl rfl
theorem x31_27n : XX X d 31 (27, [some (.null)], st, M) Q = XX X d 31 (28, [some (.null)], .null :: st, M) Q := H_ld rfl rfl rfl rfl rfl
theorem x31_28 : XX X d 31 (28, L, .ref a :: st, M) Q = yg (M.2.2 a) 3 7 X d 31 31 L st M Q := G_getf rfl (by decide) rfl rfl rfl
theorem x31_31 : XX X d 31 (31, L, .int (ii q) :: .int (ii p) :: st, M) Q = XX X d 31 (32, L, .int (ii (p + q)) :: st, M) Q := H_add rfl (by decide) rfl
theorem x31_32 (h : -2147483648 ≤ p ∧ p ≤ 2147483647 ∧ -2147483648 ≤ q ∧ q ≤ 2147483647) (hs : stB (.int (ii 0) :: st) = true) : XX X d 31 (32, L, .int (ii q) :: .int (ii p) :: st, M) Q = XX X d 31 (35, L, .int (ii (min p q)) :: st, M) Q := H_math rfl (by decide) rfl rfl (by decide) (m_min h) hs
theorem x31_35 : XX X d 31 (35, L, v :: .ref a :: st, M) Q = yp (M.2.2 a) a 3 9 v X d 31 38 L st M Q := G_putf rfl (by decide) rfl rfl rfl
theorem x31_38 : XX X d 31 (38, [some (.ref a)], st, M) Q = XX X d 31 (39, [some (.ref a)], .ref a :: st, M) Q := H_ld rfl rfl rfl rfl rfl
theorem x31_38n : XX X d 31 (38, [some (.null)], st, M) Q = XX X d 31 (39, [some (.null)], .null :: st, M) Q := H_ld rfl rfl rfl rfl rfl
theorem x31_39 : XX X d 31 (39, L, st, M) Q = XX X d 31 (40, L, .int (ii 0) :: st, M) Q := G_cst rfl rfl rfl rfl rfl
theorem x31_40 : XX X d 31 (40, L, v :: .ref a :: st, M) Q = yp (M.2.2 a) a 3 4 v X d 31 43 L st M Q := G_putf rfl (by decide) rfl rfl rfl
theorem x31_43 : XX X d 31 (43, L, [], M) Q = Q (.inl none) M := G_retv rfl (by decide) rfl
theorem e31 : CC X d 31 [.ref a] M Q = XX X d 31 (0, [some (.ref a)], [], M) Q := H_ent rfl rfl
-- 32 X3_endBranch (I)V
theorem x32_0 : XX X d 32 (0, [some (.ref a), l1], st, M) Q = XX X d 32 (1, [some (.ref a), l1], .ref a :: st, M) Q := H_ld rfl rfl rfl rfl rfl
theorem x32_0n : XX X d 32 (0, [some (.null), l1], st, M) Q = XX X d 32 (1, [some (.null), l1], .null :: st, M) Q := H_ld rfl rfl rfl rfl rfl
theorem x32_1 (hd : 0 < d) (hs : stB st = true) : XX X d 32 (1, L, .ref a :: st, M) Q = (mcl M a = some 3 ∧ CC X (d - 1) 31 [.ref a] M (XC X d 32 1 4 L st Q)) := H_virt [] rfl (by decide) rfl rfl rfl rfl rfl hd hs
theorem x32_4 : XX X d 32 (4, [some (.ref a), l1], st, M) Q = XX X d 32 (5, [some (.ref a), l1], .ref a :: st, M) Q := H_ld rfl rfl rfl rfl rfl
theorem x32_4n : XX X d 32 (4, [some (.null), l1], st, M) Q = XX X d 32 (5, [some (.null), l1], .null :: st, M) Q := H_ld rfl rfl rfl rfl rfl
theorem x32_5 : XX X d 32 (5, [some (.ref a), l1], st, M) Q = XX X d 32 (6, [some (.ref a), l1], .ref a :: st, M) Q := H_ld rfl rfl rfl rfl rfl
theorem x32_5n : XX X d 32 (5, [some (.null), l1], st, M) Q = XX X d 32 (6, [some (.null), l1], .null :: st, M) Q := H_ld rfl rfl rfl rfl rfl
theorem x32_6 : XX X d 32 (6, L, .ref a :: st, M) Q = yg (M.2.2 a) 3 10 X d 32 9 L st M Q := G_getf rfl (by decide) rfl rfl rfl
theorem x32_9 : XX X d 32 (9, [some (.ref a), l1], st, M) Q = XX X d 32 (10, [some (.ref a), l1], .ref a :: st, M) Q := H_ld rfl rfl rfl rfl rfl
theorem x32_9n : XX X d 32 (9, [some (.null), l1], st, M) Q = XX X d 32 (10, [some (.null), l1], .null :: st, M) Q := H_ld rfl rfl rfl rfl rfl
theorem x32_10 : XX X d 32 (10, L, .ref a :: st, M) Q = yg (M.2.2 a) 3 8 X d 32 13 L st M Q := G_getf rfl (by decide) rfl rfl rfl
theorem x32_13 (h : -2147483648 ≤ p ∧ p ≤ 2147483647 ∧ -2147483648 ≤ q ∧ q ≤ 2147483647) (hs : stB (.int (ii 0) :: st) = true) : XX X d 32 (13, L, .int (ii q) :: .int (ii p) :: st, M) Q = XX X d 32 (16, L, .int (ii (min p q)) :: st, M) Q := H_math rfl (by decide) rfl rfl (by decide) (m_min h) hs
theorem x32_16 : XX X d 32 (16, L, v :: .ref a :: st, M) Q = yp (M.2.2 a) a 3 10 v X d 32 19 L st M Q := G_putf rfl (by decide) rfl rfl rfl
theorem x32_19 : XX X d 32 (19, [some (.ref a), l1], st, M) Q = XX X d 32 (20, [some (.ref a), l1], .ref a :: st, M) Q := H_ld rfl rfl rfl rfl rfl
theorem x32_19n : XX X d 32 (19, [some (.null), l1], st, M) Q = XX X d 32 (20, [some (.null), l1], .null :: st, M) Q := H_ld rfl rfl rfl rfl rfl
theorem x32_20 : XX X d 32 (20, [some (.ref a), l1], st, M) Q = XX X d 32 (21, [some (.ref a), l1], .ref a :: st, M) Q := H_ld rfl rfl rfl rfl rfl
theorem x32_20n : XX X d 32 (20, [some (.null), l1], st, M) Q = XX X d 32 (21, [some (.null), l1], .null :: st, M) Q := H_ld rfl rfl rfl rfl rfl
theorem x32_21 : XX X d 32 (21, L, .ref a :: st, M) Q = yg (M.2.2 a) 3 11 X d 32 24 L st M Q := G_getf rfl (by decide) rfl rfl rfl
theorem x32_24 : XX X d 32 (24, [some (.ref a), l1], st, M) Q = XX X d 32 (25, [some (.ref a), l1], .ref a :: st, M) Q := H_ld rfl rfl rfl rfl rfl
theorem x32_24n : XX X d 32 (24, [some (.null), l1], st, M) Q = XX X d 32 (25, [some (.null), l1], .null :: st, M) Q := H_ld rfl rfl rfl rfl rfl
theorem x32_25 : XX X d 32 (25, L, .ref a :: st, M) Q = yg (M.2.2 a) 3 9 X d 32 28 L st M Q := G_getf rfl (by decide) rfl rfl rfl
theorem x32_28 (h : -2147483648 ≤ p ∧ p ≤ 2147483647 ∧ -2147483648 ≤ q ∧ q ≤ 2147483647) (hs : stB (.int (ii 0) :: st) = true) : XX X d 32 (28, L, .int (ii q) :: .int (ii p) :: st, M) Q = XX X d 32 (31, L, .int (ii (max p q)) :: st, M) Q := H_math rfl (by decide) rfl rfl (by decide) (m_max h) hs
theorem x32_31 : XX X d 32 (31, L, v :: .ref a :: st, M) Q = yp (M.2.2 a) a 3 11 v X d 32 34 L st M Q := G_putf rfl (by decide) rfl rfl rfl
theorem x32_34 : XX X d 32 (34, [some (.ref a), l1], st, M) Q = XX X d 32 (35, [some (.ref a), l1], .ref a :: st, M) Q := H_ld rfl rfl rfl rfl rfl
theorem x32_34n : XX X d 32 (34, [some (.null), l1], st, M) Q = XX X d 32 (35, [some (.null), l1], .null :: st, M) Q := H_ld rfl rfl rfl rfl rfl
theorem x32_35 : XX X d 32 (35, L, st, M) Q = XX X d 32 (36, L, .int (ii 0) :: st, M) Q := G_cst rfl rfl rfl rfl rfl
theorem x32_36 : XX X d 32 (36, L, v :: .ref a :: st, M) Q = yp (M.2.2 a) a 3 8 v X d 32 39 L st M Q := G_putf rfl (by decide) rfl rfl rfl
theorem x32_39 : XX X d 32 (39, [some (.ref a), l1], st, M) Q = XX X d 32 (40, [some (.ref a), l1], .ref a :: st, M) Q := H_ld rfl rfl rfl rfl rfl
theorem x32_39n : XX X d 32 (39, [some (.null), l1], st, M) Q = XX X d 32 (40, [some (.null), l1], .null :: st, M) Q := H_ld rfl rfl rfl rfl rfl
theorem x32_40 : XX X d 32 (40, L, st, M) Q = XX X d 32 (41, L, .int (ii 0) :: st, M) Q := G_cst rfl rfl rfl rfl rfl
theorem x32_41 : XX X d 32 (41, L, v :: .ref a :: st, M) Q = yp (M.2.2 a) a 3 9 v X d 32 44 L st M Q := G_putf rfl (by decide) rfl rfl rfl
theorem x32_44 : XX X d 32 (44, [some (.ref a), l1], st, M) Q = XX X d 32 (45, [some (.ref a), l1], .ref a :: st, M) Q := H_ld rfl rfl rfl rfl rfl
theorem x32_44n : XX X d 32 (44, [some (.null), l1], st, M) Q = XX X d 32 (45, [some (.null), l1], .null :: st, M) Q := H_ld rfl rfl rfl rfl rfl
theorem x32_45 : XX X d 32 (45, [l0, some (.int x)], st, M) Q = XX X d 32 (46, [l0, some (.int x)], .int x :: st, M) Q := H_ld rfl rfl rfl rfl rfl
theorem x32_46 : XX X d 32 (46, L, v :: .ref a :: st, M) Q = yp (M.2.2 a) a 3 3 v X d 32 49 L st M Q := G_putf rfl (by decide) rfl rfl rfl
theorem x32_49 : XX X d 32 (49, L, [], M) Q = Q (.inl none) M := G_retv rfl (by decide) rfl
theorem e32 : CC X d 32 [.ref a, .int x] M Q = XX X d 32 (0, [some (.ref a), some (.int x)], [], M) Q := H_ent rfl rfl
-- 33 X4_init ()V
theorem x33_0 : XX X d 33 (0, [some (.ref a)], st, M) Q = XX X d 33 (1, [some (.ref a)], .ref a :: st, M) Q := H_ld rfl rfl rfl rfl rfl
theorem x33_0n : XX X d 33 (0, [some (.null)], st, M) Q = XX X d 33 (1, [some (.null)], .null :: st, M) Q := H_ld rfl rfl rfl rfl rfl
theorem x33_1 (hs : stB st = true) : XX X d 33 (1, L, .ref a :: st, M) Q = XX X d 33 (4, L, st, M) Q := H_obj rfl (by decide) rfl rfl rfl hs
theorem x33_4 : XX X d 33 (4, [some (.ref a)], st, M) Q = XX X d 33 (5, [some (.ref a)], .ref a :: st, M) Q := H_ld rfl rfl rfl rfl rfl
theorem x33_4n : XX X d 33 (4, [some (.null)], st, M) Q = XX X d 33 (5, [some (.null)], .null :: st, M) Q := H_ld rfl rfl rfl rfl rfl
theorem x33_5 : XX X d 33 (5, L, st, M) Q = XX X d 33 (8, L, .ref M.1 :: st, mnew M 2 (.inr (6, [.null, .int (ii 0)]))) Q := H_new rfl (by decide) rfl rfl (by decide) rfl rfl
theorem x33_8 (h : v.category = 1) : XX X d 33 (8, L, v :: st, M) Q = XX X d 33 (9, L, v :: v :: st, M) Q := G_sop rfl ⟨rfl, rfl, rfl, by decide⟩ (if_pos h) rfl
theorem x33_9 : XX X d 33 (9, L, st, M) Q = XX X d 33 (11, L, .int (ii 30) :: st, M) Q := G_cst rfl rfl rfl rfl rfl
theorem x33_11 {v1 : Value} (hd : 0 < d) (hs : stB st = true) : XX X d 33 (11, L, v1 :: .ref a :: st, M) Q = CC X (d - 1) 57 [.ref a, v1] M (XC X d 33 11 14 L st Q) := H_spec [v1] rfl (by decide) rfl rfl (by decide) rfl rfl hd hs
theorem x33_14 : XX X d 33 (14, L, v :: .ref a :: st, M) Q = yp (M.2.2 a) a 4 0 v X d 33 17 L st M Q := G_putf rfl (by decide) rfl rfl rfl
theorem x33_17 : XX X d 33 (17, [some (.ref a)], st, M) Q = XX X d 33 (18, [some (.ref a)], .ref a :: st, M) Q := H_ld rfl rfl rfl rfl rfl
theorem x33_17n : XX X d 33 (17, [some (.null)], st, M) Q = XX X d 33 (18, [some (.null)], .null :: st, M) Q := H_ld rfl rfl rfl rfl rfl
theorem x33_18 : XX X d 33 (18, L, st, M) Q = XX X d 33 (21, L, .ref M.1 :: st, mnew M 2 (.inr (6, [.null, .int (ii 0)]))) Q := H_new rfl (by decide) rfl rfl (by decide) rfl rfl
theorem x33_21 (h : v.category = 1) : XX X d 33 (21, L, v :: st, M) Q = XX X d 33 (22, L, v :: v :: st, M) Q := G_sop rfl ⟨rfl, rfl, rfl, by decide⟩ (if_pos h) rfl
theorem x33_22 : XX X d 33 (22, L, st, M) Q = XX X d 33 (24, L, .int (ii 64) :: st, M) Q := G_cst rfl rfl rfl rfl rfl
theorem x33_24 {v1 : Value} (hd : 0 < d) (hs : stB st = true) : XX X d 33 (24, L, v1 :: .ref a :: st, M) Q = CC X (d - 1) 57 [.ref a, v1] M (XC X d 33 24 27 L st Q) := H_spec [v1] rfl (by decide) rfl rfl (by decide) rfl rfl hd hs
theorem x33_27 : XX X d 33 (27, L, v :: .ref a :: st, M) Q = yp (M.2.2 a) a 4 1 v X d 33 30 L st M Q := G_putf rfl (by decide) rfl rfl rfl
theorem x33_30 : XX X d 33 (30, [some (.ref a)], st, M) Q = XX X d 33 (31, [some (.ref a)], .ref a :: st, M) Q := H_ld rfl rfl rfl rfl rfl
theorem x33_30n : XX X d 33 (30, [some (.null)], st, M) Q = XX X d 33 (31, [some (.null)], .null :: st, M) Q := H_ld rfl rfl rfl rfl rfl
theorem x33_31 : XX X d 33 (31, L, st, M) Q = XX X d 33 (34, L, .ref M.1 :: st, mnew M 2 (.inr (6, [.null, .int (ii 0)]))) Q := H_new rfl (by decide) rfl rfl (by decide) rfl rfl
theorem x33_34 (h : v.category = 1) : XX X d 33 (34, L, v :: st, M) Q = XX X d 33 (35, L, v :: v :: st, M) Q := G_sop rfl ⟨rfl, rfl, rfl, by decide⟩ (if_pos h) rfl
theorem x33_35 : XX X d 33 (35, L, st, M) Q = XX X d 33 (37, L, .int (ii 64) :: st, M) Q := G_cst rfl rfl rfl rfl rfl
theorem x33_37 {v1 : Value} (hd : 0 < d) (hs : stB st = true) : XX X d 33 (37, L, v1 :: .ref a :: st, M) Q = CC X (d - 1) 57 [.ref a, v1] M (XC X d 33 37 40 L st Q) := H_spec [v1] rfl (by decide) rfl rfl (by decide) rfl rfl hd hs
theorem x33_40 : XX X d 33 (40, L, v :: .ref a :: st, M) Q = yp (M.2.2 a) a 4 2 v X d 33 43 L st M Q := G_putf rfl (by decide) rfl rfl rfl
theorem x33_43 : XX X d 33 (43, [some (.ref a)], st, M) Q = XX X d 33 (44, [some (.ref a)], .ref a :: st, M) Q := H_ld rfl rfl rfl rfl rfl
theorem x33_43n : XX X d 33 (43, [some (.null)], st, M) Q = XX X d 33 (44, [some (.null)], .null :: st, M) Q := H_ld rfl rfl rfl rfl rfl
theorem x33_44 : XX X d 33 (44, L, st, M) Q = XX X d 33 (47, L, .ref M.1 :: st, mnew M 2 (.inr (6, [.null, .int (ii 0)]))) Q := H_new rfl (by decide) rfl rfl (by decide) rfl rfl
theorem x33_47 (h : v.category = 1) : XX X d 33 (47, L, v :: st, M) Q = XX X d 33 (48, L, v :: v :: st, M) Q := G_sop rfl ⟨rfl, rfl, rfl, by decide⟩ (if_pos h) rfl
theorem x33_48 : XX X d 33 (48, L, st, M) Q = XX X d 33 (50, L, .int (ii 64) :: st, M) Q := G_cst rfl rfl rfl rfl rfl
theorem x33_50 {v1 : Value} (hd : 0 < d) (hs : stB st = true) : XX X d 33 (50, L, v1 :: .ref a :: st, M) Q = CC X (d - 1) 57 [.ref a, v1] M (XC X d 33 50 53 L st Q) := H_spec [v1] rfl (by decide) rfl rfl (by decide) rfl rfl hd hs
theorem x33_53 : XX X d 33 (53, L, v :: .ref a :: st, M) Q = yp (M.2.2 a) a 4 3 v X d 33 56 L st M Q := G_putf rfl (by decide) rfl rfl rfl
theorem x33_56 : XX X d 33 (56, [some (.ref a)], st, M) Q = XX X d 33 (57, [some (.ref a)], .ref a :: st, M) Q := H_ld rfl rfl rfl rfl rfl
theorem x33_56n : XX X d 33 (56, [some (.null)], st, M) Q = XX X d 33 (57, [some (.null)], .null :: st, M) Q := H_ld rfl rfl rfl rfl rfl
theorem x33_57 : XX X d 33 (57, L, st, M) Q = XX X d 33 (58, L, .int (ii 0) :: st, M) Q := G_cst rfl rfl rfl rfl rfl
theorem x33_58 : XX X d 33 (58, L, v :: .ref a :: st, M) Q = yp (M.2.2 a) a 4 4 v X d 33 61 L st M Q := G_putf rfl (by decide) rfl rfl rfl
theorem x33_61 : XX X d 33 (61, [some (.ref a)], st, M) Q = XX X d 33 (62, [some (.ref a)], .ref a :: st, M) Q := H_ld rfl rfl rfl rfl rfl
theorem x33_61n : XX X d 33 (61, [some (.null)], st, M) Q = XX X d 33 (62, [some (.null)], .null :: st, M) Q := H_ld rfl rfl rfl rfl rfl
theorem x33_62 : XX X d 33 (62, L, st, M) Q = XX X d 33 (63, L, .int (ii 0) :: st, M) Q := G_cst rfl rfl rfl rfl rfl
theorem x33_63 : XX X d 33 (63, L, v :: .ref a :: st, M) Q = yp (M.2.2 a) a 4 5 v X d 33 66 L st M Q := G_putf rfl (by decide) rfl rfl rfl
theorem x33_66 : XX X d 33 (66, [some (.ref a)], st, M) Q = XX X d 33 (67, [some (.ref a)], .ref a :: st, M) Q := H_ld rfl rfl rfl rfl rfl
theorem x33_66n : XX X d 33 (66, [some (.null)], st, M) Q = XX X d 33 (67, [some (.null)], .null :: st, M) Q := H_ld rfl rfl rfl rfl rfl
theorem x33_67 : XX X d 33 (67, L, st, M) Q = XX X d 33 (68, L, .int (ii 0) :: st, M) Q := G_cst rfl rfl rfl rfl rfl
theorem x33_68 : XX X d 33 (68, L, v :: .ref a :: st, M) Q = yp (M.2.2 a) a 4 6 v X d 33 71 L st M Q := G_putf rfl (by decide) rfl rfl rfl
theorem x33_71 : XX X d 33 (71, L, [], M) Q = Q (.inl none) M := G_retv rfl (by decide) rfl
theorem e33 : CC X d 33 [.ref a] M Q = XX X d 33 (0, [some (.ref a)], [], M) Q := H_ent rfl rfl
-- 34 X4_stepCount ()I
theorem x34_0 : XX X d 34 (0, [some (.ref a)], st, M) Q = XX X d 34 (1, [some (.ref a)], .ref a :: st, M) Q := H_ld rfl rfl rfl rfl rfl
theorem x34_0n : XX X d 34 (0, [some (.null)], st, M) Q = XX X d 34 (1, [some (.null)], .null :: st, M) Q := H_ld rfl rfl rfl rfl rfl
theorem x34_1 : XX X d 34 (1, L, .ref a :: st, M) Q = yg (M.2.2 a) 4 1 X d 34 4 L st M Q := G_getf rfl (by decide) rfl rfl rfl
theorem x34_4 (hd : 0 < d) (hs : stB st = true) : XX X d 34 (4, L, .ref a :: st, M) Q = (mcl M a = some 6 ∧ CC X (d - 1) 58 [.ref a] M (XC X d 34 4 7 L st Q)) := H_virt [] rfl (by decide) rfl rfl rfl rfl rfl hd hs
theorem x34_7 : XX X d 34 (7, L, [.int (ii p)], M) Q = Q (.inl (some (.int (ii p)))) M := G_ret rfl ⟨⟨⟨rfl, rfl, rfl, by decide⟩, rfl, rfl⟩, rfl, rfl⟩ rfl
theorem e34 : CC X d 34 [.ref a] M Q = XX X d 34 (0, [some (.ref a)], [], M) Q := H_ent rfl rfl
-- 35 X4_kindAt (I)I
theorem x35_0 : XX X d 35 (0, [some (.ref a), l1], st, M) Q = XX X d 35 (1, [some (.ref a), l1], .ref a :: st, M) Q := H_ld rfl rfl rfl rfl rfl
theorem x35_0n : XX X d 35 (0, [some (.null), l1], st, M) Q = XX X d 35 (1, [some (.null), l1], .null :: st, M) Q := H_ld rfl rfl rfl rfl rfl
theorem x35_1 : XX X d 35 (1, L, .ref a :: st, M) Q = yg (M.2.2 a) 4 1 X d 35 4 L st M Q := G_getf rfl (by decide) rfl rfl rfl
theorem x35_4 : XX X d 35 (4, [l0, some (.int x)], st, M) Q = XX X d 35 (5, [l0, some (.int x)], .int x :: st, M) Q := H_ld rfl rfl rfl rfl rfl
theorem x35_5 {v1 : Value} (hd : 0 < d) (hs : stB st = true) : XX X d 35 (5, L, v1 :: .ref a :: st, M) Q = (mcl M a = some 6 ∧ CC X (d - 1) 61 [.ref a, v1] M (XC X d 35 5 8 L st Q)) := H_virt [v1] rfl (by decide) rfl rfl rfl rfl rfl hd hs
theorem x35_8 : XX X d 35 (8, L, [.int (ii p)], M) Q = Q (.inl (some (.int (ii p)))) M := G_ret rfl ⟨⟨⟨rfl, rfl, rfl, by decide⟩, rfl, rfl⟩, rfl, rfl⟩ rfl
theorem e35 : CC X d 35 [.ref a, .int x] M Q = XX X d 35 (0, [some (.ref a), some (.int x)], [], M) Q := H_ent rfl rfl
-- 36 X4_firstAfter (I)I
theorem x36_0 : XX X d 36 (0, [l0, some (.int x)], st, M) Q = XX X d 36 (1, [l0, some (.int x)], .int x :: st, M) Q := H_ld rfl rfl rfl rfl rfl
theorem x36_1 : XX X d 36 (1, [some (.ref a), l1], st, M) Q = XX X d 36 (2, [some (.ref a), l1], .ref a :: st, M) Q := H_ld rfl rfl rfl rfl rfl
theorem x36_1n : XX X d 36 (1, [some (.null), l1], st, M) Q = XX X d 36 (2, [some (.null), l1], .null :: st, M) Q := H_ld rfl rfl rfl rfl rfl
theorem x36_2 : XX X d 36 (2, L, .ref a :: st, M) Q = yg (M.2.2 a) 4 2 X d 36 5 L st M Q := G_getf rfl (by decide) rfl rfl rfl
theorem x36_5 : XX X d 36 (5, [l0, some (.int x)], st, M) Q = XX X d 36 (6, [l0, some (.int x)], .int x :: st, M) Q := H_ld rfl rfl rfl rfl rfl
theorem x36_6 {v1 : Value} (hd : 0 < d) (hs : stB st = true) : XX X d 36 (6, L, v1 :: .ref a :: st, M) Q = (mcl M a = some 6 ∧ CC X (d - 1) 61 [.ref a, v1] M (XC X d 36 6 9 L st Q)) := H_virt [v1] rfl (by decide) rfl rfl rfl rfl rfl hd hs
theorem x36_9 : XX X d 36 (9, L, .int (ii q) :: .int (ii p) :: st, M) Q = XX X d 36 (10, L, .int (ii (p + q)) :: st, M) Q := H_add rfl (by decide) rfl
theorem x36_10 : XX X d 36 (10, L, [.int (ii p)], M) Q = Q (.inl (some (.int (ii p)))) M := G_ret rfl ⟨⟨⟨rfl, rfl, rfl, by decide⟩, rfl, rfl⟩, rfl, rfl⟩ rfl
theorem e36 : CC X d 36 [.ref a, .int x] M Q = XX X d 36 (0, [some (.ref a), some (.int x)], [], M) Q := H_ent rfl rfl
-- 37 X4_secondAfter (I)I
theorem x37_0 : XX X d 37 (0, [l0, some (.int x)], st, M) Q = XX X d 37 (1, [l0, some (.int x)], .int x :: st, M) Q := H_ld rfl rfl rfl rfl rfl
theorem x37_1 : XX X d 37 (1, [some (.ref a), l1], st, M) Q = XX X d 37 (2, [some (.ref a), l1], .ref a :: st, M) Q := H_ld rfl rfl rfl rfl rfl
theorem x37_1n : XX X d 37 (1, [some (.null), l1], st, M) Q = XX X d 37 (2, [some (.null), l1], .null :: st, M) Q := H_ld rfl rfl rfl rfl rfl
theorem x37_2 : XX X d 37 (2, L, .ref a :: st, M) Q = yg (M.2.2 a) 4 3 X d 37 5 L st M Q := G_getf rfl (by decide) rfl rfl rfl
theorem x37_5 : XX X d 37 (5, [l0, some (.int x)], st, M) Q = XX X d 37 (6, [l0, some (.int x)], .int x :: st, M) Q := H_ld rfl rfl rfl rfl rfl
theorem x37_6 {v1 : Value} (hd : 0 < d) (hs : stB st = true) : XX X d 37 (6, L, v1 :: .ref a :: st, M) Q = (mcl M a = some 6 ∧ CC X (d - 1) 61 [.ref a, v1] M (XC X d 37 6 9 L st Q)) := H_virt [v1] rfl (by decide) rfl rfl rfl rfl rfl hd hs
theorem x37_9 : XX X d 37 (9, L, .int (ii q) :: .int (ii p) :: st, M) Q = XX X d 37 (10, L, .int (ii (p + q)) :: st, M) Q := H_add rfl (by decide) rfl
theorem x37_10 : XX X d 37 (10, L, [.int (ii p)], M) Q = Q (.inl (some (.int (ii p)))) M := G_ret rfl ⟨⟨⟨rfl, rfl, rfl, by decide⟩, rfl, rfl⟩, rfl, rfl⟩ rfl
theorem e37 : CC X d 37 [.ref a, .int x] M Q = XX X d 37 (0, [some (.ref a), some (.int x)], [], M) Q := H_ent rfl rfl
-- 38 X4_slotAt (I)I
theorem x38_0 : XX X d 38 (0, [some (.ref a), l1], st, M) Q = XX X d 38 (1, [some (.ref a), l1], .ref a :: st, M) Q := H_ld rfl rfl rfl rfl rfl
theorem x38_0n : XX X d 38 (0, [some (.null), l1], st, M) Q = XX X d 38 (1, [some (.null), l1], .null :: st, M) Q := H_ld rfl rfl rfl rfl rfl
theorem x38_1 : XX X d 38 (1, L, .ref a :: st, M) Q = yg (M.2.2 a) 4 2 X d 38 4 L st M Q := G_getf rfl (by decide) rfl rfl rfl
theorem x38_4 : XX X d 38 (4, [l0, some (.int x)], st, M) Q = XX X d 38 (5, [l0, some (.int x)], .int x :: st, M) Q := H_ld rfl rfl rfl rfl rfl
theorem x38_5 {v1 : Value} (hd : 0 < d) (hs : stB st = true) : XX X d 38 (5, L, v1 :: .ref a :: st, M) Q = (mcl M a = some 6 ∧ CC X (d - 1) 61 [.ref a, v1] M (XC X d 38 5 8 L st Q)) := H_virt [v1] rfl (by decide) rfl rfl rfl rfl rfl hd hs
theorem x38_8 : XX X d 38 (8, L, [.int (ii p)], M) Q = Q (.inl (some (.int (ii p)))) M := G_ret rfl ⟨⟨⟨rfl, rfl, rfl, by decide⟩, rfl, rfl⟩, rfl, rfl⟩ rfl
theorem e38 : CC X d 38 [.ref a, .int x] M Q = XX X d 38 (0, [some (.ref a), some (.int x)], [], M) Q := H_ent rfl rfl
-- 39 X4_addStep (III)V
theorem x39_0 : XX X d 39 (0, [some (.ref a), l1, l2, l3], st, M) Q = XX X d 39 (1, [some (.ref a), l1, l2, l3], .ref a :: st, M) Q := H_ld rfl rfl rfl rfl rfl
theorem x39_0n : XX X d 39 (0, [some (.null), l1, l2, l3], st, M) Q = XX X d 39 (1, [some (.null), l1, l2, l3], .null :: st, M) Q := H_ld rfl rfl rfl rfl rfl
theorem x39_1 : XX X d 39 (1, L, .ref a :: st, M) Q = yg (M.2.2 a) 4 1 X d 39 4 L st M Q := G_getf rfl (by decide) rfl rfl rfl
theorem x39_4 : XX X d 39 (4, [l0, some (.int x), l2, l3], st, M) Q = XX X d 39 (5, [l0, some (.int x), l2, l3], .int x :: st, M) Q := H_ld rfl rfl rfl rfl rfl
theorem x39_5 {v1 : Value} (hd : 0 < d) (hs : stB st = true) : XX X d 39 (5, L, v1 :: .ref a :: st, M) Q = (mcl M a = some 6 ∧ CC X (d - 1) 63 [.ref a, v1] M (XC X d 39 5 8 L st Q)) := H_virt [v1] rfl (by decide) rfl rfl rfl rfl rfl hd hs
theorem x39_8 : XX X d 39 (8, [some (.ref a), l1, l2, l3], st, M) Q = XX X d 39 (9, [some (.ref a), l1, l2, l3], .ref a :: st, M) Q := H_ld rfl rfl rfl rfl rfl
theorem x39_8n : XX X d 39 (8, [some (.null), l1, l2, l3], st, M) Q = XX X d 39 (9, [some (.null), l1, l2, l3], .null :: st, M) Q := H_ld rfl rfl rfl rfl rfl
theorem x39_9 : XX X d 39 (9, L, .ref a :: st, M) Q = yg (M.2.2 a) 4 2 X d 39 12 L st M Q := G_getf rfl (by decide) rfl rfl rfl
theorem x39_12 : XX X d 39 (12, [l0, l1, some (.int x), l3], st, M) Q = XX X d 39 (13, [l0, l1, some (.int x), l3], .int x :: st, M) Q := H_ld rfl rfl rfl rfl rfl
theorem x39_13 {v1 : Value} (hd : 0 < d) (hs : stB st = true) : XX X d 39 (13, L, v1 :: .ref a :: st, M) Q = (mcl M a = some 6 ∧ CC X (d - 1) 63 [.ref a, v1] M (XC X d 39 13 16 L st Q)) := H_virt [v1] rfl (by decide) rfl rfl rfl rfl rfl hd hs
theorem x39_16 : XX X d 39 (16, [some (.ref a), l1, l2, l3], st, M) Q = XX X d 39 (17, [some (.ref a), l1, l2, l3], .ref a :: st, M) Q := H_ld rfl rfl rfl rfl rfl
theorem x39_16n : XX X d 39 (16, [some (.null), l1, l2, l3], st, M) Q = XX X d 39 (17, [some (.null), l1, l2, l3], .null :: st, M) Q := H_ld rfl rfl rfl rfl rfl
theorem x39_17 : XX X d 39 (17, L, .ref a :: st, M) Q = yg (M.2.2 a) 4 3 X d 39 20 L st M Q := G_getf rfl (by decide) rfl rfl rfl
theorem x39_20 : XX X d 39 (20, [l0, l1, l2, some (.int x)], st, M) Q = XX X d 39 (21, [l0, l1, l2, some (.int x)], .int x :: st, M) Q := H_ld rfl rfl rfl rfl rfl
theorem x39_21 {v1 : Value} (hd : 0 < d) (hs : stB st = true) : XX X d 39 (21, L, v1 :: .ref a :: st, M) Q = (mcl M a = some 6 ∧ CC X (d - 1) 63 [.ref a, v1] M (XC X d 39 21 24 L st Q)) := H_virt [v1] rfl (by decide) rfl rfl rfl rfl rfl hd hs
theorem x39_24 : XX X d 39 (24, L, [], M) Q = Q (.inl none) M := G_retv rfl (by decide) rfl
theorem e39 : CC X d 39 [.ref a, .int x, .int x2, .int x3] M Q = XX X d 39 (0, [some (.ref a), some (.int x), some (.int x2), some (.int x3)], [], M) Q := H_ent rfl rfl
-- 40 X4_insertStep (IIII)V
theorem x40_0 : XX X d 40 (0, [some (.ref a), l1, l2, l3, l4], st, M) Q = XX X d 40 (1, [some (.ref a), l1, l2, l3, l4], .ref a :: st, M) Q := H_ld rfl rfl rfl rfl rfl
theorem x40_0n : XX X d 40 (0, [some (.null), l1, l2, l3, l4], st, M) Q = XX X d 40 (1, [some (.null), l1, l2, l3, l4], .null :: st, M) Q := H_ld rfl rfl rfl rfl rfl
theorem x40_1 : XX X d 40 (1, L, .ref a :: st, M) Q = yg (M.2.2 a) 4 1 X d 40 4 L st M Q := G_getf rfl (by decide) rfl rfl rfl
theorem x40_4 : XX X d 40 (4, [l0, some (.int x), l2, l3, l4], st, M) Q = XX X d 40 (5, [l0, some (.int x), l2, l3, l4], .int x :: st, M) Q := H_ld rfl rfl rfl rfl rfl
theorem x40_5 : XX X d 40 (5, [l0, l1, some (.int x), l3, l4], st, M) Q = XX X d 40 (6, [l0, l1, some (.int x), l3, l4], .int x :: st, M) Q := H_ld rfl rfl rfl rfl rfl
theorem x40_6 {v1 v2 : Value} (hd : 0 < d) (hs : stB st = true) : XX X d 40 (6, L, v2 :: v1 :: .ref a :: st, M) Q = (mcl M a = some 6 ∧ CC X (d - 1) 65 [.ref a, v1, v2] M (XC X d 40 6 9 L st Q)) := H_virt [v1, v2] rfl (by decide) rfl rfl rfl rfl rfl hd hs
theorem x40_9 : XX X d 40 (9, [some (.ref a), l1, l2, l3, l4], st, M) Q = XX X d 40 (10, [some (.ref a), l1, l2, l3, l4], .ref a :: st, M) Q := H_ld rfl rfl rfl rfl rfl
theorem x40_9n : XX X d 40 (9, [some (.null), l1, l2, l3, l4], st, M) Q = XX X d 40 (10, [some (.null), l1, l2, l3, l4], .null :: st, M) Q := H_ld rfl rfl rfl rfl rfl
theorem x40_10 : XX X d 40 (10, L, .ref a :: st, M) Q = yg (M.2.2 a) 4 2 X d 40 13 L st M Q := G_getf rfl (by decide) rfl rfl rfl
theorem x40_13 : XX X d 40 (13, [l0, some (.int x), l2, l3, l4], st, M) Q = XX X d 40 (14, [l0, some (.int x), l2, l3, l4], .int x :: st, M) Q := H_ld rfl rfl rfl rfl rfl
theorem x40_14 : XX X d 40 (14, [l0, l1, l2, some (.int x), l4], st, M) Q = XX X d 40 (15, [l0, l1, l2, some (.int x), l4], .int x :: st, M) Q := H_ld rfl rfl rfl rfl rfl
theorem x40_15 {v1 v2 : Value} (hd : 0 < d) (hs : stB st = true) : XX X d 40 (15, L, v2 :: v1 :: .ref a :: st, M) Q = (mcl M a = some 6 ∧ CC X (d - 1) 65 [.ref a, v1, v2] M (XC X d 40 15 18 L st Q)) := H_virt [v1, v2] rfl (by decide) rfl rfl rfl rfl rfl hd hs
theorem x40_18 : XX X d 40 (18, [some (.ref a), l1, l2, l3, l4], st, M) Q = XX X d 40 (19, [some (.ref a), l1, l2, l3, l4], .ref a :: st, M) Q := H_ld rfl rfl rfl rfl rfl
theorem x40_18n : XX X d 40 (18, [some (.null), l1, l2, l3, l4], st, M) Q = XX X d 40 (19, [some (.null), l1, l2, l3, l4], .null :: st, M) Q := H_ld rfl rfl rfl rfl rfl
theorem x40_19 : XX X d 40 (19, L, .ref a :: st, M) Q = yg (M.2.2 a) 4 3 X d 40 22 L st M Q := G_getf rfl (by decide) rfl rfl rfl
theorem x40_22 : XX X d 40 (22, [l0, some (.int x), l2, l3, l4], st, M) Q = XX X d 40 (23, [l0, some (.int x), l2, l3, l4], .int x :: st, M) Q := H_ld rfl rfl rfl rfl rfl
theorem x40_23 : XX X d 40 (23, [l0, l1, l2, l3, some (.int x)], st, M) Q = XX X d 40 (25, [l0, l1, l2, l3, some (.int x)], .int x :: st, M) Q := H_ld rfl rfl rfl rfl rfl
theorem x40_25 {v1 v2 : Value} (hd : 0 < d) (hs : stB st = true) : XX X d 40 (25, L, v2 :: v1 :: .ref a :: st, M) Q = (mcl M a = some 6 ∧ CC X (d - 1) 65 [.ref a, v1, v2] M (XC X d 40 25 28 L st Q)) := H_virt [v1, v2] rfl (by decide) rfl rfl rfl rfl rfl hd hs
theorem x40_28 : XX X d 40 (28, L, [], M) Q = Q (.inl none) M := G_retv rfl (by decide) rfl
theorem e40 : CC X d 40 [.ref a, .int x, .int x2, .int x3, .int x4] M Q = XX X d 40 (0, [some (.ref a), some (.int x), some (.int x2), some (.int x3), some (.int x4)], [], M) Q := H_ent rfl rfl
-- 41 X4_landJumps (I)V
theorem x41_0 : XX X d 41 (0, [l0, some (.int x), l2], st, M) Q = XX X d 41 (1, [l0, some (.int x), l2], .int x :: st, M) Q := H_ld rfl rfl rfl rfl rfl
theorem x41_1 (h : wide (some l1) = false) : XX X d 41 (1, [l0, l1, l2], .int x :: st, M) Q = XX X d 41 (2, [l0, l1, some (.int x)], st, M) Q := H_st rfl rfl rfl rfl rfl rfl rfl rfl (Or.inr h)
theorem x41_2 : XX X d 41 (2, [l0, l1, some (.int x)], st, M) Q = XX X d 41 (3, [l0, l1, some (.int x)], .int x :: st, M) Q := H_ld rfl rfl rfl rfl rfl
theorem x41_3 : XX X d 41 (3, [some (.ref a), l1, l2], st, M) Q = XX X d 41 (4, [some (.ref a), l1, l2], .ref a :: st, M) Q := H_ld rfl rfl rfl rfl rfl
theorem x41_3n : XX X d 41 (3, [some (.null), l1, l2], st, M) Q = XX X d 41 (4, [some (.null), l1, l2], .null :: st, M) Q := H_ld rfl rfl rfl rfl rfl
theorem x41_4 : XX X d 41 (4, L, .ref a :: st, M) Q = yg (M.2.2 a) 4 1 X d 41 7 L st M Q := G_getf rfl (by decide) rfl rfl rfl
theorem x41_7 (hd : 0 < d) (hs : stB st = true) : XX X d 41 (7, L, .ref a :: st, M) Q = (mcl M a = some 6 ∧ CC X (d - 1) 58 [.ref a] M (XC X d 41 7 10 L st Q)) := H_virt [] rfl (by decide) rfl rfl rfl rfl rfl hd hs
theorem x41_10 (h : -2147483648 ≤ p ∧ p ≤ 2147483647 ∧ -2147483648 ≤ q ∧ q ≤ 2147483647) : XX X d 41 (10, L, .int (ii q) :: .int (ii p) :: st, M) Q = bq (q ≤ p) X d 41 60 13 L st M Q := H_if2 rfl ⟨rfl, rfl, rfl, by decide⟩ rfl rfl rfl rfl (D_le h)
theorem x41_13 : XX X d 41 (13, [some (.ref a), l1, l2], st, M) Q = XX X d 41 (14, [some (.ref a), l1, l2], .ref a :: st, M) Q := H_ld rfl rfl rfl rfl rfl
theorem x41_13n : XX X d 41 (13, [some (.null), l1, l2], st, M) Q = XX X d 41 (14, [some (.null), l1, l2], .null :: st, M) Q := H_ld rfl rfl rfl rfl rfl
theorem x41_14 : XX X d 41 (14, L, .ref a :: st, M) Q = yg (M.2.2 a) 4 1 X d 41 17 L st M Q := G_getf rfl (by decide) rfl rfl rfl
theorem x41_17 : XX X d 41 (17, [l0, l1, some (.int x)], st, M) Q = XX X d 41 (18, [l0, l1, some (.int x)], .int x :: st, M) Q := H_ld rfl rfl rfl rfl rfl
theorem x41_18 {v1 : Value} (hd : 0 < d) (hs : stB st = true) : XX X d 41 (18, L, v1 :: .ref a :: st, M) Q = (mcl M a = some 6 ∧ CC X (d - 1) 61 [.ref a, v1] M (XC X d 41 18 21 L st Q)) := H_virt [v1] rfl (by decide) rfl rfl rfl rfl rfl hd hs
theorem x41_21 : XX X d 41 (21, L, st, M) Q = XX X d 41 (23, L, .int (ii 6) :: st, M) Q := G_cst rfl rfl rfl rfl rfl
theorem x41_23 (h : -2147483648 ≤ p ∧ p ≤ 2147483647 ∧ -2147483648 ≤ q ∧ q ≤ 2147483647) : XX X d 41 (23, L, .int (ii q) :: .int (ii p) :: st, M) Q = bq (p ≠ q) X d 41 54 26 L st M Q := H_if2 rfl ⟨rfl, rfl, rfl, by decide⟩ rfl rfl rfl rfl (D_ne h)
theorem x41_26 : XX X d 41 (26, [some (.ref a), l1, l2], st, M) Q = XX X d 41 (27, [some (.ref a), l1, l2], .ref a :: st, M) Q := H_ld rfl rfl rfl rfl rfl
theorem x41_26n : XX X d 41 (26, [some (.null), l1, l2], st, M) Q = XX X d 41 (27, [some (.null), l1, l2], .null :: st, M) Q := H_ld rfl rfl rfl rfl rfl
theorem x41_27 : XX X d 41 (27, L, .ref a :: st, M) Q = yg (M.2.2 a) 4 2 X d 41 30 L st M Q := G_getf rfl (by decide) rfl rfl rfl
theorem x41_30 : XX X d 41 (30, [l0, l1, some (.int x)], st, M) Q = XX X d 41 (31, [l0, l1, some (.int x)], .int x :: st, M) Q := H_ld rfl rfl rfl rfl rfl
theorem x41_31 {v1 : Value} (hd : 0 < d) (hs : stB st = true) : XX X d 41 (31, L, v1 :: .ref a :: st, M) Q = (mcl M a = some 6 ∧ CC X (d - 1) 61 [.ref a, v1] M (XC X d 41 31 34 L st Q)) := H_virt [v1] rfl (by decide) rfl rfl rfl rfl rfl hd hs
theorem x41_34 (h : -2147483648 ≤ p ∧ p ≤ 2147483647) : XX X d 41 (34, L, .int (ii p) :: st, M) Q = bq (p ≠ 0) X d 41 54 37 L st M Q := H_if rfl ⟨rfl, rfl, rfl, by decide⟩ rfl rfl rfl rfl (D_ne (b := 0) (by omega))
theorem x41_34b : XX X d 41 (34, L, .int (ii (b2i b)) :: st, M) Q = bq (b = true) X d 41 54 37 L st M Q := (x41_34 (b2i_r b)).trans (by rw [b2i_n0])
theorem x41_37 : XX X d 41 (37, [some (.ref a), l1, l2], st, M) Q = XX X d 41 (38, [some (.ref a), l1, l2], .ref a :: st, M) Q := H_ld rfl rfl rfl rfl rfl
theorem x41_37n : XX X d 41 (37, [some (.null), l1, l2], st, M) Q = XX X d 41 (38, [some (.null), l1, l2], .null :: st, M) Q := H_ld rfl rfl rfl rfl rfl
theorem x41_38 : XX X d 41 (38, L, .ref a :: st, M) Q = yg (M.2.2 a) 4 2 X d 41 41 L st M Q := G_getf rfl (by decide) rfl rfl rfl
theorem x41_41 : XX X d 41 (41, [l0, l1, some (.int x)], st, M) Q = XX X d 41 (42, [l0, l1, some (.int x)], .int x :: st, M) Q := H_ld rfl rfl rfl rfl rfl
theorem x41_42 : XX X d 41 (42, [some (.ref a), l1, l2], st, M) Q = XX X d 41 (43, [some (.ref a), l1, l2], .ref a :: st, M) Q := H_ld rfl rfl rfl rfl rfl
theorem x41_42n : XX X d 41 (42, [some (.null), l1, l2], st, M) Q = XX X d 41 (43, [some (.null), l1, l2], .null :: st, M) Q := H_ld rfl rfl rfl rfl rfl
theorem x41_43 : XX X d 41 (43, L, .ref a :: st, M) Q = yg (M.2.2 a) 4 1 X d 41 46 L st M Q := G_getf rfl (by decide) rfl rfl rfl
theorem x41_46 (hd : 0 < d) (hs : stB st = true) : XX X d 41 (46, L, .ref a :: st, M) Q = (mcl M a = some 6 ∧ CC X (d - 1) 58 [.ref a] M (XC X d 41 46 49 L st Q)) := H_virt [] rfl (by decide) rfl rfl rfl rfl rfl hd hs
theorem x41_49 : XX X d 41 (49, [l0, l1, some (.int x)], st, M) Q = XX X d 41 (50, [l0, l1, some (.int x)], .int x :: st, M) Q := H_ld rfl rfl rfl rfl rfl
theorem x41_50 : XX X d 41 (50, L, .int (ii q) :: .int (ii p) :: st, M) Q = XX X d 41 (51, L, .int (ii (p - q)) :: st, M) Q := H_sub rfl (by decide) rfl
theorem x41_51 {v1 v2 : Value} (hd : 0 < d) (hs : stB st = true) : XX X d 41 (51, L, v2 :: v1 :: .ref a :: st, M) Q = (mcl M a = some 6 ∧ CC X (d - 1) 62 [.ref a, v1, v2] M (XC X d 41 51 54 L st Q)) := H_virt [v1, v2] rfl (by decide) rfl rfl rfl rfl rfl hd hs
theorem x41_54 (h : wide (some l1) = false) : XX X d 41 (54, [l0, l1, some (.int (ii p))], st, M) Q = XX X d 41 (57, [l0, l1, some (.int (ii (p + 1)))], st, M) Q := H_inc rfl (by decide) rfl rfl rfl (Or.inr h)
theorem x41_57 : XX X d 41 (57, L, st, M) Q = XX X d 41 (2, L, st, M) Q := H_jmp rfl (by decide) rfl
theorem x41_60 : XX X d 41 (60, L, [], M) Q = Q (.inl none) M := G_retv rfl (by decide) rfl
theorem e41 : CC X d 41 [.ref a, .int x] M Q = XX X d 41 (0, [some (.ref a), some (.int x), none], [], M) Q := H_ent rfl rfl
-- 42 X4_takes (II)Z
theorem x42_0 : XX X d 42 (0, [some (.ref a), l1, l2, l3, l4, l5, l6, l7], st, M) Q = XX X d 42 (1, [some (.ref a), l1, l2, l3, l4, l5, l6, l7], .ref a :: st, M) Q := H_ld rfl rfl rfl rfl rfl
theorem x42_0n : XX X d 42 (0, [some (.null), l1, l2, l3, l4, l5, l6, l7], st, M) Q = XX X d 42 (1, [some (.null), l1, l2, l3, l4, l5, l6, l7], .null :: st, M) Q := H_ld rfl rfl rfl rfl rfl
theorem x42_1 : XX X d 42 (1, L, .ref a :: st, M) Q = yg (M.2.2 a) 4 1 X d 42 4 L st M Q := G_getf rfl (by decide) rfl rfl rfl
theorem x42_4 : XX X d 42 (4, [l0, some (.int x), l2, l3, l4, l5, l6, l7], st, M) Q = XX X d 42 (5, [l0, some (.int x), l2, l3, l4, l5, l6, l7], .int x :: st, M) Q := H_ld rfl rfl rfl rfl rfl
theorem x42_5 {v1 : Value} (hd : 0 < d) (hs : stB st = true) : XX X d 42 (5, L, v1 :: .ref a :: st, M) Q = (mcl M a = some 6 ∧ CC X (d - 1) 61 [.ref a, v1] M (XC X d 42 5 8 L st Q)) := H_virt [v1] rfl (by decide) rfl rfl rfl rfl rfl hd hs
theorem x42_8 (h : wide (some l2) = false) : XX X d 42 (8, [l0, l1, l2, l3, l4, l5, l6, l7], .int x :: st, M) Q = XX X d 42 (9, [l0, l1, l2, some (.int x), l4, l5, l6, l7], st, M) Q := H_st rfl rfl rfl rfl rfl rfl rfl rfl (Or.inr h)
theorem x42_9 : XX X d 42 (9, [some (.ref a), l1, l2, l3, l4, l5, l6, l7], st, M) Q = XX X d 42 (10, [some (.ref a), l1, l2, l3, l4, l5, l6, l7], .ref a :: st, M) Q := H_ld rfl rfl rfl rfl rfl
theorem x42_9n : XX X d 42 (9, [some (.null), l1, l2, l3, l4, l5, l6, l7], st, M) Q = XX X d 42 (10, [some (.null), l1, l2, l3, l4, l5, l6, l7], .null :: st, M) Q := H_ld rfl rfl rfl rfl rfl
theorem x42_10 : XX X d 42 (10, L, .ref a :: st, M) Q = yg (M.2.2 a) 4 2 X d 42 13 L st M Q := G_getf rfl (by decide) rfl rfl rfl
theorem x42_13 : XX X d 42 (13, [l0, some (.int x), l2, l3, l4, l5, l6, l7], st, M) Q = XX X d 42 (14, [l0, some (.int x), l2, l3, l4, l5, l6, l7], .int x :: st, M) Q := H_ld rfl rfl rfl rfl rfl
theorem x42_14 {v1 : Value} (hd : 0 < d) (hs : stB st = true) : XX X d 42 (14, L, v1 :: .ref a :: st, M) Q = (mcl M a = some 6 ∧ CC X (d - 1) 61 [.ref a, v1] M (XC X d 42 14 17 L st Q)) := H_virt [v1] rfl (by decide) rfl rfl rfl rfl rfl hd hs
theorem x42_17 (h : wide (some l3) = false) : XX X d 42 (17, [l0, l1, l2, l3, l4, l5, l6, l7], .int x :: st, M) Q = XX X d 42 (19, [l0, l1, l2, l3, some (.int x), l5, l6, l7], st, M) Q := H_st rfl rfl rfl rfl rfl rfl rfl rfl (Or.inr h)
theorem x42_19 : XX X d 42 (19, [l0, l1, l2, some (.int x), l4, l5, l6, l7], st, M) Q = XX X d 42 (20, [l0, l1, l2, some (.int x), l4, l5, l6, l7], .int x :: st, M) Q := H_ld rfl rfl rfl rfl rfl
theorem x42_20 : XX X d 42 (20, L, st, M) Q = XX X d 42 (21, L, .int (ii 1) :: st, M) Q := G_cst rfl rfl rfl rfl rfl
theorem x42_21 (h : -2147483648 ≤ p ∧ p ≤ 2147483647 ∧ -2147483648 ≤ q ∧ q ≤ 2147483647) : XX X d 42 (21, L, .int (ii q) :: .int (ii p) :: st, M) Q = bq (p ≠ q) X d 42 36 24 L st M Q := H_if2 rfl ⟨rfl, rfl, rfl, by decide⟩ rfl rfl rfl rfl (D_ne h)
theorem x42_24 : XX X d 42 (24, [l0, l1, l2, l3, some (.int x), l5, l6, l7], st, M) Q = XX X d 42 (26, [l0, l1, l2, l3, some (.int x), l5, l6, l7], .int x :: st, M) Q := H_ld rfl rfl rfl rfl rfl
theorem x42_26 : XX X d 42 (26, [l0, l1, some (.int x), l3, l4, l5, l6, l7], st, M) Q = XX X d 42 (27, [l0, l1, some (.int x), l3, l4, l5, l6, l7], .int x :: st, M) Q := H_ld rfl rfl rfl rfl rfl
theorem x42_27 (h : -2147483648 ≤ p ∧ p ≤ 2147483647 ∧ -2147483648 ≤ q ∧ q ≤ 2147483647) : XX X d 42 (27, L, .int (ii q) :: .int (ii p) :: st, M) Q = bq (p ≠ q) X d 42 34 30 L st M Q := H_if2 rfl ⟨rfl, rfl, rfl, by decide⟩ rfl rfl rfl rfl (D_ne h)
theorem x42_30 : XX X d 42 (30, L, st, M) Q = XX X d 42 (31, L, .int (ii 1) :: st, M) Q := G_cst rfl rfl rfl rfl rfl
theorem x42_31 : XX X d 42 (31, L, st, M) Q = XX X d 42 (35, L, st, M) Q := H_jmp rfl (by decide) rfl
theorem x42_34 : XX X d 42 (34, L, st, M) Q = XX X d 42 (35, L, .int (ii 0) :: st, M) Q := G_cst rfl rfl rfl rfl rfl
theorem x42_35 (h : p = 0 ∨ p = 1) : XX X d 42 (35, L, [.int (ii p)], M) Q = Q (.inl (some (.int (ii p)))) M := G_ret rfl ⟨⟨⟨rfl, rfl, rfl, by decide⟩, rfl, rfl⟩, rfl, rfl⟩ (bz_ok h)
theorem x42_36 : XX X d 42 (36, [l0, l1, l2, some (.int x), l4, l5, l6, l7], st, M) Q = XX X d 42 (37, [l0, l1, l2, some (.int x), l4, l5, l6, l7], .int x :: st, M) Q := H_ld rfl rfl rfl rfl rfl
theorem x42_37 : XX X d 42 (37, L, st, M) Q = XX X d 42 (38, L, .int (ii 3) :: st, M) Q := G_cst rfl rfl rfl rfl rfl
theorem x42_38 (h : -2147483648 ≤ p ∧ p ≤ 2147483647 ∧ -2147483648 ≤ q ∧ q ≤ 2147483647) : XX X d 42 (38, L, .int (ii q) :: .int (ii p) :: st, M) Q = bq (p = q) X d 42 57 41 L st M Q := H_if2 rfl ⟨rfl, rfl, rfl, by decide⟩ rfl rfl rfl rfl (D_eq h)
theorem x42_41 : XX X d 42 (41, [l0, l1, l2, some (.int x), l4, l5, l6, l7], st, M) Q = XX X d 42 (42, [l0, l1, l2, some (.int x), l4, l5, l6, l7], .int x :: st, M) Q := H_ld rfl rfl rfl rfl rfl
theorem x42_42 : XX X d 42 (42, L, st, M) Q = XX X d 42 (43, L, .int (ii 4) :: st, M) Q := G_cst rfl rfl rfl rfl rfl
theorem x42_43 (h : -2147483648 ≤ p ∧ p ≤ 2147483647 ∧ -2147483648 ≤ q ∧ q ≤ 2147483647) : XX X d 42 (43, L, .int (ii q) :: .int (ii p) :: st, M) Q = bq (p = q) X d 42 57 46 L st M Q := H_if2 rfl ⟨rfl, rfl, rfl, by decide⟩ rfl rfl rfl rfl (D_eq h)
theorem x42_46 : XX X d 42 (46, [l0, l1, l2, some (.int x), l4, l5, l6, l7], st, M) Q = XX X d 42 (47, [l0, l1, l2, some (.int x), l4, l5, l6, l7], .int x :: st, M) Q := H_ld rfl rfl rfl rfl rfl
theorem x42_47 : XX X d 42 (47, L, st, M) Q = XX X d 42 (48, L, .int (ii 2) :: st, M) Q := G_cst rfl rfl rfl rfl rfl
theorem x42_48 (h : -2147483648 ≤ p ∧ p ≤ 2147483647 ∧ -2147483648 ≤ q ∧ q ≤ 2147483647) : XX X d 42 (48, L, .int (ii q) :: .int (ii p) :: st, M) Q = bq (p ≠ q) X d 42 55 51 L st M Q := H_if2 rfl ⟨rfl, rfl, rfl, by decide⟩ rfl rfl rfl rfl (D_ne h)
theorem x42_51 : XX X d 42 (51, L, st, M) Q = XX X d 42 (52, L, .int (ii 1) :: st, M) Q := G_cst rfl rfl rfl rfl rfl
theorem x42_52 : XX X d 42 (52, L, st, M) Q = XX X d 42 (56, L, st, M) Q := H_jmp rfl (by decide) rfl
theorem x42_55 : XX X d 42 (55, L, st, M) Q = XX X d 42 (56, L, .int (ii 0) :: st, M) Q := G_cst rfl rfl rfl rfl rfl
theorem x42_56 (h : p = 0 ∨ p = 1) : XX X d 42 (56, L, [.int (ii p)], M) Q = Q (.inl (some (.int (ii p)))) M := G_ret rfl ⟨⟨⟨rfl, rfl, rfl, by decide⟩, rfl, rfl⟩, rfl, rfl⟩ (bz_ok h)
theorem x42_57 : XX X d 42 (57, L, st, M) Q = XX X d 42 (58, L, .int (ii 0) :: st, M) Q := G_cst rfl rfl rfl rfl rfl
theorem x42_58 (h : wide (some l4) = false) : XX X d 42 (58, [l0, l1, l2, l3, l4, l5, l6, l7], .int x :: st, M) Q = XX X d 42 (60, [l0, l1, l2, l3, l4, some (.int x), l6, l7], st, M) Q := H_st rfl rfl rfl rfl rfl rfl rfl rfl (Or.inr h)
theorem x42_60 : XX X d 42 (60, [some (.ref a), l1, l2, l3, l4, l5, l6, l7], st, M) Q = XX X d 42 (61, [some (.ref a), l1, l2, l3, l4, l5, l6, l7], .ref a :: st, M) Q := H_ld rfl rfl rfl rfl rfl
theorem x42_60n : XX X d 42 (60, [some (.null), l1, l2, l3, l4, l5, l6, l7], st, M) Q = XX X d 42 (61, [some (.null), l1, l2, l3, l4, l5, l6, l7], .null :: st, M) Q := H_ld rfl rfl rfl rfl rfl
theorem x42_61 : XX X d 42 (61, L, .ref a :: st, M) Q = yg (M.2.2 a) 4 3 X d 42 64 L st M Q := G_getf rfl (by decide) rfl rfl rfl
theorem x42_64 : XX X d 42 (64, [l0, some (.int x), l2, l3, l4, l5, l6, l7], st, M) Q = XX X d 42 (65, [l0, some (.int x), l2, l3, l4, l5, l6, l7], .int x :: st, M) Q := H_ld rfl rfl rfl rfl rfl
theorem x42_65 {v1 : Value} (hd : 0 < d) (hs : stB st = true) : XX X d 42 (65, L, v1 :: .ref a :: st, M) Q = (mcl M a = some 6 ∧ CC X (d - 1) 61 [.ref a, v1] M (XC X d 42 65 68 L st Q)) := H_virt [v1] rfl (by decide) rfl rfl rfl rfl rfl hd hs
theorem x42_68 (h : wide (some l5) = false) : XX X d 42 (68, [l0, l1, l2, l3, l4, l5, l6, l7], .int x :: st, M) Q = XX X d 42 (70, [l0, l1, l2, l3, l4, l5, some (.int x), l7], st, M) Q := H_st rfl rfl rfl rfl rfl rfl rfl rfl (Or.inr h)
theorem x42_70 : XX X d 42 (70, [l0, l1, l2, l3, some (.int x), l5, l6, l7], st, M) Q = XX X d 42 (72, [l0, l1, l2, l3, some (.int x), l5, l6, l7], .int x :: st, M) Q := H_ld rfl rfl rfl rfl rfl
theorem x42_72 (h : wide (some l6) = false) : XX X d 42 (72, [l0, l1, l2, l3, l4, l5, l6, l7], .int x :: st, M) Q = XX X d 42 (74, [l0, l1, l2, l3, l4, l5, l6, some (.int x)], st, M) Q := H_st rfl rfl rfl rfl rfl rfl rfl rfl (Or.inr h)
theorem x42_74 : XX X d 42 (74, [l0, l1, l2, l3, l4, l5, l6, some (.int x)], st, M) Q = XX X d 42 (76, [l0, l1, l2, l3, l4, l5, l6, some (.int x)], .int x :: st, M) Q := H_ld rfl rfl rfl rfl rfl
theorem x42_76 : XX X d 42 (76, [l0, l1, l2, l3, l4, l5, some (.int x), l7], st, M) Q = XX X d 42 (78, [l0, l1, l2, l3, l4, l5, some (.int x), l7], .int x :: st, M) Q := H_ld rfl rfl rfl rfl rfl
theorem x42_78 (h : -2147483648 ≤ p ∧ p ≤ 2147483647 ∧ -2147483648 ≤ q ∧ q ≤ 2147483647) : XX X d 42 (78, L, .int (ii q) :: .int (ii p) :: st, M) Q = bq (q ≤ p) X d 42 112 81 L st M Q := H_if2 rfl ⟨rfl, rfl, rfl, by decide⟩ rfl rfl rfl rfl (D_le h)
theorem x42_81 : XX X d 42 (81, [l0, l1, l2, l3, l4, some (.int x), l6, l7], st, M) Q = XX X d 42 (83, [l0, l1, l2, l3, l4, some (.int x), l6, l7], .int x :: st, M) Q := H_ld rfl rfl rfl rfl rfl
theorem x42_83 (h : -2147483648 ≤ p ∧ p ≤ 2147483647) : XX X d 42 (83, L, .int (ii p) :: st, M) Q = bq (p ≠ 0) X d 42 112 86 L st M Q := H_if rfl ⟨rfl, rfl, rfl, by decide⟩ rfl rfl rfl rfl (D_ne (b := 0) (by omega))
theorem x42_83b : XX X d 42 (83, L, .int (ii (b2i b)) :: st, M) Q = bq (b = true) X d 42 112 86 L st M Q := (x42_83 (b2i_r b)).trans (by rw [b2i_n0])
theorem x42_86 : XX X d 42 (86, [some (.ref a), l1, l2, l3, l4, l5, l6, l7], st, M) Q = XX X d 42 (87, [some (.ref a), l1, l2, l3, l4, l5, l6, l7], .ref a :: st, M) Q := H_ld rfl rfl rfl rfl rfl
theorem x42_86n : XX X d 42 (86, [some (.null), l1, l2, l3, l4, l5, l6, l7], st, M) Q = XX X d 42 (87, [some (.null), l1, l2, l3, l4, l5, l6, l7], .null :: st, M) Q := H_ld rfl rfl rfl rfl rfl
theorem x42_87 : XX X d 42 (87, L, .ref a :: st, M) Q = yg (M.2.2 a) 4 0 X d 42 90 L st M Q := G_getf rfl (by decide) rfl rfl rfl
theorem x42_90 : XX X d 42 (90, [l0, l1, l2, l3, l4, l5, l6, some (.int x)], st, M) Q = XX X d 42 (92, [l0, l1, l2, l3, l4, l5, l6, some (.int x)], .int x :: st, M) Q := H_ld rfl rfl rfl rfl rfl
theorem x42_92 {v1 : Value} (hd : 0 < d) (hs : stB st = true) : XX X d 42 (92, L, v1 :: .ref a :: st, M) Q = (mcl M a = some 6 ∧ CC X (d - 1) 61 [.ref a, v1] M (XC X d 42 92 95 L st Q)) := H_virt [v1] rfl (by decide) rfl rfl rfl rfl rfl hd hs
theorem x42_95 : XX X d 42 (95, [l0, l1, some (.int x), l3, l4, l5, l6, l7], st, M) Q = XX X d 42 (96, [l0, l1, some (.int x), l3, l4, l5, l6, l7], .int x :: st, M) Q := H_ld rfl rfl rfl rfl rfl
theorem x42_96 (h : -2147483648 ≤ p ∧ p ≤ 2147483647 ∧ -2147483648 ≤ q ∧ q ≤ 2147483647) : XX X d 42 (96, L, .int (ii q) :: .int (ii p) :: st, M) Q = bq (p ≠ q) X d 42 103 99 L st M Q := H_if2 rfl ⟨rfl, rfl, rfl, by decide⟩ rfl rfl rfl rfl (D_ne h)
theorem x42_99 : XX X d 42 (99, L, st, M) Q = XX X d 42 (100, L, .int (ii 1) :: st, M) Q := G_cst rfl rfl rfl rfl rfl
theorem x42_100 : XX X d 42 (100, L, st, M) Q = XX X d 42 (104, L, st, M) Q := H_jmp rfl (by decide) rfl
theorem x42_103 : XX X d 42 (103, L, st, M) Q = XX X d 42 (104, L, .int (ii 0) :: st, M) Q := G_cst rfl rfl rfl rfl rfl
theorem x42_104 (h : wide (some l4) = false) : XX X d 42 (104, [l0, l1, l2, l3, l4, l5, l6, l7], .int x :: st, M) Q = XX X d 42 (106, [l0, l1, l2, l3, l4, some (.int x), l6, l7], st, M) Q := H_st rfl rfl rfl rfl rfl rfl rfl rfl (Or.inr h)
theorem x42_106 (h : wide (some l6) = false) : XX X d 42 (106, [l0, l1, l2, l3, l4, l5, l6, some (.int (ii p))], st, M) Q = XX X d 42 (109, [l0, l1, l2, l3, l4, l5, l6, some (.int (ii (p + 1)))], st, M) Q := H_inc rfl (by decide) rfl rfl rfl (Or.inr h)
theorem x42_109 : XX X d 42 (109, L, st, M) Q = XX X d 42 (74, L, st, M) Q := H_jmp rfl (by decide) rfl
theorem x42_112 : XX X d 42 (112, [l0, l1, l2, l3, l4, some (.int x), l6, l7], st, M) Q = XX X d 42 (114, [l0, l1, l2, l3, l4, some (.int x), l6, l7], .int x :: st, M) Q := H_ld rfl rfl rfl rfl rfl
theorem x42_114 : XX X d 42 (114, [l0, l1, l2, some (.int x), l4, l5, l6, l7], st, M) Q = XX X d 42 (115, [l0, l1, l2, some (.int x), l4, l5, l6, l7], .int x :: st, M) Q := H_ld rfl rfl rfl rfl rfl
theorem x42_115 : XX X d 42 (115, L, st, M) Q = XX X d 42 (116, L, .int (ii 3) :: st, M) Q := G_cst rfl rfl rfl rfl rfl
theorem x42_116 (h : -2147483648 ≤ p ∧ p ≤ 2147483647 ∧ -2147483648 ≤ q ∧ q ≤ 2147483647) : XX X d 42 (116, L, .int (ii q) :: .int (ii p) :: st, M) Q = bq (p ≠ q) X d 42 123 119 L st M Q := H_if2 rfl ⟨rfl, rfl, rfl, by decide⟩ rfl rfl rfl rfl (D_ne h)
theorem x42_119 : XX X d 42 (119, L, st, M) Q = XX X d 42 (120, L, .int (ii 1) :: st, M) Q := G_cst rfl rfl rfl rfl rfl
theorem x42_120 : XX X d 42 (120, L, st, M) Q = XX X d 42 (124, L, st, M) Q := H_jmp rfl (by decide) rfl
theorem x42_123 : XX X d 42 (123, L, st, M) Q = XX X d 42 (124, L, .int (ii 0) :: st, M) Q := G_cst rfl rfl rfl rfl rfl
theorem x42_124 (h : -2147483648 ≤ p ∧ p ≤ 2147483647 ∧ -2147483648 ≤ q ∧ q ≤ 2147483647) : XX X d 42 (124, L, .int (ii q) :: .int (ii p) :: st, M) Q = bq (p ≠ q) X d 42 131 127 L st M Q := H_if2 rfl ⟨rfl, rfl, rfl, by decide⟩ rfl rfl rfl rfl (D_ne h)
theorem x42_127 : XX X d 42 (127, L, st, M) Q = XX X d 42 (128, L, .int (ii 1) :: st, M) Q := G_cst rfl rfl rfl rfl rfl
theorem x42_128 : XX X d 42 (128, L, st, M) Q = XX X d 42 (132, L, st, M) Q := H_jmp rfl (by decide) rfl
theorem x42_131 : XX X d 42 (131, L, st, M) Q = XX X d 42 (132, L, .int (ii 0) :: st, M) Q := G_cst rfl rfl rfl rfl rfl
theorem x42_132 (h : p = 0 ∨ p = 1) : XX X d 42 (132, L, [.int (ii p)], M) Q = Q (.inl (some (.int (ii p)))) M := G_ret rfl ⟨⟨⟨rfl, rfl, rfl, by decide⟩, rfl, rfl⟩, rfl, rfl⟩ (bz_ok h)
theorem e42 : CC X d 42 [.ref a, .int x, .int x2] M Q = XX X d 42 (0, [some (.ref a), some (.int x), some (.int x2), none, none, none, none, none], [], M) Q := H_ent rfl rfl
end PX22pxsmall
