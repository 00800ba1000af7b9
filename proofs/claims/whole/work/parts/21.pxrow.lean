/-! Row: each row at its place, printed by wip/whole/genx.py -/
section PX21pxrow
variable {X : JX} {d a a1 a2 a3 a4 : Nat} {L : List (Option Value)} {st : List Value} {M : JM} {Q : JR → JM → Prop} {p q : Int} {b : Bool} {x x2 x3 x4 x5 x6 : Int32} {y y2 : Int64} {z z2 : UInt32} {w w2 : UInt64} {v v2 : Value} {l0 l1 l2 l3 l4 l5 l6 l7 l8 l9 l10 l11 l12 l13 l14 : Option Value}
-- 57 X6_init (I)V
theorem x57_0 : XX X d 57 (0, [some (.ref a), l1], st, M) Q = XX X d 57 (1, [some (.ref a), l1], .ref a :: st, M) Q := H_ld rfl rfl rfl rfl rfl
theorem x57_0n : XX X d 57 (0, [some (.null), l1], st, M) Q = XX X d 57 (1, [some (.null), l1], .null :: st, M) Q := H_ld rfl rfl rfl rfl rfl
theorem x57_1 (hs : stB st = true) : XX X d 57 (1, L, .ref a :: st, M) Q = XX X d 57 (4, L, st, M) Q := H_obj rfl (by decide) rfl rfl rfl hs
theorem x57_4 : XX X d 57 (4, [some (.ref a), l1], st, M) Q = XX X d 57 (5, [some (.ref a), l1], .ref a :: st, M) Q := H_ld rfl rfl rfl rfl rfl
theorem x57_4n : XX X d 57 (4, [some (.null), l1], st, M) Q = XX X d 57 (5, [some (.null), l1], .null :: st, M) Q := H_ld rfl rfl rfl rfl rfl
theorem x57_5 : XX X d 57 (5, L, st, M) Q = XX X d 57 (6, L, .int (ii 0) :: st, M) Q := G_cst rfl rfl rfl rfl rfl
theorem x57_6 : XX X d 57 (6, L, v :: .ref a :: st, M) Q = yp (M.2.2 a) a 6 1 v X d 57 9 L st M Q := G_putf rfl (by decide) rfl rfl rfl
theorem x57_9 : XX X d 57 (9, [some (.ref a), l1], st, M) Q = XX X d 57 (10, [some (.ref a), l1], .ref a :: st, M) Q := H_ld rfl rfl rfl rfl rfl
theorem x57_9n : XX X d 57 (9, [some (.null), l1], st, M) Q = XX X d 57 (10, [some (.null), l1], .null :: st, M) Q := H_ld rfl rfl rfl rfl rfl
theorem x57_10 : XX X d 57 (10, [l0, some (.int x)], st, M) Q = XX X d 57 (11, [l0, some (.int x)], .int x :: st, M) Q := H_ld rfl rfl rfl rfl rfl
theorem x57_11 (h : -2147483648 ≤ p ∧ p ≤ 2147483647) : XX X d 57 (11, L, .int (ii p) :: st, M) Q = bq (p ≤ 0) X d 57 18 14 L st M Q := H_if rfl ⟨rfl, rfl, rfl, by decide⟩ rfl rfl rfl rfl (D_ge (b := 0) (by omega))
theorem x57_14 : XX X d 57 (14, [l0, some (.int x)], st, M) Q = XX X d 57 (15, [l0, some (.int x)], .int x :: st, M) Q := H_ld rfl rfl rfl rfl rfl
theorem x57_15 : XX X d 57 (15, L, st, M) Q = XX X d 57 (19, L, st, M) Q := H_jmp rfl (by decide) rfl
theorem x57_18 : XX X d 57 (18, L, st, M) Q = XX X d 57 (19, L, .int (ii 0) :: st, M) Q := G_cst rfl rfl rfl rfl rfl
theorem x57_19 (h : 0 ≤ p ∧ p ≤ 10000) : XX X d 57 (19, L, .int (ii p) :: st, M) Q = XX X d 57 (21, L, .ref M.1 :: st, mnew M p.toNat (AI p.toNat (fun _ => 0))) Q := H_newa rfl (by decide) rfl rfl rfl h
theorem x57_21 : XX X d 57 (21, L, v :: .ref a :: st, M) Q = yp (M.2.2 a) a 6 0 v X d 57 24 L st M Q := G_putf rfl (by decide) rfl rfl rfl
theorem x57_24 : XX X d 57 (24, L, [], M) Q = Q (.inl none) M := G_retv rfl (by decide) rfl
theorem e57 : CC X d 57 [.ref a, .int x] M Q = XX X d 57 (0, [some (.ref a), some (.int x)], [], M) Q := H_ent rfl rfl
-- 58 X6_size ()I
theorem x58_0 : XX X d 58 (0, [some (.ref a)], st, M) Q = XX X d 58 (1, [some (.ref a)], .ref a :: st, M) Q := H_ld rfl rfl rfl rfl rfl
theorem x58_0n : XX X d 58 (0, [some (.null)], st, M) Q = XX X d 58 (1, [some (.null)], .null :: st, M) Q := H_ld rfl rfl rfl rfl rfl
theorem x58_1 : XX X d 58 (1, L, .ref a :: st, M) Q = yg (M.2.2 a) 6 1 X d 58 4 L st M Q := G_getf rfl (by decide) rfl rfl rfl
theorem x58_4 : XX X d 58 (4, L, [.int (ii p)], M) Q = Q (.inl (some (.int (ii p)))) M := G_ret rfl ⟨⟨⟨rfl, rfl, rfl, by decide⟩, rfl, rfl⟩, rfl, rfl⟩ rfl
theorem e58 : CC X d 58 [.ref a] M Q = XX X d 58 (0, [some (.ref a)], [], M) Q := H_ent rfl rfl
-- 59 X6_isFull ()Z
theorem x59_0 : XX X d 59 (0, [some (.ref a)], st, M) Q = XX X d 59 (1, [some (.ref a)], .ref a :: st, M) Q := H_ld rfl rfl rfl rfl rfl
theorem x59_0n : XX X d 59 (0, [some (.null)], st, M) Q = XX X d 59 (1, [some (.null)], .null :: st, M) Q := H_ld rfl rfl rfl rfl rfl
theorem x59_1 : XX X d 59 (1, L, .ref a :: st, M) Q = yg (M.2.2 a) 6 1 X d 59 4 L st M Q := G_getf rfl (by decide) rfl rfl rfl
theorem x59_4 : XX X d 59 (4, [some (.ref a)], st, M) Q = XX X d 59 (5, [some (.ref a)], .ref a :: st, M) Q := H_ld rfl rfl rfl rfl rfl
theorem x59_4n : XX X d 59 (4, [some (.null)], st, M) Q = XX X d 59 (5, [some (.null)], .null :: st, M) Q := H_ld rfl rfl rfl rfl rfl
theorem x59_5 : XX X d 59 (5, L, .ref a :: st, M) Q = yg (M.2.2 a) 6 0 X d 59 8 L st M Q := G_getf rfl (by decide) rfl rfl rfl
theorem x59_8 : XX X d 59 (8, L, .ref a :: st, M) Q = yn (M.2.2 a) X d 59 9 L st M Q := H_alen rfl (by decide) rfl
theorem x59_9 (h : -2147483648 ≤ p ∧ p ≤ 2147483647 ∧ -2147483648 ≤ q ∧ q ≤ 2147483647) : XX X d 59 (9, L, .int (ii q) :: .int (ii p) :: st, M) Q = bq (p < q) X d 59 16 12 L st M Q := H_if2 rfl ⟨rfl, rfl, rfl, by decide⟩ rfl rfl rfl rfl (D_lt h)
theorem x59_12 : XX X d 59 (12, L, st, M) Q = XX X d 59 (13, L, .int (ii 1) :: st, M) Q := G_cst rfl rfl rfl rfl rfl
theorem x59_13 : XX X d 59 (13, L, st, M) Q = XX X d 59 (17, L, st, M) Q := H_jmp rfl (by decide) rfl
theorem x59_16 : XX X d 59 (16, L, st, M) Q = XX X d 59 (17, L, .int (ii 0) :: st, M) Q := G_cst rfl rfl rfl rfl rfl
theorem x59_17 (h : p = 0 ∨ p = 1) : XX X d 59 (17, L, [.int (ii p)], M) Q = Q (.inl (some (.int (ii p)))) M := G_ret rfl ⟨⟨⟨rfl, rfl, rfl, by decide⟩, rfl, rfl⟩, rfl, rfl⟩ (bz_ok h)
theorem e59 : CC X d 59 [.ref a] M Q = XX X d 59 (0, [some (.ref a)], [], M) Q := H_ent rfl rfl
-- 60 X6_holds (I)Z
theorem x60_0 : XX X d 60 (0, [l0, some (.int x)], st, M) Q = XX X d 60 (1, [l0, some (.int x)], .int x :: st, M) Q := H_ld rfl rfl rfl rfl rfl
theorem x60_1 (h : -2147483648 ≤ p ∧ p ≤ 2147483647) : XX X d 60 (1, L, .int (ii p) :: st, M) Q = bq (p < 0) X d 60 16 4 L st M Q := H_if rfl ⟨rfl, rfl, rfl, by decide⟩ rfl rfl rfl rfl (D_lt (b := 0) (by omega))
theorem x60_4 : XX X d 60 (4, [l0, some (.int x)], st, M) Q = XX X d 60 (5, [l0, some (.int x)], .int x :: st, M) Q := H_ld rfl rfl rfl rfl rfl
theorem x60_5 : XX X d 60 (5, [some (.ref a), l1], st, M) Q = XX X d 60 (6, [some (.ref a), l1], .ref a :: st, M) Q := H_ld rfl rfl rfl rfl rfl
theorem x60_5n : XX X d 60 (5, [some (.null), l1], st, M) Q = XX X d 60 (6, [some (.null), l1], .null :: st, M) Q := H_ld rfl rfl rfl rfl rfl
theorem x60_6 : XX X d 60 (6, L, .ref a :: st, M) Q = yg (M.2.2 a) 6 1 X d 60 9 L st M Q := G_getf rfl (by decide) rfl rfl rfl
theorem x60_9 (h : -2147483648 ≤ p ∧ p ≤ 2147483647 ∧ -2147483648 ≤ q ∧ q ≤ 2147483647) : XX X d 60 (9, L, .int (ii q) :: .int (ii p) :: st, M) Q = bq (q ≤ p) X d 60 16 12 L st M Q := H_if2 rfl ⟨rfl, rfl, rfl, by decide⟩ rfl rfl rfl rfl (D_le h)
theorem x60_12 : XX X d 60 (12, L, st, M) Q = XX X d 60 (13, L, .int (ii 1) :: st, M) Q := G_cst rfl rfl rfl rfl rfl
theorem x60_13 : XX X d 60 (13, L, st, M) Q = XX X d 60 (17, L, st, M) Q := H_jmp rfl (by decide) rfl
theorem x60_16 : XX X d 60 (16, L, st, M) Q = XX X d 60 (17, L, .int (ii 0) :: st, M) Q := G_cst rfl rfl rfl rfl rfl
theorem x60_17 (h : p = 0 ∨ p = 1) : XX X d 60 (17, L, [.int (ii p)], M) Q = Q (.inl (some (.int (ii p)))) M := G_ret rfl ⟨⟨⟨rfl, rfl, rfl, by decide⟩, rfl, rfl⟩, rfl, rfl⟩ (bz_ok h)
theorem e60 : CC X d 60 [.ref a, .int x] M Q = XX X d 60 (0, [some (.ref a), some (.int x)], [], M) Q := H_ent rfl rfl
-- 61 X6_at (I)I
theorem x61_0 : XX X d 61 (0, [l0, some (.int x)], st, M) Q = XX X d 61 (1, [l0, some (.int x)], .int x :: st, M) Q := H_ld rfl rfl rfl rfl rfl
theorem x61_1 (h : -2147483648 ≤ p ∧ p ≤ 2147483647) : XX X d 61 (1, L, .int (ii p) :: st, M) Q = bq (p < 0) X d 61 21 4 L st M Q := H_if rfl ⟨rfl, rfl, rfl, by decide⟩ rfl rfl rfl rfl (D_lt (b := 0) (by omega))
theorem x61_4 : XX X d 61 (4, [l0, some (.int x)], st, M) Q = XX X d 61 (5, [l0, some (.int x)], .int x :: st, M) Q := H_ld rfl rfl rfl rfl rfl
theorem x61_5 : XX X d 61 (5, [some (.ref a), l1], st, M) Q = XX X d 61 (6, [some (.ref a), l1], .ref a :: st, M) Q := H_ld rfl rfl rfl rfl rfl
theorem x61_5n : XX X d 61 (5, [some (.null), l1], st, M) Q = XX X d 61 (6, [some (.null), l1], .null :: st, M) Q := H_ld rfl rfl rfl rfl rfl
theorem x61_6 : XX X d 61 (6, L, .ref a :: st, M) Q = yg (M.2.2 a) 6 1 X d 61 9 L st M Q := G_getf rfl (by decide) rfl rfl rfl
theorem x61_9 (h : -2147483648 ≤ p ∧ p ≤ 2147483647 ∧ -2147483648 ≤ q ∧ q ≤ 2147483647) : XX X d 61 (9, L, .int (ii q) :: .int (ii p) :: st, M) Q = bq (q ≤ p) X d 61 21 12 L st M Q := H_if2 rfl ⟨rfl, rfl, rfl, by decide⟩ rfl rfl rfl rfl (D_le h)
theorem x61_12 : XX X d 61 (12, [l0, some (.int x)], st, M) Q = XX X d 61 (13, [l0, some (.int x)], .int x :: st, M) Q := H_ld rfl rfl rfl rfl rfl
theorem x61_13 : XX X d 61 (13, [some (.ref a), l1], st, M) Q = XX X d 61 (14, [some (.ref a), l1], .ref a :: st, M) Q := H_ld rfl rfl rfl rfl rfl
theorem x61_13n : XX X d 61 (13, [some (.null), l1], st, M) Q = XX X d 61 (14, [some (.null), l1], .null :: st, M) Q := H_ld rfl rfl rfl rfl rfl
theorem x61_14 : XX X d 61 (14, L, .ref a :: st, M) Q = yg (M.2.2 a) 6 0 X d 61 17 L st M Q := G_getf rfl (by decide) rfl rfl rfl
theorem x61_17 : XX X d 61 (17, L, .ref a :: st, M) Q = yn (M.2.2 a) X d 61 18 L st M Q := H_alen rfl (by decide) rfl
theorem x61_18 (h : -2147483648 ≤ p ∧ p ≤ 2147483647 ∧ -2147483648 ≤ q ∧ q ≤ 2147483647) : XX X d 61 (18, L, .int (ii q) :: .int (ii p) :: st, M) Q = bq (p < q) X d 61 23 21 L st M Q := H_if2 rfl ⟨rfl, rfl, rfl, by decide⟩ rfl rfl rfl rfl (D_lt h)
theorem x61_21 : XX X d 61 (21, L, st, M) Q = XX X d 61 (22, L, .int (ii 0) :: st, M) Q := G_cst rfl rfl rfl rfl rfl
theorem x61_22 : XX X d 61 (22, L, [.int (ii p)], M) Q = Q (.inl (some (.int (ii p)))) M := G_ret rfl ⟨⟨⟨rfl, rfl, rfl, by decide⟩, rfl, rfl⟩, rfl, rfl⟩ rfl
theorem x61_23 : XX X d 61 (23, [some (.ref a), l1], st, M) Q = XX X d 61 (24, [some (.ref a), l1], .ref a :: st, M) Q := H_ld rfl rfl rfl rfl rfl
theorem x61_23n : XX X d 61 (23, [some (.null), l1], st, M) Q = XX X d 61 (24, [some (.null), l1], .null :: st, M) Q := H_ld rfl rfl rfl rfl rfl
theorem x61_24 : XX X d 61 (24, L, .ref a :: st, M) Q = yg (M.2.2 a) 6 0 X d 61 27 L st M Q := G_getf rfl (by decide) rfl rfl rfl
theorem x61_27 : XX X d 61 (27, [l0, some (.int x)], st, M) Q = XX X d 61 (28, [l0, some (.int x)], .int x :: st, M) Q := H_ld rfl rfl rfl rfl rfl
theorem x61_28 : XX X d 61 (28, L, .int x :: .ref a :: st, M) Q = ya (M.2.2 a) .iaload x X d 61 29 L st M Q := G_ald rfl ⟨⟨rfl, rfl, rfl, by decide⟩, rfl, rfl⟩ rfl rfl
theorem x61_29 : XX X d 61 (29, L, [.int (ii p)], M) Q = Q (.inl (some (.int (ii p)))) M := G_ret rfl ⟨⟨⟨rfl, rfl, rfl, by decide⟩, rfl, rfl⟩, rfl, rfl⟩ rfl
theorem e61 : CC X d 61 [.ref a, .int x] M Q = XX X d 61 (0, [some (.ref a), some (.int x)], [], M) Q := H_ent rfl rfl
-- 62 X6_put (II)V
theorem x62_0 : XX X d 62 (0, [l0, some (.int x), l2], st, M) Q = XX X d 62 (1, [l0, some (.int x), l2], .int x :: st, M) Q := H_ld rfl rfl rfl rfl rfl
theorem x62_1 (h : -2147483648 ≤ p ∧ p ≤ 2147483647) : XX X d 62 (1, L, .int (ii p) :: st, M) Q = bq (p < 0) X d 62 28 4 L st M Q := H_if rfl ⟨rfl, rfl, rfl, by decide⟩ rfl rfl rfl rfl (D_lt (b := 0) (by omega))
theorem x62_4 : XX X d 62 (4, [l0, some (.int x), l2], st, M) Q = XX X d 62 (5, [l0, some (.int x), l2], .int x :: st, M) Q := H_ld rfl rfl rfl rfl rfl
theorem x62_5 : XX X d 62 (5, [some (.ref a), l1, l2], st, M) Q = XX X d 62 (6, [some (.ref a), l1, l2], .ref a :: st, M) Q := H_ld rfl rfl rfl rfl rfl
theorem x62_5n : XX X d 62 (5, [some (.null), l1, l2], st, M) Q = XX X d 62 (6, [some (.null), l1, l2], .null :: st, M) Q := H_ld rfl rfl rfl rfl rfl
theorem x62_6 : XX X d 62 (6, L, .ref a :: st, M) Q = yg (M.2.2 a) 6 1 X d 62 9 L st M Q := G_getf rfl (by decide) rfl rfl rfl
theorem x62_9 (h : -2147483648 ≤ p ∧ p ≤ 2147483647 ∧ -2147483648 ≤ q ∧ q ≤ 2147483647) : XX X d 62 (9, L, .int (ii q) :: .int (ii p) :: st, M) Q = bq (q ≤ p) X d 62 28 12 L st M Q := H_if2 rfl ⟨rfl, rfl, rfl, by decide⟩ rfl rfl rfl rfl (D_le h)
theorem x62_12 : XX X d 62 (12, [l0, some (.int x), l2], st, M) Q = XX X d 62 (13, [l0, some (.int x), l2], .int x :: st, M) Q := H_ld rfl rfl rfl rfl rfl
theorem x62_13 : XX X d 62 (13, [some (.ref a), l1, l2], st, M) Q = XX X d 62 (14, [some (.ref a), l1, l2], .ref a :: st, M) Q := H_ld rfl rfl rfl rfl rfl
theorem x62_13n : XX X d 62 (13, [some (.null), l1, l2], st, M) Q = XX X d 62 (14, [some (.null), l1, l2], .null :: st, M) Q := H_ld rfl rfl rfl rfl rfl
theorem x62_14 : XX X d 62 (14, L, .ref a :: st, M) Q = yg (M.2.2 a) 6 0 X d 62 17 L st M Q := G_getf rfl (by decide) rfl rfl rfl
theorem x62_17 : XX X d 62 (17, L, .ref a :: st, M) Q = yn (M.2.2 a) X d 62 18 L st M Q := H_alen rfl (by decide) rfl
theorem x62_18 (h : -2147483648 ≤ p ∧ p ≤ 2147483647 ∧ -2147483648 ≤ q ∧ q ≤ 2147483647) : XX X d 62 (18, L, .int (ii q) :: .int (ii p) :: st, M) Q = bq (q ≤ p) X d 62 28 21 L st M Q := H_if2 rfl ⟨rfl, rfl, rfl, by decide⟩ rfl rfl rfl rfl (D_le h)
theorem x62_21 : XX X d 62 (21, [some (.ref a), l1, l2], st, M) Q = XX X d 62 (22, [some (.ref a), l1, l2], .ref a :: st, M) Q := H_ld rfl rfl rfl rfl rfl
theorem x62_21n : XX X d 62 (21, [some (.null), l1, l2], st, M) Q = XX X d 62 (22, [some (.null), l1, l2], .null :: st, M) Q := H_ld rfl rfl rfl rfl rfl
theorem x62_22 : XX X d 62 (22, L, .ref a :: st, M) Q = yg (M.2.2 a) 6 0 X d 62 25 L st M Q := G_getf rfl (by decide) rfl rfl rfl
theorem x62_25 : XX X d 62 (25, [l0, some (.int x), l2], st, M) Q = XX X d 62 (26, [l0, some (.int x), l2], .int x :: st, M) Q := H_ld rfl rfl rfl rfl rfl
theorem x62_26 : XX X d 62 (26, [l0, l1, some (.int x)], st, M) Q = XX X d 62 (27, [l0, l1, some (.int x)], .int x :: st, M) Q := H_ld rfl rfl rfl rfl rfl
theorem x62_27 : XX X d 62 (27, L, v :: .int x :: .ref a :: st, M) Q = yw (M.2.2 a) a .iastore v x X d 62 28 L st M Q := G_ast rfl ⟨⟨rfl, rfl, rfl, by decide⟩, rfl, rfl⟩ rfl rfl rfl
theorem x62_28 : XX X d 62 (28, L, [], M) Q = Q (.inl none) M := G_retv rfl (by decide) rfl
theorem e62 : CC X d 62 [.ref a, .int x, .int x2] M Q = XX X d 62 (0, [some (.ref a), some (.int x), some (.int x2)], [], M) Q := H_ent rfl rfl
-- 63 X6_add (I)V
theorem x63_0 : XX X d 63 (0, [some (.ref a), l1, l2], st, M) Q = XX X d 63 (1, [some (.ref a), l1, l2], .ref a :: st, M) Q := H_ld rfl rfl rfl rfl rfl
theorem x63_0n : XX X d 63 (0, [some (.null), l1, l2], st, M) Q = XX X d 63 (1, [some (.null), l1, l2], .null :: st, M) Q := H_ld rfl rfl rfl rfl rfl
theorem x63_1 : XX X d 63 (1, L, .ref a :: st, M) Q = yg (M.2.2 a) 6 1 X d 63 4 L st M Q := G_getf rfl (by decide) rfl rfl rfl
theorem x63_4 (h : wide (some l1) = false) : XX X d 63 (4, [l0, l1, l2], .int x :: st, M) Q = XX X d 63 (5, [l0, l1, some (.int x)], st, M) Q := H_st rfl rfl rfl rfl rfl rfl rfl rfl (Or.inr h)
theorem x63_5 : XX X d 63 (5, [l0, l1, some (.int x)], st, M) Q = XX X d 63 (6, [l0, l1, some (.int x)], .int x :: st, M) Q := H_ld rfl rfl rfl rfl rfl
theorem x63_6 (h : -2147483648 ≤ p ∧ p ≤ 2147483647) : XX X d 63 (6, L, .int (ii p) :: st, M) Q = bq (p < 0) X d 63 32 9 L st M Q := H_if rfl ⟨rfl, rfl, rfl, by decide⟩ rfl rfl rfl rfl (D_lt (b := 0) (by omega))
theorem x63_9 : XX X d 63 (9, [l0, l1, some (.int x)], st, M) Q = XX X d 63 (10, [l0, l1, some (.int x)], .int x :: st, M) Q := H_ld rfl rfl rfl rfl rfl
theorem x63_10 : XX X d 63 (10, [some (.ref a), l1, l2], st, M) Q = XX X d 63 (11, [some (.ref a), l1, l2], .ref a :: st, M) Q := H_ld rfl rfl rfl rfl rfl
theorem x63_10n : XX X d 63 (10, [some (.null), l1, l2], st, M) Q = XX X d 63 (11, [some (.null), l1, l2], .null :: st, M) Q := H_ld rfl rfl rfl rfl rfl
theorem x63_11 : XX X d 63 (11, L, .ref a :: st, M) Q = yg (M.2.2 a) 6 0 X d 63 14 L st M Q := G_getf rfl (by decide) rfl rfl rfl
theorem x63_14 : XX X d 63 (14, L, .ref a :: st, M) Q = yn (M.2.2 a) X d 63 15 L st M Q := H_alen rfl (by decide) rfl
theorem x63_15 (h : -2147483648 ≤ p ∧ p ≤ 2147483647 ∧ -2147483648 ≤ q ∧ q ≤ 2147483647) : XX X d 63 (15, L, .int (ii q) :: .int (ii p) :: st, M) Q = bq (q ≤ p) X d 63 32 18 L st M Q := H_if2 rfl ⟨rfl, rfl, rfl, by decide⟩ rfl rfl rfl rfl (D_le h)
theorem x63_18 : XX X d 63 (18, [some (.ref a), l1, l2], st, M) Q = XX X d 63 (19, [some (.ref a), l1, l2], .ref a :: st, M) Q := H_ld rfl rfl rfl rfl rfl
theorem x63_18n : XX X d 63 (18, [some (.null), l1, l2], st, M) Q = XX X d 63 (19, [some (.null), l1, l2], .null :: st, M) Q := H_ld rfl rfl rfl rfl rfl
theorem x63_19 : XX X d 63 (19, L, .ref a :: st, M) Q = yg (M.2.2 a) 6 0 X d 63 22 L st M Q := G_getf rfl (by decide) rfl rfl rfl
theorem x63_22 : XX X d 63 (22, [l0, l1, some (.int x)], st, M) Q = XX X d 63 (23, [l0, l1, some (.int x)], .int x :: st, M) Q := H_ld rfl rfl rfl rfl rfl
theorem x63_23 : XX X d 63 (23, [l0, some (.int x), l2], st, M) Q = XX X d 63 (24, [l0, some (.int x), l2], .int x :: st, M) Q := H_ld rfl rfl rfl rfl rfl
theorem x63_24 : XX X d 63 (24, L, v :: .int x :: .ref a :: st, M) Q = yw (M.2.2 a) a .iastore v x X d 63 25 L st M Q := G_ast rfl ⟨⟨rfl, rfl, rfl, by decide⟩, rfl, rfl⟩ rfl rfl rfl
theorem x63_25 : XX X d 63 (25, [some (.ref a), l1, l2], st, M) Q = XX X d 63 (26, [some (.ref a), l1, l2], .ref a :: st, M) Q := H_ld rfl rfl rfl rfl rfl
theorem x63_25n : XX X d 63 (25, [some (.null), l1, l2], st, M) Q = XX X d 63 (26, [some (.null), l1, l2], .null :: st, M) Q := H_ld rfl rfl rfl rfl rfl
theorem x63_26 : XX X d 63 (26, [l0, l1, some (.int x)], st, M) Q = XX X d 63 (27, [l0, l1, some (.int x)], .int x :: st, M) Q := H_ld rfl rfl rfl rfl rfl
theorem x63_27 : XX X d 63 (27, L, st, M) Q = XX X d 63 (28, L, .int (ii 1) :: st, M) Q := G_cst rfl rfl rfl rfl rfl
theorem x63_28 : XX X d 63 (28, L, .int (ii q) :: .int (ii p) :: st, M) Q = XX X d 63 (29, L, .int (ii (p + q)) :: st, M) Q := H_add rfl (by decide) rfl
theorem x63_29 : XX X d 63 (29, L, v :: .ref a :: st, M) Q = yp (M.2.2 a) a 6 1 v X d 63 32 L st M Q := G_putf rfl (by decide) rfl rfl rfl
theorem x63_32 : XX X d 63 (32, L, [], M) Q = Q (.inl none) M := G_retv rfl (by decide) rfl
theorem e63 : CC X d 63 [.ref a, .int x] M Q = XX X d 63 (0, [some (.ref a), some (.int x), none], [], M) Q := H_ent rfl rfl
-- 64 X6_removeLast ()I
theorem x64_0 : XX X d 64 (0, [some (.ref a), l1], st, M) Q = XX X d 64 (1, [some (.ref a), l1], .ref a :: st, M) Q := H_ld rfl rfl rfl rfl rfl
theorem x64_0n : XX X d 64 (0, [some (.null), l1], st, M) Q = XX X d 64 (1, [some (.null), l1], .null :: st, M) Q := H_ld rfl rfl rfl rfl rfl
theorem x64_1 : XX X d 64 (1, L, .ref a :: st, M) Q = yg (M.2.2 a) 6 1 X d 64 4 L st M Q := G_getf rfl (by decide) rfl rfl rfl
theorem x64_4 (h : -2147483648 ≤ p ∧ p ≤ 2147483647) : XX X d 64 (4, L, .int (ii p) :: st, M) Q = bq (0 < p) X d 64 9 7 L st M Q := H_if rfl ⟨rfl, rfl, rfl, by decide⟩ rfl rfl rfl rfl (D_gt (b := 0) (by omega))
theorem x64_7 : XX X d 64 (7, L, st, M) Q = XX X d 64 (8, L, .int (ii 0) :: st, M) Q := G_cst rfl rfl rfl rfl rfl
theorem x64_8 : XX X d 64 (8, L, [.int (ii p)], M) Q = Q (.inl (some (.int (ii p)))) M := G_ret rfl ⟨⟨⟨rfl, rfl, rfl, by decide⟩, rfl, rfl⟩, rfl, rfl⟩ rfl
theorem x64_9 : XX X d 64 (9, [some (.ref a), l1], st, M) Q = XX X d 64 (10, [some (.ref a), l1], .ref a :: st, M) Q := H_ld rfl rfl rfl rfl rfl
theorem x64_9n : XX X d 64 (9, [some (.null), l1], st, M) Q = XX X d 64 (10, [some (.null), l1], .null :: st, M) Q := H_ld rfl rfl rfl rfl rfl
theorem x64_10 : XX X d 64 (10, [some (.ref a), l1], st, M) Q = XX X d 64 (11, [some (.ref a), l1], .ref a :: st, M) Q := H_ld rfl rfl rfl rfl rfl
theorem x64_10n : XX X d 64 (10, [some (.null), l1], st, M) Q = XX X d 64 (11, [some (.null), l1], .null :: st, M) Q := H_ld rfl rfl rfl rfl rfl
theorem x64_11 : XX X d 64 (11, L, .ref a :: st, M) Q = yg (M.2.2 a) 6 1 X d 64 14 L st M Q := G_getf rfl (by decide) rfl rfl rfl
theorem x64_14 : XX X d 64 (14, L, st, M) Q = XX X d 64 (15, L, .int (ii 1) :: st, M) Q := G_cst rfl rfl rfl rfl rfl
theorem x64_15 : XX X d 64 (15, L, .int (ii q) :: .int (ii p) :: st, M) Q = XX X d 64 (16, L, .int (ii (p - q)) :: st, M) Q := H_sub rfl (by decide) rfl
theorem x64_16 {v1 : Value} (hd : 0 < d) (hs : stB st = true) : XX X d 64 (16, L, v1 :: .ref a :: st, M) Q = (mcl M a = some 6 ∧ CC X (d - 1) 61 [.ref a, v1] M (XC X d 64 16 19 L st Q)) := H_virt [v1] rfl (by decide) rfl rfl rfl rfl rfl hd hs
theorem x64_19 (h : wide (some l0) = false) : XX X d 64 (19, [l0, l1], .int x :: st, M) Q = XX X d 64 (20, [l0, some (.int x)], st, M) Q := H_st rfl rfl rfl rfl rfl rfl rfl rfl (Or.inr h)
theorem x64_20 : XX X d 64 (20, [some (.ref a), l1], st, M) Q = XX X d 64 (21, [some (.ref a), l1], .ref a :: st, M) Q := H_ld rfl rfl rfl rfl rfl
theorem x64_20n : XX X d 64 (20, [some (.null), l1], st, M) Q = XX X d 64 (21, [some (.null), l1], .null :: st, M) Q := H_ld rfl rfl rfl rfl rfl
theorem x64_21 (h : v.category = 1) : XX X d 64 (21, L, v :: st, M) Q = XX X d 64 (22, L, v :: v :: st, M) Q := G_sop rfl ⟨rfl, rfl, rfl, by decide⟩ (if_pos h) rfl
theorem x64_22 : XX X d 64 (22, L, .ref a :: st, M) Q = yg (M.2.2 a) 6 1 X d 64 25 L st M Q := G_getf rfl (by decide) rfl rfl rfl
theorem x64_25 : XX X d 64 (25, L, st, M) Q = XX X d 64 (26, L, .int (ii 1) :: st, M) Q := G_cst rfl rfl rfl rfl rfl
theorem x64_26 : XX X d 64 (26, L, .int (ii q) :: .int (ii p) :: st, M) Q = XX X d 64 (27, L, .int (ii (p - q)) :: st, M) Q := H_sub rfl (by decide) rfl
theorem x64_27 : XX X d 64 (27, L, v :: .ref a :: st, M) Q = yp (M.2.2 a) a 6 1 v X d 64 30 L st M Q := G_putf rfl (by decide) rfl rfl rfl
theorem x64_30 : XX X d 64 (30, [l0, some (.int x)], st, M) Q = XX X d 64 (31, [l0, some (.int x)], .int x :: st, M) Q := H_ld rfl rfl rfl rfl rfl
theorem x64_31 : XX X d 64 (31, L, [.int (ii p)], M) Q = Q (.inl (some (.int (ii p)))) M := G_ret rfl ⟨⟨⟨rfl, rfl, rfl, by decide⟩, rfl, rfl⟩, rfl, rfl⟩ rfl
theorem e64 : CC X d 64 [.ref a] M Q = XX X d 64 (0, [some (.ref a), none], [], M) Q := H_ent rfl rfl
-- 65 X6_insert (II)V
theorem x65_0 : XX X d 65 (0, [l0, some (.int x), l2, l3], st, M) Q = XX X d 65 (1, [l0, some (.int x), l2, l3], .int x :: st, M) Q := H_ld rfl rfl rfl rfl rfl
theorem x65_1 (h : -2147483648 ≤ p ∧ p ≤ 2147483647) : XX X d 65 (1, L, .int (ii p) :: st, M) Q = bq (p < 0) X d 65 19 4 L st M Q := H_if rfl ⟨rfl, rfl, rfl, by decide⟩ rfl rfl rfl rfl (D_lt (b := 0) (by omega))
theorem x65_4 : XX X d 65 (4, [l0, some (.int x), l2, l3], st, M) Q = XX X d 65 (5, [l0, some (.int x), l2, l3], .int x :: st, M) Q := H_ld rfl rfl rfl rfl rfl
theorem x65_5 : XX X d 65 (5, [some (.ref a), l1, l2, l3], st, M) Q = XX X d 65 (6, [some (.ref a), l1, l2, l3], .ref a :: st, M) Q := H_ld rfl rfl rfl rfl rfl
theorem x65_5n : XX X d 65 (5, [some (.null), l1, l2, l3], st, M) Q = XX X d 65 (6, [some (.null), l1, l2, l3], .null :: st, M) Q := H_ld rfl rfl rfl rfl rfl
theorem x65_6 : XX X d 65 (6, L, .ref a :: st, M) Q = yg (M.2.2 a) 6 1 X d 65 9 L st M Q := G_getf rfl (by decide) rfl rfl rfl
theorem x65_9 (h : -2147483648 ≤ p ∧ p ≤ 2147483647 ∧ -2147483648 ≤ q ∧ q ≤ 2147483647) : XX X d 65 (9, L, .int (ii q) :: .int (ii p) :: st, M) Q = bq (q < p) X d 65 19 12 L st M Q := H_if2 rfl ⟨rfl, rfl, rfl, by decide⟩ rfl rfl rfl rfl (D_gt h)
theorem x65_12 : XX X d 65 (12, [some (.ref a), l1, l2, l3], st, M) Q = XX X d 65 (13, [some (.ref a), l1, l2, l3], .ref a :: st, M) Q := H_ld rfl rfl rfl rfl rfl
theorem x65_12n : XX X d 65 (12, [some (.null), l1, l2, l3], st, M) Q = XX X d 65 (13, [some (.null), l1, l2, l3], .null :: st, M) Q := H_ld rfl rfl rfl rfl rfl
theorem x65_13 (hd : 0 < d) (hs : stB st = true) : XX X d 65 (13, L, .ref a :: st, M) Q = (mcl M a = some 6 ∧ CC X (d - 1) 59 [.ref a] M (XC X d 65 13 16 L st Q)) := H_virt [] rfl (by decide) rfl rfl rfl rfl rfl hd hs
theorem x65_16 (h : -2147483648 ≤ p ∧ p ≤ 2147483647) : XX X d 65 (16, L, .int (ii p) :: st, M) Q = bq (p = 0) X d 65 20 19 L st M Q := H_if rfl ⟨rfl, rfl, rfl, by decide⟩ rfl rfl rfl rfl (D_eq (b := 0) (by omega))
theorem x65_16b : XX X d 65 (16, L, .int (ii (b2i b)) :: st, M) Q = bq (b = false) X d 65 20 19 L st M Q := (x65_16 (b2i_r b)).trans (by rw [b2i_0])
theorem x65_19 : XX X d 65 (19, L, [], M) Q = Q (.inl none) M := G_retv rfl (by decide) rfl
theorem x65_20 : XX X d 65 (20, [some (.ref a), l1, l2, l3], st, M) Q = XX X d 65 (21, [some (.ref a), l1, l2, l3], .ref a :: st, M) Q := H_ld rfl rfl rfl rfl rfl
theorem x65_20n : XX X d 65 (20, [some (.null), l1, l2, l3], st, M) Q = XX X d 65 (21, [some (.null), l1, l2, l3], .null :: st, M) Q := H_ld rfl rfl rfl rfl rfl
theorem x65_21 : XX X d 65 (21, [l0, l1, some (.int x), l3], st, M) Q = XX X d 65 (22, [l0, l1, some (.int x), l3], .int x :: st, M) Q := H_ld rfl rfl rfl rfl rfl
theorem x65_22 {v1 : Value} (hd : 0 < d) (hs : stB st = true) : XX X d 65 (22, L, v1 :: .ref a :: st, M) Q = (mcl M a = some 6 ∧ CC X (d - 1) 63 [.ref a, v1] M (XC X d 65 22 25 L st Q)) := H_virt [v1] rfl (by decide) rfl rfl rfl rfl rfl hd hs
theorem x65_25 : XX X d 65 (25, [some (.ref a), l1, l2, l3], st, M) Q = XX X d 65 (26, [some (.ref a), l1, l2, l3], .ref a :: st, M) Q := H_ld rfl rfl rfl rfl rfl
theorem x65_25n : XX X d 65 (25, [some (.null), l1, l2, l3], st, M) Q = XX X d 65 (26, [some (.null), l1, l2, l3], .null :: st, M) Q := H_ld rfl rfl rfl rfl rfl
theorem x65_26 : XX X d 65 (26, L, .ref a :: st, M) Q = yg (M.2.2 a) 6 1 X d 65 29 L st M Q := G_getf rfl (by decide) rfl rfl rfl
theorem x65_29 : XX X d 65 (29, L, st, M) Q = XX X d 65 (30, L, .int (ii 1) :: st, M) Q := G_cst rfl rfl rfl rfl rfl
theorem x65_30 : XX X d 65 (30, L, .int (ii q) :: .int (ii p) :: st, M) Q = XX X d 65 (31, L, .int (ii (p - q)) :: st, M) Q := H_sub rfl (by decide) rfl
theorem x65_31 (h : wide (some l2) = false) : XX X d 65 (31, [l0, l1, l2, l3], .int x :: st, M) Q = XX X d 65 (32, [l0, l1, l2, some (.int x)], st, M) Q := H_st rfl rfl rfl rfl rfl rfl rfl rfl (Or.inr h)
theorem x65_32 : XX X d 65 (32, [l0, l1, l2, some (.int x)], st, M) Q = XX X d 65 (33, [l0, l1, l2, some (.int x)], .int x :: st, M) Q := H_ld rfl rfl rfl rfl rfl
theorem x65_33 : XX X d 65 (33, [l0, some (.int x), l2, l3], st, M) Q = XX X d 65 (34, [l0, some (.int x), l2, l3], .int x :: st, M) Q := H_ld rfl rfl rfl rfl rfl
theorem x65_34 (h : -2147483648 ≤ p ∧ p ≤ 2147483647 ∧ -2147483648 ≤ q ∧ q ≤ 2147483647) : XX X d 65 (34, L, .int (ii q) :: .int (ii p) :: st, M) Q = bq (p ≤ q) X d 65 55 37 L st M Q := H_if2 rfl ⟨rfl, rfl, rfl, by decide⟩ rfl rfl rfl rfl (D_ge h)
theorem x65_37 : XX X d 65 (37, [some (.ref a), l1, l2, l3], st, M) Q = XX X d 65 (38, [some (.ref a), l1, l2, l3], .ref a :: st, M) Q := H_ld rfl rfl rfl rfl rfl
theorem x65_37n : XX X d 65 (37, [some (.null), l1, l2, l3], st, M) Q = XX X d 65 (38, [some (.null), l1, l2, l3], .null :: st, M) Q := H_ld rfl rfl rfl rfl rfl
theorem x65_38 : XX X d 65 (38, [l0, l1, l2, some (.int x)], st, M) Q = XX X d 65 (39, [l0, l1, l2, some (.int x)], .int x :: st, M) Q := H_ld rfl rfl rfl rfl rfl
theorem x65_39 : XX X d 65 (39, [some (.ref a), l1, l2, l3], st, M) Q = XX X d 65 (40, [some (.ref a), l1, l2, l3], .ref a :: st, M) Q := H_ld rfl rfl rfl rfl rfl
theorem x65_39n : XX X d 65 (39, [some (.null), l1, l2, l3], st, M) Q = XX X d 65 (40, [some (.null), l1, l2, l3], .null :: st, M) Q := H_ld rfl rfl rfl rfl rfl
theorem x65_40 : XX X d 65 (40, [l0, l1, l2, some (.int x)], st, M) Q = XX X d 65 (41, [l0, l1, l2, some (.int x)], .int x :: st, M) Q := H_ld rfl rfl rfl rfl rfl
theorem x65_41 : XX X d 65 (41, L, st, M) Q = XX X d 65 (42, L, .int (ii 1) :: st, M) Q := G_cst rfl rfl rfl rfl rfl
theorem x65_42 : XX X d 65 (42, L, .int (ii q) :: .int (ii p) :: st, M) Q = XX X d 65 (43, L, .int (ii (p - q)) :: st, M) Q := H_sub rfl (by decide) rfl
theorem x65_43 {v1 : Value} (hd : 0 < d) (hs : stB st = true) : XX X d 65 (43, L, v1 :: .ref a :: st, M) Q = (mcl M a = some 6 ∧ CC X (d - 1) 61 [.ref a, v1] M (XC X d 65 43 46 L st Q)) := H_virt [v1] rfl (by decide) rfl rfl rfl rfl rfl hd hs
theorem x65_46 {v1 v2 : Value} (hd : 0 < d) (hs : stB st = true) : XX X d 65 (46, L, v2 :: v1 :: .ref a :: st, M) Q = (mcl M a = some 6 ∧ CC X (d - 1) 62 [.ref a, v1, v2] M (XC X d 65 46 49 L st Q)) := H_virt [v1, v2] rfl (by decide) rfl rfl rfl rfl rfl hd hs
theorem x65_49 (h : wide (some l2) = false) : XX X d 65 (49, [l0, l1, l2, some (.int (ii p))], st, M) Q = XX X d 65 (52, [l0, l1, l2, some (.int (ii (p + (-1))))], st, M) Q := H_inc rfl (by decide) rfl rfl rfl (Or.inr h)
theorem x65_52 : XX X d 65 (52, L, st, M) Q = XX X d 65 (32, L, st, M) Q := H_jmp rfl (by decide) rfl
theorem x65_55 : XX X d 65 (55, [some (.ref a), l1, l2, l3], st, M) Q = XX X d 65 (56, [some (.ref a), l1, l2, l3], .ref a :: st, M) Q := H_ld rfl rfl rfl rfl rfl
theorem x65_55n : XX X d 65 (55, [some (.null), l1, l2, l3], st, M) Q = XX X d 65 (56, [some (.null), l1, l2, l3], .null :: st, M) Q := H_ld rfl rfl rfl rfl rfl
theorem x65_56 : XX X d 65 (56, [l0, some (.int x), l2, l3], st, M) Q = XX X d 65 (57, [l0, some (.int x), l2, l3], .int x :: st, M) Q := H_ld rfl rfl rfl rfl rfl
theorem x65_57 : XX X d 65 (57, [l0, l1, some (.int x), l3], st, M) Q = XX X d 65 (58, [l0, l1, some (.int x), l3], .int x :: st, M) Q := H_ld rfl rfl rfl rfl rfl
theorem x65_58 {v1 v2 : Value} (hd : 0 < d) (hs : stB st = true) : XX X d 65 (58, L, v2 :: v1 :: .ref a :: st, M) Q = (mcl M a = some 6 ∧ CC X (d - 1) 62 [.ref a, v1, v2] M (XC X d 65 58 61 L st Q)) := H_virt [v1, v2] rfl (by decide) rfl rfl rfl rfl rfl hd hs
theorem x65_61 : XX X d 65 (61, L, [], M) Q = Q (.inl none) M := G_retv rfl (by decide) rfl
theorem e65 : CC X d 65 [.ref a, .int x, .int x2] M Q = XX X d 65 (0, [some (.ref a), some (.int x), some (.int x2), none], [], M) Q := H_ent rfl rfl
-- 66 X6_cut (II)V
theorem x66_0 : XX X d 66 (0, [l0, some (.int x), l2, l3], st, M) Q = XX X d 66 (1, [l0, some (.int x), l2, l3], .int x :: st, M) Q := H_ld rfl rfl rfl rfl rfl
theorem x66_1 (h : -2147483648 ≤ p ∧ p ≤ 2147483647) : XX X d 66 (1, L, .int (ii p) :: st, M) Q = bq (p < 0) X d 66 17 4 L st M Q := H_if rfl ⟨rfl, rfl, rfl, by decide⟩ rfl rfl rfl rfl (D_lt (b := 0) (by omega))
theorem x66_4 : XX X d 66 (4, [l0, some (.int x), l2, l3], st, M) Q = XX X d 66 (5, [l0, some (.int x), l2, l3], .int x :: st, M) Q := H_ld rfl rfl rfl rfl rfl
theorem x66_5 : XX X d 66 (5, [l0, l1, some (.int x), l3], st, M) Q = XX X d 66 (6, [l0, l1, some (.int x), l3], .int x :: st, M) Q := H_ld rfl rfl rfl rfl rfl
theorem x66_6 (h : -2147483648 ≤ p ∧ p ≤ 2147483647 ∧ -2147483648 ≤ q ∧ q ≤ 2147483647) : XX X d 66 (6, L, .int (ii q) :: .int (ii p) :: st, M) Q = bq (q < p) X d 66 17 9 L st M Q := H_if2 rfl ⟨rfl, rfl, rfl, by decide⟩ rfl rfl rfl rfl (D_gt h)
theorem x66_9 : XX X d 66 (9, [l0, l1, some (.int x), l3], st, M) Q = XX X d 66 (10, [l0, l1, some (.int x), l3], .int x :: st, M) Q := H_ld rfl rfl rfl rfl rfl
theorem x66_10 : XX X d 66 (10, [some (.ref a), l1, l2, l3], st, M) Q = XX X d 66 (11, [some (.ref a), l1, l2, l3], .ref a :: st, M) Q := H_ld rfl rfl rfl rfl rfl
theorem x66_10n : XX X d 66 (10, [some (.null), l1, l2, l3], st, M) Q = XX X d 66 (11, [some (.null), l1, l2, l3], .null :: st, M) Q := H_ld rfl rfl rfl rfl rfl
theorem x66_11 : XX X d 66 (11, L, .ref a :: st, M) Q = yg (M.2.2 a) 6 1 X d 66 14 L st M Q := G_getf rfl (by decide) rfl rfl rfl
theorem x66_14 (h : -2147483648 ≤ p ∧ p ≤ 2147483647 ∧ -2147483648 ≤ q ∧ q ≤ 2147483647) : XX X d 66 (14, L, .int (ii q) :: .int (ii p) :: st, M) Q = bq (p ≤ q) X d 66 18 17 L st M Q := H_if2 rfl ⟨rfl, rfl, rfl, by decide⟩ rfl rfl rfl rfl (D_ge h)
theorem x66_17 : XX X d 66 (17, L, [], M) Q = Q (.inl none) M := G_retv rfl (by decide) rfl
theorem x66_18 : XX X d 66 (18, [l0, l1, some (.int x), l3], st, M) Q = XX X d 66 (19, [l0, l1, some (.int x), l3], .int x :: st, M) Q := H_ld rfl rfl rfl rfl rfl
theorem x66_19 (h : wide (some l2) = false) : XX X d 66 (19, [l0, l1, l2, l3], .int x :: st, M) Q = XX X d 66 (20, [l0, l1, l2, some (.int x)], st, M) Q := H_st rfl rfl rfl rfl rfl rfl rfl rfl (Or.inr h)
theorem x66_20 : XX X d 66 (20, [l0, l1, l2, some (.int x)], st, M) Q = XX X d 66 (21, [l0, l1, l2, some (.int x)], .int x :: st, M) Q := H_ld rfl rfl rfl rfl rfl
theorem x66_21 : XX X d 66 (21, [some (.ref a), l1, l2, l3], st, M) Q = XX X d 66 (22, [some (.ref a), l1, l2, l3], .ref a :: st, M) Q := H_ld rfl rfl rfl rfl rfl
theorem x66_21n : XX X d 66 (21, [some (.null), l1, l2, l3], st, M) Q = XX X d 66 (22, [some (.null), l1, l2, l3], .null :: st, M) Q := H_ld rfl rfl rfl rfl rfl
theorem x66_22 : XX X d 66 (22, L, .ref a :: st, M) Q = yg (M.2.2 a) 6 1 X d 66 25 L st M Q := G_getf rfl (by decide) rfl rfl rfl
theorem x66_25 (h : -2147483648 ≤ p ∧ p ≤ 2147483647 ∧ -2147483648 ≤ q ∧ q ≤ 2147483647) : XX X d 66 (25, L, .int (ii q) :: .int (ii p) :: st, M) Q = bq (q ≤ p) X d 66 48 28 L st M Q := H_if2 rfl ⟨rfl, rfl, rfl, by decide⟩ rfl rfl rfl rfl (D_le h)
theorem x66_28 : XX X d 66 (28, [some (.ref a), l1, l2, l3], st, M) Q = XX X d 66 (29, [some (.ref a), l1, l2, l3], .ref a :: st, M) Q := H_ld rfl rfl rfl rfl rfl
theorem x66_28n : XX X d 66 (28, [some (.null), l1, l2, l3], st, M) Q = XX X d 66 (29, [some (.null), l1, l2, l3], .null :: st, M) Q := H_ld rfl rfl rfl rfl rfl
theorem x66_29 : XX X d 66 (29, [l0, some (.int x), l2, l3], st, M) Q = XX X d 66 (30, [l0, some (.int x), l2, l3], .int x :: st, M) Q := H_ld rfl rfl rfl rfl rfl
theorem x66_30 : XX X d 66 (30, [l0, l1, l2, some (.int x)], st, M) Q = XX X d 66 (31, [l0, l1, l2, some (.int x)], .int x :: st, M) Q := H_ld rfl rfl rfl rfl rfl
theorem x66_31 : XX X d 66 (31, L, .int (ii q) :: .int (ii p) :: st, M) Q = XX X d 66 (32, L, .int (ii (p + q)) :: st, M) Q := H_add rfl (by decide) rfl
theorem x66_32 : XX X d 66 (32, [l0, l1, some (.int x), l3], st, M) Q = XX X d 66 (33, [l0, l1, some (.int x), l3], .int x :: st, M) Q := H_ld rfl rfl rfl rfl rfl
theorem x66_33 : XX X d 66 (33, L, .int (ii q) :: .int (ii p) :: st, M) Q = XX X d 66 (34, L, .int (ii (p - q)) :: st, M) Q := H_sub rfl (by decide) rfl
theorem x66_34 : XX X d 66 (34, [some (.ref a), l1, l2, l3], st, M) Q = XX X d 66 (35, [some (.ref a), l1, l2, l3], .ref a :: st, M) Q := H_ld rfl rfl rfl rfl rfl
theorem x66_34n : XX X d 66 (34, [some (.null), l1, l2, l3], st, M) Q = XX X d 66 (35, [some (.null), l1, l2, l3], .null :: st, M) Q := H_ld rfl rfl rfl rfl rfl
theorem x66_35 : XX X d 66 (35, [l0, l1, l2, some (.int x)], st, M) Q = XX X d 66 (36, [l0, l1, l2, some (.int x)], .int x :: st, M) Q := H_ld rfl rfl rfl rfl rfl
theorem x66_36 {v1 : Value} (hd : 0 < d) (hs : stB st = true) : XX X d 66 (36, L, v1 :: .ref a :: st, M) Q = (mcl M a = some 6 ∧ CC X (d - 1) 61 [.ref a, v1] M (XC X d 66 36 39 L st Q)) := H_virt [v1] rfl (by decide) rfl rfl rfl rfl rfl hd hs
theorem x66_39 {v1 v2 : Value} (hd : 0 < d) (hs : stB st = true) : XX X d 66 (39, L, v2 :: v1 :: .ref a :: st, M) Q = (mcl M a = some 6 ∧ CC X (d - 1) 62 [.ref a, v1, v2] M (XC X d 66 39 42 L st Q)) := H_virt [v1, v2] rfl (by decide) rfl rfl rfl rfl rfl hd hs
theorem x66_42 (h : wide (some l2) = false) : XX X d 66 (42, [l0, l1, l2, some (.int (ii p))], st, M) Q = XX X d 66 (45, [l0, l1, l2, some (.int (ii (p + 1)))], st, M) Q := H_inc rfl (by decide) rfl rfl rfl (Or.inr h)
theorem x66_45 : XX X d 66 (45, L, st, M) Q = XX X d 66 (20, L, st, M) Q := H_jmp rfl (by decide) rfl
theorem x66_48 : XX X d 66 (48, [some (.ref a), l1, l2, l3], st, M) Q = XX X d 66 (49, [some (.ref a), l1, l2, l3], .ref a :: st, M) Q := H_ld rfl rfl rfl rfl rfl
theorem x66_48n : XX X d 66 (48, [some (.null), l1, l2, l3], st, M) Q = XX X d 66 (49, [some (.null), l1, l2, l3], .null :: st, M) Q := H_ld rfl rfl rfl rfl rfl
theorem x66_49 (h : v.category = 1) : XX X d 66 (49, L, v :: st, M) Q = XX X d 66 (50, L, v :: v :: st, M) Q := G_sop rfl ⟨rfl, rfl, rfl, by decide⟩ (if_pos h) rfl
theorem x66_50 : XX X d 66 (50, L, .ref a :: st, M) Q = yg (M.2.2 a) 6 1 X d 66 53 L st M Q := G_getf rfl (by decide) rfl rfl rfl
theorem x66_53 : XX X d 66 (53, [l0, l1, some (.int x), l3], st, M) Q = XX X d 66 (54, [l0, l1, some (.int x), l3], .int x :: st, M) Q := H_ld rfl rfl rfl rfl rfl
theorem x66_54 : XX X d 66 (54, [l0, some (.int x), l2, l3], st, M) Q = XX X d 66 (55, [l0, some (.int x), l2, l3], .int x :: st, M) Q := H_ld rfl rfl rfl rfl rfl
theorem x66_55 : XX X d 66 (55, L, .int (ii q) :: .int (ii p) :: st, M) Q = XX X d 66 (56, L, .int (ii (p - q)) :: st, M) Q := H_sub rfl (by decide) rfl
theorem x66_56 : XX X d 66 (56, L, .int (ii q) :: .int (ii p) :: st, M) Q = XX X d 66 (57, L, .int (ii (p - q)) :: st, M) Q := H_sub rfl (by decide) rfl
theorem x66_57 : XX X d 66 (57, L, v :: .ref a :: st, M) Q = yp (M.2.2 a) a 6 1 v X d 66 60 L st M Q := G_putf rfl (by decide) rfl rfl rfl
theorem x66_60 : XX X d 66 (60, L, [], M) Q = Q (.inl none) M := G_retv rfl (by decide) rfl
theorem e66 : CC X d 66 [.ref a, .int x, .int x2] M Q = XX X d 66 (0, [some (.ref a), some (.int x), some (.int x2), none], [], M) Q := H_ent rfl rfl
-- 67 X6_clear ()V
theorem x67_0 : XX X d 67 (0, [some (.ref a)], st, M) Q = XX X d 67 (1, [some (.ref a)], .ref a :: st, M) Q := H_ld rfl rfl rfl rfl rfl
theorem x67_0n : XX X d 67 (0, [some (.null)], st, M) Q = XX X d 67 (1, [some (.null)], .null :: st, M) Q := H_ld rfl rfl rfl rfl rfl
theorem x67_1 : XX X d 67 (1, L, st, M) Q = XX X d 67 (2, L, .int (ii 0) :: st, M) Q := G_cst rfl rfl rfl rfl rfl
theorem x67_2 : XX X d 67 (2, L, v :: .ref a :: st, M) Q = yp (M.2.2 a) a 6 1 v X d 67 5 L st M Q := G_putf rfl (by decide) rfl rfl rfl
theorem x67_5 : XX X d 67 (5, L, [], M) Q = Q (.inl none) M := G_retv rfl (by decide) rfl
theorem e67 : CC X d 67 [.ref a] M Q = XX X d 67 (0, [some (.ref a)], [], M) Q := H_ent rfl rfl
-- 68 X6_addPart (LRegexTracer$Row;II)V
theorem x68_0 : XX X d 68 (0, [l0, l1, some (.int x), l3, l4], st, M) Q = XX X d 68 (1, [l0, l1, some (.int x), l3, l4], .int x :: st, M) Q := H_ld rfl rfl rfl rfl rfl
theorem x68_1 (h : wide (some l3) = false) : XX X d 68 (1, [l0, l1, l2, l3, l4], .int x :: st, M) Q = XX X d 68 (3, [l0, l1, l2, l3, some (.int x)], st, M) Q := H_st rfl rfl rfl rfl rfl rfl rfl rfl (Or.inr h)
theorem x68_3 : XX X d 68 (3, [l0, l1, l2, l3, some (.int x)], st, M) Q = XX X d 68 (5, [l0, l1, l2, l3, some (.int x)], .int x :: st, M) Q := H_ld rfl rfl rfl rfl rfl
theorem x68_5 : XX X d 68 (5, [l0, l1, l2, some (.int x), l4], st, M) Q = XX X d 68 (6, [l0, l1, l2, some (.int x), l4], .int x :: st, M) Q := H_ld rfl rfl rfl rfl rfl
theorem x68_6 (h : -2147483648 ≤ p ∧ p ≤ 2147483647 ∧ -2147483648 ≤ q ∧ q ≤ 2147483647) : XX X d 68 (6, L, .int (ii q) :: .int (ii p) :: st, M) Q = bq (q ≤ p) X d 68 34 9 L st M Q := H_if2 rfl ⟨rfl, rfl, rfl, by decide⟩ rfl rfl rfl rfl (D_le h)
theorem x68_9 : XX X d 68 (9, [l0, l1, l2, l3, some (.int x)], st, M) Q = XX X d 68 (11, [l0, l1, l2, l3, some (.int x)], .int x :: st, M) Q := H_ld rfl rfl rfl rfl rfl
theorem x68_11 : XX X d 68 (11, [l0, some (.ref a), l2, l3, l4], st, M) Q = XX X d 68 (12, [l0, some (.ref a), l2, l3, l4], .ref a :: st, M) Q := H_ld rfl rfl rfl rfl rfl
theorem x68_11n : XX X d 68 (11, [l0, some (.null), l2, l3, l4], st, M) Q = XX X d 68 (12, [l0, some (.null), l2, l3, l4], .null :: st, M) Q := H_ld rfl rfl rfl rfl rfl
theorem x68_12 : XX X d 68 (12, L, .ref a :: st, M) Q = yg (M.2.2 a) 6 1 X d 68 15 L st M Q := G_getf rfl (by decide) rfl rfl rfl
theorem x68_15 (h : -2147483648 ≤ p ∧ p ≤ 2147483647 ∧ -2147483648 ≤ q ∧ q ≤ 2147483647) : XX X d 68 (15, L, .int (ii q) :: .int (ii p) :: st, M) Q = bq (q ≤ p) X d 68 34 18 L st M Q := H_if2 rfl ⟨rfl, rfl, rfl, by decide⟩ rfl rfl rfl rfl (D_le h)
theorem x68_18 : XX X d 68 (18, [some (.ref a), l1, l2, l3, l4], st, M) Q = XX X d 68 (19, [some (.ref a), l1, l2, l3, l4], .ref a :: st, M) Q := H_ld rfl rfl rfl rfl rfl
theorem x68_18n : XX X d 68 (18, [some (.null), l1, l2, l3, l4], st, M) Q = XX X d 68 (19, [some (.null), l1, l2, l3, l4], .null :: st, M) Q := H_ld rfl rfl rfl rfl rfl
theorem x68_19 : XX X d 68 (19, [l0, some (.ref a), l2, l3, l4], st, M) Q = XX X d 68 (20, [l0, some (.ref a), l2, l3, l4], .ref a :: st, M) Q := H_ld rfl rfl rfl rfl rfl
theorem x68_19n : XX X d 68 (19, [l0, some (.null), l2, l3, l4], st, M) Q = XX X d 68 (20, [l0, some (.null), l2, l3, l4], .null :: st, M) Q := H_ld rfl rfl rfl rfl rfl
theorem x68_20 : XX X d 68 (20, [l0, l1, l2, l3, some (.int x)], st, M) Q = XX X d 68 (22, [l0, l1, l2, l3, some (.int x)], .int x :: st, M) Q := H_ld rfl rfl rfl rfl rfl
theorem x68_22 {v1 : Value} (hd : 0 < d) (hs : stB st = true) : XX X d 68 (22, L, v1 :: .ref a :: st, M) Q = (mcl M a = some 6 ∧ CC X (d - 1) 61 [.ref a, v1] M (XC X d 68 22 25 L st Q)) := H_virt [v1] rfl (by decide) rfl rfl rfl rfl rfl hd hs
theorem x68_25 {v1 : Value} (hd : 0 < d) (hs : stB st = true) : XX X d 68 (25, L, v1 :: .ref a :: st, M) Q = (mcl M a = some 6 ∧ CC X (d - 1) 63 [.ref a, v1] M (XC X d 68 25 28 L st Q)) := H_virt [v1] rfl (by decide) rfl rfl rfl rfl rfl hd hs
theorem x68_28 (h : wide (some l3) = false) : XX X d 68 (28, [l0, l1, l2, l3, some (.int (ii p))], st, M) Q = XX X d 68 (31, [l0, l1, l2, l3, some (.int (ii (p + 1)))], st, M) Q := H_inc rfl (by decide) rfl rfl rfl (Or.inr h)
theorem x68_31 : XX X d 68 (31, L, st, M) Q = XX X d 68 (3, L, st, M) Q := H_jmp rfl (by decide) rfl
theorem x68_34 : XX X d 68 (34, L, [], M) Q = Q (.inl none) M := G_retv rfl (by decide) rfl
theorem e68 : CC X d 68 [.ref a, .ref a1, .int x, .int x2] M Q = XX X d 68 (0, [some (.ref a), some (.ref a1), some (.int x), some (.int x2), none], [], M) Q := H_ent rfl rfl
-- 69 X6_copyFrom (LRegexTracer$Row;)V
theorem x69_0 : XX X d 69 (0, [some (.ref a), l1], st, M) Q = XX X d 69 (1, [some (.ref a), l1], .ref a :: st, M) Q := H_ld rfl rfl rfl rfl rfl
theorem x69_0n : XX X d 69 (0, [some (.null), l1], st, M) Q = XX X d 69 (1, [some (.null), l1], .null :: st, M) Q := H_ld rfl rfl rfl rfl rfl
theorem x69_1 (hd : 0 < d) (hs : stB st = true) : XX X d 69 (1, L, .ref a :: st, M) Q = (mcl M a = some 6 ∧ CC X (d - 1) 67 [.ref a] M (XC X d 69 1 4 L st Q)) := H_virt [] rfl (by decide) rfl rfl rfl rfl rfl hd hs
theorem x69_4 : XX X d 69 (4, [some (.ref a), l1], st, M) Q = XX X d 69 (5, [some (.ref a), l1], .ref a :: st, M) Q := H_ld rfl rfl rfl rfl rfl
theorem x69_4n : XX X d 69 (4, [some (.null), l1], st, M) Q = XX X d 69 (5, [some (.null), l1], .null :: st, M) Q := H_ld rfl rfl rfl rfl rfl
theorem x69_5 : XX X d 69 (5, [l0, some (.ref a)], st, M) Q = XX X d 69 (6, [l0, some (.ref a)], .ref a :: st, M) Q := H_ld rfl rfl rfl rfl rfl
theorem x69_5n : XX X d 69 (5, [l0, some (.null)], st, M) Q = XX X d 69 (6, [l0, some (.null)], .null :: st, M) Q := H_ld rfl rfl rfl rfl rfl
theorem x69_6 : XX X d 69 (6, L, st, M) Q = XX X d 69 (7, L, .int (ii 0) :: st, M) Q := G_cst rfl rfl rfl rfl rfl
theorem x69_7 : XX X d 69 (7, [l0, some (.ref a)], st, M) Q = XX X d 69 (8, [l0, some (.ref a)], .ref a :: st, M) Q := H_ld rfl rfl rfl rfl rfl
theorem x69_7n : XX X d 69 (7, [l0, some (.null)], st, M) Q = XX X d 69 (8, [l0, some (.null)], .null :: st, M) Q := H_ld rfl rfl rfl rfl rfl
theorem x69_8 : XX X d 69 (8, L, .ref a :: st, M) Q = yg (M.2.2 a) 6 1 X d 69 11 L st M Q := G_getf rfl (by decide) rfl rfl rfl
theorem x69_11 {v1 v2 v3 : Value} (hd : 0 < d) (hs : stB st = true) : XX X d 69 (11, L, v3 :: v2 :: v1 :: .ref a :: st, M) Q = (mcl M a = some 6 ∧ CC X (d - 1) 68 [.ref a, v1, v2, v3] M (XC X d 69 11 14 L st Q)) := H_virt [v1, v2, v3] rfl (by decide) rfl rfl rfl rfl rfl hd hs
theorem x69_14 : XX X d 69 (14, L, [], M) Q = Q (.inl none) M := G_retv rfl (by decide) rfl
theorem e69 : CC X d 69 [.ref a, .ref a1] M Q = XX X d 69 (0, [some (.ref a), some (.ref a1)], [], M) Q := H_ent rfl rfl
end PX21pxrow
