/-! engines: each row at its place, printed by wip/whole/genx.py -/
section PX24pxengines
variable {X : JX} {d a a1 a2 a3 a4 : Nat} {L : List (Option Value)} {st : List Value} {M : JM} {Q : JR → JM → Prop} {p q : Int} {b : Bool} {x x2 x3 x4 x5 x6 : Int32} {y y2 : Int64} {z z2 : UInt32} {w w2 : UInt64} {v v2 : Value} {l0 l1 l2 l3 l4 l5 l6 l7 l8 l9 l10 l11 l12 l13 l14 : Option Value}
-- 1 X0_init ()V
theorem x1_0 : XX X d 1 (0, [some (.ref a)], st, M) Q = XX X d 1 (1, [some (.ref a)], .ref a :: st, M) Q := H_ld rfl rfl rfl rfl rfl
theorem x1_0n : XX X d 1 (0, [some (.null)], st, M) Q = XX X d 1 (1, [some (.null)], .null :: st, M) Q := H_ld rfl rfl rfl rfl rfl
theorem x1_1 (hs : stB st = true) : XX X d 1 (1, L, .ref a :: st, M) Q = XX X d 1 (4, L, st, M) Q := H_obj rfl (by decide) rfl rfl rfl hs
theorem x1_4 : XX X d 1 (4, [some (.ref a)], st, M) Q = XX X d 1 (5, [some (.ref a)], .ref a :: st, M) Q := H_ld rfl rfl rfl rfl rfl
theorem x1_4n : XX X d 1 (4, [some (.null)], st, M) Q = XX X d 1 (5, [some (.null)], .null :: st, M) Q := H_ld rfl rfl rfl rfl rfl
theorem x1_5 : XX X d 1 (5, L, st, M) Q = XX X d 1 (7, L, .int (ii 41) :: st, M) Q := G_cst rfl rfl rfl rfl rfl
theorem x1_7 (h : 0 ≤ p ∧ p ≤ 10000) : XX X d 1 (7, L, .int (ii p) :: st, M) Q = XX X d 1 (9, L, .ref M.1 :: st, mnew M p.toNat (AL p.toNat (fun _ => 0))) Q := H_newa rfl (by decide) rfl rfl rfl h
theorem x1_9 : XX X d 1 (9, L, v :: .ref a :: st, M) Q = yp (M.2.2 a) a 0 0 v X d 1 12 L st M Q := G_putf rfl (by decide) rfl rfl rfl
theorem x1_12 : XX X d 1 (12, [some (.ref a)], st, M) Q = XX X d 1 (13, [some (.ref a)], .ref a :: st, M) Q := H_ld rfl rfl rfl rfl rfl
theorem x1_12n : XX X d 1 (12, [some (.null)], st, M) Q = XX X d 1 (13, [some (.null)], .null :: st, M) Q := H_ld rfl rfl rfl rfl rfl
theorem x1_13 : XX X d 1 (13, L, st, M) Q = XX X d 1 (16, L, .ref M.1 :: st, mnew M 2 (.inr (6, [.null, .int (ii 0)]))) Q := H_new rfl (by decide) rfl rfl (by decide) rfl rfl
theorem x1_16 (h : v.category = 1) : XX X d 1 (16, L, v :: st, M) Q = XX X d 1 (17, L, v :: v :: st, M) Q := G_sop rfl ⟨rfl, rfl, rfl, by decide⟩ (if_pos h) rfl
theorem x1_17 : XX X d 1 (17, L, st, M) Q = XX X d 1 (20, L, .int (ii 1231) :: st, M) Q := G_cst rfl rfl rfl rfl rfl
theorem x1_20 {v1 : Value} (hd : 0 < d) (hs : stB st = true) : XX X d 1 (20, L, v1 :: .ref a :: st, M) Q = CC X (d - 1) 57 [.ref a, v1] M (XC X d 1 20 23 L st Q) := H_spec [v1] rfl (by decide) rfl rfl (by decide) rfl rfl hd hs
theorem x1_23 : XX X d 1 (23, L, v :: .ref a :: st, M) Q = yp (M.2.2 a) a 0 1 v X d 1 26 L st M Q := G_putf rfl (by decide) rfl rfl rfl
theorem x1_26 : XX X d 1 (26, [some (.ref a)], st, M) Q = XX X d 1 (27, [some (.ref a)], .ref a :: st, M) Q := H_ld rfl rfl rfl rfl rfl
theorem x1_26n : XX X d 1 (26, [some (.null)], st, M) Q = XX X d 1 (27, [some (.null)], .null :: st, M) Q := H_ld rfl rfl rfl rfl rfl
theorem x1_27 : XX X d 1 (27, L, st, M) Q = XX X d 1 (30, L, .ref M.1 :: st, mnew M 2 (.inr (6, [.null, .int (ii 0)]))) Q := H_new rfl (by decide) rfl rfl (by decide) rfl rfl
theorem x1_30 (h : v.category = 1) : XX X d 1 (30, L, v :: st, M) Q = XX X d 1 (31, L, v :: v :: st, M) Q := G_sop rfl ⟨rfl, rfl, rfl, by decide⟩ (if_pos h) rfl
theorem x1_31 : XX X d 1 (31, L, st, M) Q = XX X d 1 (33, L, .int (ii 12) :: st, M) Q := G_cst rfl rfl rfl rfl rfl
theorem x1_33 {v1 : Value} (hd : 0 < d) (hs : stB st = true) : XX X d 1 (33, L, v1 :: .ref a :: st, M) Q = CC X (d - 1) 57 [.ref a, v1] M (XC X d 1 33 36 L st Q) := H_spec [v1] rfl (by decide) rfl rfl (by decide) rfl rfl hd hs
theorem x1_36 : XX X d 1 (36, L, v :: .ref a :: st, M) Q = yp (M.2.2 a) a 0 2 v X d 1 39 L st M Q := G_putf rfl (by decide) rfl rfl rfl
theorem x1_39 : XX X d 1 (39, L, [], M) Q = Q (.inl none) M := G_retv rfl (by decide) rfl
theorem e1 : CC X d 1 [.ref a] M Q = XX X d 1 (0, [some (.ref a)], [], M) Q := H_ent rfl rfl
-- 2 X0_start ()I
theorem x2_0 : XX X d 2 (0, [some (.ref a)], st, M) Q = XX X d 2 (1, [some (.ref a)], .ref a :: st, M) Q := H_ld rfl rfl rfl rfl rfl
theorem x2_0n : XX X d 2 (0, [some (.null)], st, M) Q = XX X d 2 (1, [some (.null)], .null :: st, M) Q := H_ld rfl rfl rfl rfl rfl
theorem x2_1 : XX X d 2 (1, L, .ref a :: st, M) Q = yg (M.2.2 a) 0 2 X d 2 4 L st M Q := G_getf rfl (by decide) rfl rfl rfl
theorem x2_4 : XX X d 2 (4, L, st, M) Q = XX X d 2 (5, L, .int (ii 0) :: st, M) Q := G_cst rfl rfl rfl rfl rfl
theorem x2_5 {v1 : Value} (hd : 0 < d) (hs : stB st = true) : XX X d 2 (5, L, v1 :: .ref a :: st, M) Q = (mcl M a = some 6 ∧ CC X (d - 1) 61 [.ref a, v1] M (XC X d 2 5 8 L st Q)) := H_virt [v1] rfl (by decide) rfl rfl rfl rfl rfl hd hs
theorem x2_8 : XX X d 2 (8, L, [.int (ii p)], M) Q = Q (.inl (some (.int (ii p)))) M := G_ret rfl ⟨⟨⟨rfl, rfl, rfl, by decide⟩, rfl, rfl⟩, rfl, rfl⟩ rfl
theorem e2 : CC X d 2 [.ref a] M Q = XX X d 2 (0, [some (.ref a)], [], M) Q := H_ent rfl rfl
-- 3 X0_end ()I
theorem x3_0 : XX X d 3 (0, [some (.ref a)], st, M) Q = XX X d 3 (1, [some (.ref a)], .ref a :: st, M) Q := H_ld rfl rfl rfl rfl rfl
theorem x3_0n : XX X d 3 (0, [some (.null)], st, M) Q = XX X d 3 (1, [some (.null)], .null :: st, M) Q := H_ld rfl rfl rfl rfl rfl
theorem x3_1 : XX X d 3 (1, L, .ref a :: st, M) Q = yg (M.2.2 a) 0 2 X d 3 4 L st M Q := G_getf rfl (by decide) rfl rfl rfl
theorem x3_4 : XX X d 3 (4, L, st, M) Q = XX X d 3 (5, L, .int (ii 1) :: st, M) Q := G_cst rfl rfl rfl rfl rfl
theorem x3_5 {v1 : Value} (hd : 0 < d) (hs : stB st = true) : XX X d 3 (5, L, v1 :: .ref a :: st, M) Q = (mcl M a = some 6 ∧ CC X (d - 1) 61 [.ref a, v1] M (XC X d 3 5 8 L st Q)) := H_virt [v1] rfl (by decide) rfl rfl rfl rfl rfl hd hs
theorem x3_8 : XX X d 3 (8, L, [.int (ii p)], M) Q = Q (.inl (some (.int (ii p)))) M := G_ret rfl ⟨⟨⟨rfl, rfl, rfl, by decide⟩, rfl, rfl⟩, rfl, rfl⟩ rfl
theorem e3 : CC X d 3 [.ref a] M Q = XX X d 3 (0, [some (.ref a)], [], M) Q := H_ent rfl rfl
-- 4 X0_hasGroup (I)Z
theorem x4_0 : XX X d 4 (0, [some (.ref a), l1], st, M) Q = XX X d 4 (1, [some (.ref a), l1], .ref a :: st, M) Q := H_ld rfl rfl rfl rfl rfl
theorem x4_0n : XX X d 4 (0, [some (.null), l1], st, M) Q = XX X d 4 (1, [some (.null), l1], .null :: st, M) Q := H_ld rfl rfl rfl rfl rfl
theorem x4_1 : XX X d 4 (1, L, .ref a :: st, M) Q = yg (M.2.2 a) 0 2 X d 4 4 L st M Q := G_getf rfl (by decide) rfl rfl rfl
theorem x4_4 : XX X d 4 (4, L, st, M) Q = XX X d 4 (5, L, .int (ii 2) :: st, M) Q := G_cst rfl rfl rfl rfl rfl
theorem x4_5 : XX X d 4 (5, [l0, some (.int x)], st, M) Q = XX X d 4 (6, [l0, some (.int x)], .int x :: st, M) Q := H_ld rfl rfl rfl rfl rfl
theorem x4_6 : XX X d 4 (6, L, .int (ii q) :: .int (ii p) :: st, M) Q = XX X d 4 (7, L, .int (ii (p * q)) :: st, M) Q := H_mul rfl (by decide) rfl
theorem x4_7 : XX X d 4 (7, L, st, M) Q = XX X d 4 (8, L, .int (ii 1) :: st, M) Q := G_cst rfl rfl rfl rfl rfl
theorem x4_8 : XX X d 4 (8, L, .int (ii q) :: .int (ii p) :: st, M) Q = XX X d 4 (9, L, .int (ii (p + q)) :: st, M) Q := H_add rfl (by decide) rfl
theorem x4_9 {v1 : Value} (hd : 0 < d) (hs : stB st = true) : XX X d 4 (9, L, v1 :: .ref a :: st, M) Q = (mcl M a = some 6 ∧ CC X (d - 1) 61 [.ref a, v1] M (XC X d 4 9 12 L st Q)) := H_virt [v1] rfl (by decide) rfl rfl rfl rfl rfl hd hs
theorem x4_12 : XX X d 4 (12, L, st, M) Q = XX X d 4 (13, L, .int (ii (-1)) :: st, M) Q := G_cst rfl rfl rfl rfl rfl
theorem x4_13 (h : -2147483648 ≤ p ∧ p ≤ 2147483647 ∧ -2147483648 ≤ q ∧ q ≤ 2147483647) : XX X d 4 (13, L, .int (ii q) :: .int (ii p) :: st, M) Q = bq (p = q) X d 4 20 16 L st M Q := H_if2 rfl ⟨rfl, rfl, rfl, by decide⟩ rfl rfl rfl rfl (D_eq h)
theorem x4_16 : XX X d 4 (16, L, st, M) Q = XX X d 4 (17, L, .int (ii 1) :: st, M) Q := G_cst rfl rfl rfl rfl rfl
theorem x4_17 : XX X d 4 (17, L, st, M) Q = XX X d 4 (21, L, st, M) Q := H_jmp rfl (by decide) rfl
theorem x4_20 : XX X d 4 (20, L, st, M) Q = XX X d 4 (21, L, .int (ii 0) :: st, M) Q := G_cst rfl rfl rfl rfl rfl
theorem x4_21 (h : p = 0 ∨ p = 1) : XX X d 4 (21, L, [.int (ii p)], M) Q = Q (.inl (some (.int (ii p)))) M := G_ret rfl ⟨⟨⟨rfl, rfl, rfl, by decide⟩, rfl, rfl⟩, rfl, rfl⟩ (bz_ok h)
theorem e4 : CC X d 4 [.ref a, .int x] M Q = XX X d 4 (0, [some (.ref a), some (.int x)], [], M) Q := H_ent rfl rfl
-- 5 X0_startOfGroup (I)I
theorem x5_0 : XX X d 5 (0, [some (.ref a), l1], st, M) Q = XX X d 5 (1, [some (.ref a), l1], .ref a :: st, M) Q := H_ld rfl rfl rfl rfl rfl
theorem x5_0n : XX X d 5 (0, [some (.null), l1], st, M) Q = XX X d 5 (1, [some (.null), l1], .null :: st, M) Q := H_ld rfl rfl rfl rfl rfl
theorem x5_1 : XX X d 5 (1, L, .ref a :: st, M) Q = yg (M.2.2 a) 0 2 X d 5 4 L st M Q := G_getf rfl (by decide) rfl rfl rfl
theorem x5_4 : XX X d 5 (4, L, st, M) Q = XX X d 5 (5, L, .int (ii 2) :: st, M) Q := G_cst rfl rfl rfl rfl rfl
theorem x5_5 : XX X d 5 (5, [l0, some (.int x)], st, M) Q = XX X d 5 (6, [l0, some (.int x)], .int x :: st, M) Q := H_ld rfl rfl rfl rfl rfl
theorem x5_6 : XX X d 5 (6, L, .int (ii q) :: .int (ii p) :: st, M) Q = XX X d 5 (7, L, .int (ii (p * q)) :: st, M) Q := H_mul rfl (by decide) rfl
theorem x5_7 {v1 : Value} (hd : 0 < d) (hs : stB st = true) : XX X d 5 (7, L, v1 :: .ref a :: st, M) Q = (mcl M a = some 6 ∧ CC X (d - 1) 61 [.ref a, v1] M (XC X d 5 7 10 L st Q)) := H_virt [v1] rfl (by decide) rfl rfl rfl rfl rfl hd hs
theorem x5_10 : XX X d 5 (10, L, [.int (ii p)], M) Q = Q (.inl (some (.int (ii p)))) M := G_ret rfl ⟨⟨⟨rfl, rfl, rfl, by decide⟩, rfl, rfl⟩, rfl, rfl⟩ rfl
theorem e5 : CC X d 5 [.ref a, .int x] M Q = XX X d 5 (0, [some (.ref a), some (.int x)], [], M) Q := H_ent rfl rfl
-- 6 X0_endOfGroup (I)I
theorem x6_0 : XX X d 6 (0, [some (.ref a), l1], st, M) Q = XX X d 6 (1, [some (.ref a), l1], .ref a :: st, M) Q := H_ld rfl rfl rfl rfl rfl
theorem x6_0n : XX X d 6 (0, [some (.null), l1], st, M) Q = XX X d 6 (1, [some (.null), l1], .null :: st, M) Q := H_ld rfl rfl rfl rfl rfl
theorem x6_1 : XX X d 6 (1, L, .ref a :: st, M) Q = yg (M.2.2 a) 0 2 X d 6 4 L st M Q := G_getf rfl (by decide) rfl rfl rfl
theorem x6_4 : XX X d 6 (4, L, st, M) Q = XX X d 6 (5, L, .int (ii 2) :: st, M) Q := G_cst rfl rfl rfl rfl rfl
theorem x6_5 : XX X d 6 (5, [l0, some (.int x)], st, M) Q = XX X d 6 (6, [l0, some (.int x)], .int x :: st, M) Q := H_ld rfl rfl rfl rfl rfl
theorem x6_6 : XX X d 6 (6, L, .int (ii q) :: .int (ii p) :: st, M) Q = XX X d 6 (7, L, .int (ii (p * q)) :: st, M) Q := H_mul rfl (by decide) rfl
theorem x6_7 : XX X d 6 (7, L, st, M) Q = XX X d 6 (8, L, .int (ii 1) :: st, M) Q := G_cst rfl rfl rfl rfl rfl
theorem x6_8 : XX X d 6 (8, L, .int (ii q) :: .int (ii p) :: st, M) Q = XX X d 6 (9, L, .int (ii (p + q)) :: st, M) Q := H_add rfl (by decide) rfl
theorem x6_9 {v1 : Value} (hd : 0 < d) (hs : stB st = true) : XX X d 6 (9, L, v1 :: .ref a :: st, M) Q = (mcl M a = some 6 ∧ CC X (d - 1) 61 [.ref a, v1] M (XC X d 6 9 12 L st Q)) := H_virt [v1] rfl (by decide) rfl rfl rfl rfl rfl hd hs
theorem x6_12 : XX X d 6 (12, L, [.int (ii p)], M) Q = Q (.inl (some (.int (ii p)))) M := G_ret rfl ⟨⟨⟨rfl, rfl, rfl, by decide⟩, rfl, rfl⟩, rfl, rfl⟩ rfl
theorem e6 : CC X d 6 [.ref a, .int x] M Q = XX X d 6 (0, [some (.ref a), some (.int x)], [], M) Q := H_ent rfl rfl
-- 7 X0_search (LRegexTracer$Pattern;LRegexTracer$Row;I)Z
theorem x7_0 : XX X d 7 (0, [some (.ref a), l1, l2, l3, l4], st, M) Q = XX X d 7 (1, [some (.ref a), l1, l2, l3, l4], .ref a :: st, M) Q := H_ld rfl rfl rfl rfl rfl
theorem x7_0n : XX X d 7 (0, [some (.null), l1, l2, l3, l4], st, M) Q = XX X d 7 (1, [some (.null), l1, l2, l3, l4], .null :: st, M) Q := H_ld rfl rfl rfl rfl rfl
theorem x7_1 (hd : 0 < d) (hs : stB st = true) : XX X d 7 (1, L, .ref a :: st, M) Q = (mcl M a = some 0 ∧ CC X (d - 1) 13 [.ref a] M (XC X d 7 1 4 L st Q)) := H_virt [] rfl (by decide) rfl rfl rfl rfl rfl hd hs
theorem x7_4 : XX X d 7 (4, [l0, l1, l2, some (.int x), l4], st, M) Q = XX X d 7 (5, [l0, l1, l2, some (.int x), l4], .int x :: st, M) Q := H_ld rfl rfl rfl rfl rfl
theorem x7_5 (h : wide (some l3) = false) : XX X d 7 (5, [l0, l1, l2, l3, l4], .int x :: st, M) Q = XX X d 7 (7, [l0, l1, l2, l3, some (.int x)], st, M) Q := H_st rfl rfl rfl rfl rfl rfl rfl rfl (Or.inr h)
theorem x7_7 : XX X d 7 (7, [l0, l1, l2, l3, some (.int x)], st, M) Q = XX X d 7 (9, [l0, l1, l2, l3, some (.int x)], .int x :: st, M) Q := H_ld rfl rfl rfl rfl rfl
theorem x7_9 : XX X d 7 (9, [l0, l1, some (.ref a), l3, l4], st, M) Q = XX X d 7 (10, [l0, l1, some (.ref a), l3, l4], .ref a :: st, M) Q := H_ld rfl rfl rfl rfl rfl
theorem x7_9n : XX X d 7 (9, [l0, l1, some (.null), l3, l4], st, M) Q = XX X d 7 (10, [l0, l1, some (.null), l3, l4], .null :: st, M) Q := H_ld rfl rfl rfl rfl rfl
theorem x7_10 (hd : 0 < d) (hs : stB st = true) : XX X d 7 (10, L, .ref a :: st, M) Q = (mcl M a = some 6 ∧ CC X (d - 1) 58 [.ref a] M (XC X d 7 10 13 L st Q)) := H_virt [] rfl (by decide) rfl rfl rfl rfl rfl hd hs
theorem x7_13 (h : -2147483648 ≤ p ∧ p ≤ 2147483647 ∧ -2147483648 ≤ q ∧ q ≤ 2147483647) : XX X d 7 (13, L, .int (ii q) :: .int (ii p) :: st, M) Q = bq (q < p) X d 7 36 16 L st M Q := H_if2 rfl ⟨rfl, rfl, rfl, by decide⟩ rfl rfl rfl rfl (D_gt h)
theorem x7_16 : XX X d 7 (16, [some (.ref a), l1, l2, l3, l4], st, M) Q = XX X d 7 (17, [some (.ref a), l1, l2, l3, l4], .ref a :: st, M) Q := H_ld rfl rfl rfl rfl rfl
theorem x7_16n : XX X d 7 (16, [some (.null), l1, l2, l3, l4], st, M) Q = XX X d 7 (17, [some (.null), l1, l2, l3, l4], .null :: st, M) Q := H_ld rfl rfl rfl rfl rfl
theorem x7_17 : XX X d 7 (17, [l0, some (.ref a), l2, l3, l4], st, M) Q = XX X d 7 (18, [l0, some (.ref a), l2, l3, l4], .ref a :: st, M) Q := H_ld rfl rfl rfl rfl rfl
theorem x7_17n : XX X d 7 (17, [l0, some (.null), l2, l3, l4], st, M) Q = XX X d 7 (18, [l0, some (.null), l2, l3, l4], .null :: st, M) Q := H_ld rfl rfl rfl rfl rfl
theorem x7_18 : XX X d 7 (18, [l0, l1, some (.ref a), l3, l4], st, M) Q = XX X d 7 (19, [l0, l1, some (.ref a), l3, l4], .ref a :: st, M) Q := H_ld rfl rfl rfl rfl rfl
theorem x7_18n : XX X d 7 (18, [l0, l1, some (.null), l3, l4], st, M) Q = XX X d 7 (19, [l0, l1, some (.null), l3, l4], .null :: st, M) Q := H_ld rfl rfl rfl rfl rfl
theorem x7_19 : XX X d 7 (19, [l0, l1, l2, l3, some (.int x)], st, M) Q = XX X d 7 (21, [l0, l1, l2, l3, some (.int x)], .int x :: st, M) Q := H_ld rfl rfl rfl rfl rfl
theorem x7_21 : XX X d 7 (21, L, st, M) Q = XX X d 7 (22, L, .int (ii 0) :: st, M) Q := G_cst rfl rfl rfl rfl rfl
theorem x7_22 {v1 v2 v3 v4 : Value} (hd : 0 < d) (hs : stB st = true) : XX X d 7 (22, L, v4 :: v3 :: v2 :: v1 :: .ref a :: st, M) Q = (mcl M a = some 0 ∧ CC X (d - 1) 9 [.ref a, v1, v2, v3, v4] M (XC X d 7 22 25 L st Q)) := H_virt [v1, v2, v3, v4] rfl (by decide) rfl rfl rfl rfl rfl hd hs
theorem x7_25 (h : -2147483648 ≤ p ∧ p ≤ 2147483647) : XX X d 7 (25, L, .int (ii p) :: st, M) Q = bq (p = 0) X d 7 30 28 L st M Q := H_if rfl ⟨rfl, rfl, rfl, by decide⟩ rfl rfl rfl rfl (D_eq (b := 0) (by omega))
theorem x7_25b : XX X d 7 (25, L, .int (ii (b2i b)) :: st, M) Q = bq (b = false) X d 7 30 28 L st M Q := (x7_25 (b2i_r b)).trans (by rw [b2i_0])
theorem x7_28 : XX X d 7 (28, L, st, M) Q = XX X d 7 (29, L, .int (ii 1) :: st, M) Q := G_cst rfl rfl rfl rfl rfl
theorem x7_29 (h : p = 0 ∨ p = 1) : XX X d 7 (29, L, [.int (ii p)], M) Q = Q (.inl (some (.int (ii p)))) M := G_ret rfl ⟨⟨⟨rfl, rfl, rfl, by decide⟩, rfl, rfl⟩, rfl, rfl⟩ (bz_ok h)
theorem x7_30 (h : wide (some l3) = false) : XX X d 7 (30, [l0, l1, l2, l3, some (.int (ii p))], st, M) Q = XX X d 7 (33, [l0, l1, l2, l3, some (.int (ii (p + 1)))], st, M) Q := H_inc rfl (by decide) rfl rfl rfl (Or.inr h)
theorem x7_33 : XX X d 7 (33, L, st, M) Q = XX X d 7 (7, L, st, M) Q := H_jmp rfl (by decide) rfl
theorem x7_36 : XX X d 7 (36, L, st, M) Q = XX X d 7 (37, L, .int (ii 0) :: st, M) Q := G_cst rfl rfl rfl rfl rfl
theorem x7_37 (h : p = 0 ∨ p = 1) : XX X d 7 (37, L, [.int (ii p)], M) Q = Q (.inl (some (.int (ii p)))) M := G_ret rfl ⟨⟨⟨rfl, rfl, rfl, by decide⟩, rfl, rfl⟩, rfl, rfl⟩ (bz_ok h)
theorem e7 : CC X d 7 [.ref a, .ref a1, .ref a2, .int x] M Q = XX X d 7 (0, [some (.ref a), some (.ref a1), some (.ref a2), some (.int x), none], [], M) Q := H_ent rfl rfl
-- 8 X0_spansText (LRegexTracer$Pattern;LRegexTracer$Row;)Z
theorem x8_0 : XX X d 8 (0, [some (.ref a), l1, l2], st, M) Q = XX X d 8 (1, [some (.ref a), l1, l2], .ref a :: st, M) Q := H_ld rfl rfl rfl rfl rfl
theorem x8_0n : XX X d 8 (0, [some (.null), l1, l2], st, M) Q = XX X d 8 (1, [some (.null), l1, l2], .null :: st, M) Q := H_ld rfl rfl rfl rfl rfl
theorem x8_1 (hd : 0 < d) (hs : stB st = true) : XX X d 8 (1, L, .ref a :: st, M) Q = (mcl M a = some 0 ∧ CC X (d - 1) 13 [.ref a] M (XC X d 8 1 4 L st Q)) := H_virt [] rfl (by decide) rfl rfl rfl rfl rfl hd hs
theorem x8_4 : XX X d 8 (4, [some (.ref a), l1, l2], st, M) Q = XX X d 8 (5, [some (.ref a), l1, l2], .ref a :: st, M) Q := H_ld rfl rfl rfl rfl rfl
theorem x8_4n : XX X d 8 (4, [some (.null), l1, l2], st, M) Q = XX X d 8 (5, [some (.null), l1, l2], .null :: st, M) Q := H_ld rfl rfl rfl rfl rfl
theorem x8_5 : XX X d 8 (5, [l0, some (.ref a), l2], st, M) Q = XX X d 8 (6, [l0, some (.ref a), l2], .ref a :: st, M) Q := H_ld rfl rfl rfl rfl rfl
theorem x8_5n : XX X d 8 (5, [l0, some (.null), l2], st, M) Q = XX X d 8 (6, [l0, some (.null), l2], .null :: st, M) Q := H_ld rfl rfl rfl rfl rfl
theorem x8_6 : XX X d 8 (6, [l0, l1, some (.ref a)], st, M) Q = XX X d 8 (7, [l0, l1, some (.ref a)], .ref a :: st, M) Q := H_ld rfl rfl rfl rfl rfl
theorem x8_6n : XX X d 8 (6, [l0, l1, some (.null)], st, M) Q = XX X d 8 (7, [l0, l1, some (.null)], .null :: st, M) Q := H_ld rfl rfl rfl rfl rfl
theorem x8_7 : XX X d 8 (7, L, st, M) Q = XX X d 8 (8, L, .int (ii 0) :: st, M) Q := G_cst rfl rfl rfl rfl rfl
theorem x8_8 : XX X d 8 (8, L, st, M) Q = XX X d 8 (9, L, .int (ii 1) :: st, M) Q := G_cst rfl rfl rfl rfl rfl
theorem x8_9 {v1 v2 v3 v4 : Value} (hd : 0 < d) (hs : stB st = true) : XX X d 8 (9, L, v4 :: v3 :: v2 :: v1 :: .ref a :: st, M) Q = (mcl M a = some 0 ∧ CC X (d - 1) 9 [.ref a, v1, v2, v3, v4] M (XC X d 8 9 12 L st Q)) := H_virt [v1, v2, v3, v4] rfl (by decide) rfl rfl rfl rfl rfl hd hs
theorem x8_12 (h : p = 0 ∨ p = 1) : XX X d 8 (12, L, [.int (ii p)], M) Q = Q (.inl (some (.int (ii p)))) M := G_ret rfl ⟨⟨⟨rfl, rfl, rfl, by decide⟩, rfl, rfl⟩, rfl, rfl⟩ (bz_ok h)
theorem e8 : CC X d 8 [.ref a, .ref a1, .ref a2] M Q = XX X d 8 (0, [some (.ref a), some (.ref a1), some (.ref a2)], [], M) Q := H_ent rfl rfl
-- 9 X0_matchesAt (LRegexTracer$Pattern;LRegexTracer$Row;IZ)Z
theorem x9_0 : XX X d 9 (0, [some (.ref a), l1, l2, l3, l4, l5, l6, l7, l8], st, M) Q = XX X d 9 (1, [some (.ref a), l1, l2, l3, l4, l5, l6, l7, l8], .ref a :: st, M) Q := H_ld rfl rfl rfl rfl rfl
theorem x9_0n : XX X d 9 (0, [some (.null), l1, l2, l3, l4, l5, l6, l7, l8], st, M) Q = XX X d 9 (1, [some (.null), l1, l2, l3, l4, l5, l6, l7, l8], .null :: st, M) Q := H_ld rfl rfl rfl rfl rfl
theorem x9_1 : XX X d 9 (1, L, .ref a :: st, M) Q = yg (M.2.2 a) 0 2 X d 9 4 L st M Q := G_getf rfl (by decide) rfl rfl rfl
theorem x9_4 (hd : 0 < d) (hs : stB st = true) : XX X d 9 (4, L, .ref a :: st, M) Q = (mcl M a = some 6 ∧ CC X (d - 1) 67 [.ref a] M (XC X d 9 4 7 L st Q)) := H_virt [] rfl (by decide) rfl rfl rfl rfl rfl hd hs
theorem x9_7 : XX X d 9 (7, L, st, M) Q = XX X d 9 (8, L, .int (ii 0) :: st, M) Q := G_cst rfl rfl rfl rfl rfl
theorem x9_8 (h : wide (some l4) = false) : XX X d 9 (8, [l0, l1, l2, l3, l4, l5, l6, l7, l8], .int x :: st, M) Q = XX X d 9 (10, [l0, l1, l2, l3, l4, some (.int x), l6, l7, l8], st, M) Q := H_st rfl rfl rfl rfl rfl rfl rfl rfl (Or.inr h)
theorem x9_10 : XX X d 9 (10, [l0, l1, l2, l3, l4, some (.int x), l6, l7, l8], st, M) Q = XX X d 9 (12, [l0, l1, l2, l3, l4, some (.int x), l6, l7, l8], .int x :: st, M) Q := H_ld rfl rfl rfl rfl rfl
theorem x9_12 : XX X d 9 (12, L, st, M) Q = XX X d 9 (14, L, .int (ii 12) :: st, M) Q := G_cst rfl rfl rfl rfl rfl
theorem x9_14 (h : -2147483648 ≤ p ∧ p ≤ 2147483647 ∧ -2147483648 ≤ q ∧ q ≤ 2147483647) : XX X d 9 (14, L, .int (ii q) :: .int (ii p) :: st, M) Q = bq (q ≤ p) X d 9 31 17 L st M Q := H_if2 rfl ⟨rfl, rfl, rfl, by decide⟩ rfl rfl rfl rfl (D_le h)
theorem x9_17 : XX X d 9 (17, [some (.ref a), l1, l2, l3, l4, l5, l6, l7, l8], st, M) Q = XX X d 9 (18, [some (.ref a), l1, l2, l3, l4, l5, l6, l7, l8], .ref a :: st, M) Q := H_ld rfl rfl rfl rfl rfl
theorem x9_17n : XX X d 9 (17, [some (.null), l1, l2, l3, l4, l5, l6, l7, l8], st, M) Q = XX X d 9 (18, [some (.null), l1, l2, l3, l4, l5, l6, l7, l8], .null :: st, M) Q := H_ld rfl rfl rfl rfl rfl
theorem x9_18 : XX X d 9 (18, L, .ref a :: st, M) Q = yg (M.2.2 a) 0 2 X d 9 21 L st M Q := G_getf rfl (by decide) rfl rfl rfl
theorem x9_21 : XX X d 9 (21, L, st, M) Q = XX X d 9 (22, L, .int (ii (-1)) :: st, M) Q := G_cst rfl rfl rfl rfl rfl
theorem x9_22 {v1 : Value} (hd : 0 < d) (hs : stB st = true) : XX X d 9 (22, L, v1 :: .ref a :: st, M) Q = (mcl M a = some 6 ∧ CC X (d - 1) 63 [.ref a, v1] M (XC X d 9 22 25 L st Q)) := H_virt [v1] rfl (by decide) rfl rfl rfl rfl rfl hd hs
theorem x9_25 (h : wide (some l4) = false) : XX X d 9 (25, [l0, l1, l2, l3, l4, some (.int (ii p)), l6, l7, l8], st, M) Q = XX X d 9 (28, [l0, l1, l2, l3, l4, some (.int (ii (p + 1))), l6, l7, l8], st, M) Q := H_inc rfl (by decide) rfl rfl rfl (Or.inr h)
theorem x9_28 : XX X d 9 (28, L, st, M) Q = XX X d 9 (10, L, st, M) Q := H_jmp rfl (by decide) rfl
theorem x9_31 : XX X d 9 (31, [some (.ref a), l1, l2, l3, l4, l5, l6, l7, l8], st, M) Q = XX X d 9 (32, [some (.ref a), l1, l2, l3, l4, l5, l6, l7, l8], .ref a :: st, M) Q := H_ld rfl rfl rfl rfl rfl
theorem x9_31n : XX X d 9 (31, [some (.null), l1, l2, l3, l4, l5, l6, l7, l8], st, M) Q = XX X d 9 (32, [some (.null), l1, l2, l3, l4, l5, l6, l7, l8], .null :: st, M) Q := H_ld rfl rfl rfl rfl rfl
theorem x9_32 : XX X d 9 (32, L, .ref a :: st, M) Q = yg (M.2.2 a) 0 2 X d 9 35 L st M Q := G_getf rfl (by decide) rfl rfl rfl
theorem x9_35 : XX X d 9 (35, L, st, M) Q = XX X d 9 (36, L, .int (ii 0) :: st, M) Q := G_cst rfl rfl rfl rfl rfl
theorem x9_36 : XX X d 9 (36, [l0, l1, l2, some (.int x), l4, l5, l6, l7, l8], st, M) Q = XX X d 9 (37, [l0, l1, l2, some (.int x), l4, l5, l6, l7, l8], .int x :: st, M) Q := H_ld rfl rfl rfl rfl rfl
theorem x9_37 {v1 v2 : Value} (hd : 0 < d) (hs : stB st = true) : XX X d 9 (37, L, v2 :: v1 :: .ref a :: st, M) Q = (mcl M a = some 6 ∧ CC X (d - 1) 62 [.ref a, v1, v2] M (XC X d 9 37 40 L st Q)) := H_virt [v1, v2] rfl (by decide) rfl rfl rfl rfl rfl hd hs
theorem x9_40 : XX X d 9 (40, [some (.ref a), l1, l2, l3, l4, l5, l6, l7, l8], st, M) Q = XX X d 9 (41, [some (.ref a), l1, l2, l3, l4, l5, l6, l7, l8], .ref a :: st, M) Q := H_ld rfl rfl rfl rfl rfl
theorem x9_40n : XX X d 9 (40, [some (.null), l1, l2, l3, l4, l5, l6, l7, l8], st, M) Q = XX X d 9 (41, [some (.null), l1, l2, l3, l4, l5, l6, l7, l8], .null :: st, M) Q := H_ld rfl rfl rfl rfl rfl
theorem x9_41 : XX X d 9 (41, L, .ref a :: st, M) Q = yg (M.2.2 a) 0 1 X d 9 44 L st M Q := G_getf rfl (by decide) rfl rfl rfl
theorem x9_44 (hd : 0 < d) (hs : stB st = true) : XX X d 9 (44, L, .ref a :: st, M) Q = (mcl M a = some 6 ∧ CC X (d - 1) 67 [.ref a] M (XC X d 9 44 47 L st Q)) := H_virt [] rfl (by decide) rfl rfl rfl rfl rfl hd hs
theorem x9_47 : XX X d 9 (47, [some (.ref a), l1, l2, l3, l4, l5, l6, l7, l8], st, M) Q = XX X d 9 (48, [some (.ref a), l1, l2, l3, l4, l5, l6, l7, l8], .ref a :: st, M) Q := H_ld rfl rfl rfl rfl rfl
theorem x9_47n : XX X d 9 (47, [some (.null), l1, l2, l3, l4, l5, l6, l7, l8], st, M) Q = XX X d 9 (48, [some (.null), l1, l2, l3, l4, l5, l6, l7, l8], .null :: st, M) Q := H_ld rfl rfl rfl rfl rfl
theorem x9_48 : XX X d 9 (48, L, .ref a :: st, M) Q = yg (M.2.2 a) 0 1 X d 9 51 L st M Q := G_getf rfl (by decide) rfl rfl rfl
theorem x9_51 : XX X d 9 (51, [l0, l1, l2, some (.int x), l4, l5, l6, l7, l8], st, M) Q = XX X d 9 (52, [l0, l1, l2, some (.int x), l4, l5, l6, l7, l8], .int x :: st, M) Q := H_ld rfl rfl rfl rfl rfl
theorem x9_52 {v1 : Value} (hd : 0 < d) (hs : stB st = true) : XX X d 9 (52, L, v1 :: .ref a :: st, M) Q = (mcl M a = some 6 ∧ CC X (d - 1) 63 [.ref a, v1] M (XC X d 9 52 55 L st Q)) := H_virt [v1] rfl (by decide) rfl rfl rfl rfl rfl hd hs
theorem x9_55 : XX X d 9 (55, L, st, M) Q = XX X d 9 (56, L, .int (ii 0) :: st, M) Q := G_cst rfl rfl rfl rfl rfl
theorem x9_56 (h : wide (some l4) = false) : XX X d 9 (56, [l0, l1, l2, l3, l4, l5, l6, l7, l8], .int x :: st, M) Q = XX X d 9 (58, [l0, l1, l2, l3, l4, some (.int x), l6, l7, l8], st, M) Q := H_st rfl rfl rfl rfl rfl rfl rfl rfl (Or.inr h)
theorem x9_58 : XX X d 9 (58, [l0, l1, l2, l3, l4, some (.int x), l6, l7, l8], st, M) Q = XX X d 9 (60, [l0, l1, l2, l3, l4, some (.int x), l6, l7, l8], .int x :: st, M) Q := H_ld rfl rfl rfl rfl rfl
theorem x9_60 : XX X d 9 (60, L, st, M) Q = XX X d 9 (62, L, .int (ii 1000000) :: st, M) Q := G_cst rfl rfl rfl rfl rfl
theorem x9_62 (h : -2147483648 ≤ p ∧ p ≤ 2147483647 ∧ -2147483648 ≤ q ∧ q ≤ 2147483647) : XX X d 9 (62, L, .int (ii q) :: .int (ii p) :: st, M) Q = bq (q ≤ p) X d 9 169 65 L st M Q := H_if2 rfl ⟨rfl, rfl, rfl, by decide⟩ rfl rfl rfl rfl (D_le h)
theorem x9_65 : XX X d 9 (65, [some (.ref a), l1, l2, l3, l4, l5, l6, l7, l8], st, M) Q = XX X d 9 (66, [some (.ref a), l1, l2, l3, l4, l5, l6, l7, l8], .ref a :: st, M) Q := H_ld rfl rfl rfl rfl rfl
theorem x9_65n : XX X d 9 (65, [some (.null), l1, l2, l3, l4, l5, l6, l7, l8], st, M) Q = XX X d 9 (66, [some (.null), l1, l2, l3, l4, l5, l6, l7, l8], .null :: st, M) Q := H_ld rfl rfl rfl rfl rfl
theorem x9_66 : XX X d 9 (66, L, .ref a :: st, M) Q = yg (M.2.2 a) 0 1 X d 9 69 L st M Q := G_getf rfl (by decide) rfl rfl rfl
theorem x9_69 (hd : 0 < d) (hs : stB st = true) : XX X d 9 (69, L, .ref a :: st, M) Q = (mcl M a = some 6 ∧ CC X (d - 1) 58 [.ref a] M (XC X d 9 69 72 L st Q)) := H_virt [] rfl (by decide) rfl rfl rfl rfl rfl hd hs
theorem x9_72 (h : -2147483648 ≤ p ∧ p ≤ 2147483647) : XX X d 9 (72, L, .int (ii p) :: st, M) Q = bq (p ≤ 0) X d 9 169 75 L st M Q := H_if rfl ⟨rfl, rfl, rfl, by decide⟩ rfl rfl rfl rfl (D_ge (b := 0) (by omega))
theorem x9_75 : XX X d 9 (75, [some (.ref a), l1, l2, l3, l4, l5, l6, l7, l8], st, M) Q = XX X d 9 (76, [some (.ref a), l1, l2, l3, l4, l5, l6, l7, l8], .ref a :: st, M) Q := H_ld rfl rfl rfl rfl rfl
theorem x9_75n : XX X d 9 (75, [some (.null), l1, l2, l3, l4, l5, l6, l7, l8], st, M) Q = XX X d 9 (76, [some (.null), l1, l2, l3, l4, l5, l6, l7, l8], .null :: st, M) Q := H_ld rfl rfl rfl rfl rfl
theorem x9_76 : XX X d 9 (76, L, .ref a :: st, M) Q = yg (M.2.2 a) 0 1 X d 9 79 L st M Q := G_getf rfl (by decide) rfl rfl rfl
theorem x9_79 (hd : 0 < d) (hs : stB st = true) : XX X d 9 (79, L, .ref a :: st, M) Q = (mcl M a = some 6 ∧ CC X (d - 1) 64 [.ref a] M (XC X d 9 79 82 L st Q)) := H_virt [] rfl (by decide) rfl rfl rfl rfl rfl hd hs
theorem x9_82 (h : wide (some l5) = false) : XX X d 9 (82, [l0, l1, l2, l3, l4, l5, l6, l7, l8], .int x :: st, M) Q = XX X d 9 (84, [l0, l1, l2, l3, l4, l5, some (.int x), l7, l8], st, M) Q := H_st rfl rfl rfl rfl rfl rfl rfl rfl (Or.inr h)
theorem x9_84 : XX X d 9 (84, [l0, l1, l2, l3, l4, l5, some (.int x), l7, l8], st, M) Q = XX X d 9 (86, [l0, l1, l2, l3, l4, l5, some (.int x), l7, l8], .int x :: st, M) Q := H_ld rfl rfl rfl rfl rfl
theorem x9_86 : XX X d 9 (86, L, st, M) Q = XX X d 9 (88, L, .int (ii 6) :: st, M) Q := G_cst rfl rfl rfl rfl rfl
theorem x9_88 : XX X d 9 (88, L, .int x2 :: .int x :: st, M) Q = XX X d 9 (89, L, .int (x >>> (x2 &&& 31)) :: st, M) Q := G_sop rfl ⟨rfl, rfl, rfl, by decide⟩ rfl rfl
theorem x9_89 : XX X d 9 (89, L, st, M) Q = XX X d 9 (91, L, .int (ii 63) :: st, M) Q := G_cst rfl rfl rfl rfl rfl
theorem x9_91 : XX X d 9 (91, L, .int x2 :: .int x :: st, M) Q = XX X d 9 (92, L, .int (x &&& x2) :: st, M) Q := G_sop rfl ⟨rfl, rfl, rfl, by decide⟩ rfl rfl
theorem x9_92 (h : wide (some l6) = false) : XX X d 9 (92, [l0, l1, l2, l3, l4, l5, l6, l7, l8], .int x :: st, M) Q = XX X d 9 (94, [l0, l1, l2, l3, l4, l5, l6, some (.int x), l8], st, M) Q := H_st rfl rfl rfl rfl rfl rfl rfl rfl (Or.inr h)
theorem x9_94 : XX X d 9 (94, [l0, l1, l2, l3, l4, l5, some (.int x), l7, l8], st, M) Q = XX X d 9 (96, [l0, l1, l2, l3, l4, l5, some (.int x), l7, l8], .int x :: st, M) Q := H_ld rfl rfl rfl rfl rfl
theorem x9_96 : XX X d 9 (96, L, st, M) Q = XX X d 9 (98, L, .int (ii 63) :: st, M) Q := G_cst rfl rfl rfl rfl rfl
theorem x9_98 : XX X d 9 (98, L, .int x2 :: .int x :: st, M) Q = XX X d 9 (99, L, .int (x &&& x2) :: st, M) Q := G_sop rfl ⟨rfl, rfl, rfl, by decide⟩ rfl rfl
theorem x9_99 (h : wide (some l7) = false) : XX X d 9 (99, [l0, l1, l2, l3, l4, l5, l6, l7, l8], .int x :: st, M) Q = XX X d 9 (101, [l0, l1, l2, l3, l4, l5, l6, l7, some (.int x)], st, M) Q := H_st rfl rfl rfl rfl rfl rfl rfl rfl (Or.inr h)
theorem x9_101 : XX X d 9 (101, [l0, l1, l2, l3, l4, l5, some (.int x), l7, l8], st, M) Q = XX X d 9 (103, [l0, l1, l2, l3, l4, l5, some (.int x), l7, l8], .int x :: st, M) Q := H_ld rfl rfl rfl rfl rfl
theorem x9_103 : XX X d 9 (103, L, st, M) Q = XX X d 9 (106, L, .int (ii 4096) :: st, M) Q := G_cst rfl rfl rfl rfl rfl
theorem x9_106 (h : -2147483648 ≤ p ∧ p ≤ 2147483647 ∧ -2147483648 ≤ q ∧ q ≤ 2147483647) : XX X d 9 (106, L, .int (ii q) :: .int (ii p) :: st, M) Q = bq (p < q) X d 9 125 109 L st M Q := H_if2 rfl ⟨rfl, rfl, rfl, by decide⟩ rfl rfl rfl rfl (D_lt h)
theorem x9_109 : XX X d 9 (109, [some (.ref a), l1, l2, l3, l4, l5, l6, l7, l8], st, M) Q = XX X d 9 (110, [some (.ref a), l1, l2, l3, l4, l5, l6, l7, l8], .ref a :: st, M) Q := H_ld rfl rfl rfl rfl rfl
theorem x9_109n : XX X d 9 (109, [some (.null), l1, l2, l3, l4, l5, l6, l7, l8], st, M) Q = XX X d 9 (110, [some (.null), l1, l2, l3, l4, l5, l6, l7, l8], .null :: st, M) Q := H_ld rfl rfl rfl rfl rfl
theorem x9_110 : XX X d 9 (110, L, .ref a :: st, M) Q = yg (M.2.2 a) 0 2 X d 9 113 L st M Q := G_getf rfl (by decide) rfl rfl rfl
theorem x9_113 : XX X d 9 (113, [l0, l1, l2, l3, l4, l5, l6, some (.int x), l8], st, M) Q = XX X d 9 (115, [l0, l1, l2, l3, l4, l5, l6, some (.int x), l8], .int x :: st, M) Q := H_ld rfl rfl rfl rfl rfl
theorem x9_115 : XX X d 9 (115, [l0, l1, l2, l3, l4, l5, l6, l7, some (.int x)], st, M) Q = XX X d 9 (117, [l0, l1, l2, l3, l4, l5, l6, l7, some (.int x)], .int x :: st, M) Q := H_ld rfl rfl rfl rfl rfl
theorem x9_117 : XX X d 9 (117, L, st, M) Q = XX X d 9 (118, L, .int (ii 1) :: st, M) Q := G_cst rfl rfl rfl rfl rfl
theorem x9_118 : XX X d 9 (118, L, .int (ii q) :: .int (ii p) :: st, M) Q = XX X d 9 (119, L, .int (ii (p - q)) :: st, M) Q := H_sub rfl (by decide) rfl
theorem x9_119 {v1 v2 : Value} (hd : 0 < d) (hs : stB st = true) : XX X d 9 (119, L, v2 :: v1 :: .ref a :: st, M) Q = (mcl M a = some 6 ∧ CC X (d - 1) 62 [.ref a, v1, v2] M (XC X d 9 119 122 L st Q)) := H_virt [v1, v2] rfl (by decide) rfl rfl rfl rfl rfl hd hs
theorem x9_122 : XX X d 9 (122, L, st, M) Q = XX X d 9 (163, L, st, M) Q := H_jmp rfl (by decide) rfl
theorem x9_125 : XX X d 9 (125, [some (.ref a), l1, l2, l3, l4, l5, l6, l7, l8], st, M) Q = XX X d 9 (126, [some (.ref a), l1, l2, l3, l4, l5, l6, l7, l8], .ref a :: st, M) Q := H_ld rfl rfl rfl rfl rfl
theorem x9_125n : XX X d 9 (125, [some (.null), l1, l2, l3, l4, l5, l6, l7, l8], st, M) Q = XX X d 9 (126, [some (.null), l1, l2, l3, l4, l5, l6, l7, l8], .null :: st, M) Q := H_ld rfl rfl rfl rfl rfl
theorem x9_126 : XX X d 9 (126, [l0, l1, l2, l3, l4, l5, l6, some (.int x), l8], st, M) Q = XX X d 9 (128, [l0, l1, l2, l3, l4, l5, l6, some (.int x), l8], .int x :: st, M) Q := H_ld rfl rfl rfl rfl rfl
theorem x9_128 : XX X d 9 (128, [l0, l1, l2, l3, l4, l5, l6, l7, some (.int x)], st, M) Q = XX X d 9 (130, [l0, l1, l2, l3, l4, l5, l6, l7, some (.int x)], .int x :: st, M) Q := H_ld rfl rfl rfl rfl rfl
theorem x9_130 {v1 v2 : Value} (hd : 0 < d) (hs : stB st = true) : XX X d 9 (130, L, v2 :: v1 :: .ref a :: st, M) Q = (mcl M a = some 0 ∧ CC X (d - 1) 14 [.ref a, v1, v2] M (XC X d 9 130 133 L st Q)) := H_virt [v1, v2] rfl (by decide) rfl rfl rfl rfl rfl hd hs
theorem x9_133 (h : -2147483648 ≤ p ∧ p ≤ 2147483647) : XX X d 9 (133, L, .int (ii p) :: st, M) Q = bq (p = 0) X d 9 163 136 L st M Q := H_if rfl ⟨rfl, rfl, rfl, by decide⟩ rfl rfl rfl rfl (D_eq (b := 0) (by omega))
theorem x9_133b : XX X d 9 (133, L, .int (ii (b2i b)) :: st, M) Q = bq (b = false) X d 9 163 136 L st M Q := (x9_133 (b2i_r b)).trans (by rw [b2i_0])
theorem x9_136 : XX X d 9 (136, [some (.ref a), l1, l2, l3, l4, l5, l6, l7, l8], st, M) Q = XX X d 9 (137, [some (.ref a), l1, l2, l3, l4, l5, l6, l7, l8], .ref a :: st, M) Q := H_ld rfl rfl rfl rfl rfl
theorem x9_136n : XX X d 9 (136, [some (.null), l1, l2, l3, l4, l5, l6, l7, l8], st, M) Q = XX X d 9 (137, [some (.null), l1, l2, l3, l4, l5, l6, l7, l8], .null :: st, M) Q := H_ld rfl rfl rfl rfl rfl
theorem x9_137 : XX X d 9 (137, [l0, some (.ref a), l2, l3, l4, l5, l6, l7, l8], st, M) Q = XX X d 9 (138, [l0, some (.ref a), l2, l3, l4, l5, l6, l7, l8], .ref a :: st, M) Q := H_ld rfl rfl rfl rfl rfl
theorem x9_137n : XX X d 9 (137, [l0, some (.null), l2, l3, l4, l5, l6, l7, l8], st, M) Q = XX X d 9 (138, [l0, some (.null), l2, l3, l4, l5, l6, l7, l8], .null :: st, M) Q := H_ld rfl rfl rfl rfl rfl
theorem x9_138 : XX X d 9 (138, [l0, l1, some (.ref a), l3, l4, l5, l6, l7, l8], st, M) Q = XX X d 9 (139, [l0, l1, some (.ref a), l3, l4, l5, l6, l7, l8], .ref a :: st, M) Q := H_ld rfl rfl rfl rfl rfl
theorem x9_138n : XX X d 9 (138, [l0, l1, some (.null), l3, l4, l5, l6, l7, l8], st, M) Q = XX X d 9 (139, [l0, l1, some (.null), l3, l4, l5, l6, l7, l8], .null :: st, M) Q := H_ld rfl rfl rfl rfl rfl
theorem x9_139 : XX X d 9 (139, [l0, l1, l2, l3, l4, l5, l6, some (.int x), l8], st, M) Q = XX X d 9 (141, [l0, l1, l2, l3, l4, l5, l6, some (.int x), l8], .int x :: st, M) Q := H_ld rfl rfl rfl rfl rfl
theorem x9_141 : XX X d 9 (141, [l0, l1, l2, l3, l4, l5, l6, l7, some (.int x)], st, M) Q = XX X d 9 (143, [l0, l1, l2, l3, l4, l5, l6, l7, some (.int x)], .int x :: st, M) Q := H_ld rfl rfl rfl rfl rfl
theorem x9_143 : XX X d 9 (143, [l0, l1, l2, l3, some (.int x), l5, l6, l7, l8], st, M) Q = XX X d 9 (145, [l0, l1, l2, l3, some (.int x), l5, l6, l7, l8], .int x :: st, M) Q := H_ld rfl rfl rfl rfl rfl
theorem x9_145 {v1 v2 v3 v4 v5 : Value} (hd : 0 < d) (hs : stB st = true) : XX X d 9 (145, L, v5 :: v4 :: v3 :: v2 :: v1 :: .ref a :: st, M) Q = (mcl M a = some 0 ∧ CC X (d - 1) 10 [.ref a, v1, v2, v3, v4, v5] M (XC X d 9 145 148 L st Q)) := H_virt [v1, v2, v3, v4, v5] rfl (by decide) rfl rfl rfl rfl rfl hd hs
theorem x9_148 (h : -2147483648 ≤ p ∧ p ≤ 2147483647) : XX X d 9 (148, L, .int (ii p) :: st, M) Q = bq (p = 0) X d 9 163 151 L st M Q := H_if rfl ⟨rfl, rfl, rfl, by decide⟩ rfl rfl rfl rfl (D_eq (b := 0) (by omega))
theorem x9_148b : XX X d 9 (148, L, .int (ii (b2i b)) :: st, M) Q = bq (b = false) X d 9 163 151 L st M Q := (x9_148 (b2i_r b)).trans (by rw [b2i_0])
theorem x9_151 : XX X d 9 (151, [some (.ref a), l1, l2, l3, l4, l5, l6, l7, l8], st, M) Q = XX X d 9 (152, [some (.ref a), l1, l2, l3, l4, l5, l6, l7, l8], .ref a :: st, M) Q := H_ld rfl rfl rfl rfl rfl
theorem x9_151n : XX X d 9 (151, [some (.null), l1, l2, l3, l4, l5, l6, l7, l8], st, M) Q = XX X d 9 (152, [some (.null), l1, l2, l3, l4, l5, l6, l7, l8], .null :: st, M) Q := H_ld rfl rfl rfl rfl rfl
theorem x9_152 : XX X d 9 (152, L, .ref a :: st, M) Q = yg (M.2.2 a) 0 2 X d 9 155 L st M Q := G_getf rfl (by decide) rfl rfl rfl
theorem x9_155 : XX X d 9 (155, L, st, M) Q = XX X d 9 (156, L, .int (ii 1) :: st, M) Q := G_cst rfl rfl rfl rfl rfl
theorem x9_156 : XX X d 9 (156, [l0, l1, l2, l3, l4, l5, l6, l7, some (.int x)], st, M) Q = XX X d 9 (158, [l0, l1, l2, l3, l4, l5, l6, l7, some (.int x)], .int x :: st, M) Q := H_ld rfl rfl rfl rfl rfl
theorem x9_158 {v1 v2 : Value} (hd : 0 < d) (hs : stB st = true) : XX X d 9 (158, L, v2 :: v1 :: .ref a :: st, M) Q = (mcl M a = some 6 ∧ CC X (d - 1) 62 [.ref a, v1, v2] M (XC X d 9 158 161 L st Q)) := H_virt [v1, v2] rfl (by decide) rfl rfl rfl rfl rfl hd hs
theorem x9_161 : XX X d 9 (161, L, st, M) Q = XX X d 9 (162, L, .int (ii 1) :: st, M) Q := G_cst rfl rfl rfl rfl rfl
theorem x9_162 (h : p = 0 ∨ p = 1) : XX X d 9 (162, L, [.int (ii p)], M) Q = Q (.inl (some (.int (ii p)))) M := G_ret rfl ⟨⟨⟨rfl, rfl, rfl, by decide⟩, rfl, rfl⟩, rfl, rfl⟩ (bz_ok h)
theorem x9_163 (h : wide (some l4) = false) : XX X d 9 (163, [l0, l1, l2, l3, l4, some (.int (ii p)), l6, l7, l8], st, M) Q = XX X d 9 (166, [l0, l1, l2, l3, l4, some (.int (ii (p + 1))), l6, l7, l8], st, M) Q := H_inc rfl (by decide) rfl rfl rfl (Or.inr h)
theorem x9_166 : XX X d 9 (166, L, st, M) Q = XX X d 9 (58, L, st, M) Q := H_jmp rfl (by decide) rfl
theorem x9_169 : XX X d 9 (169, L, st, M) Q = XX X d 9 (170, L, .int (ii 0) :: st, M) Q := G_cst rfl rfl rfl rfl rfl
theorem x9_170 (h : p = 0 ∨ p = 1) : XX X d 9 (170, L, [.int (ii p)], M) Q = Q (.inl (some (.int (ii p)))) M := G_ret rfl ⟨⟨⟨rfl, rfl, rfl, by decide⟩, rfl, rfl⟩, rfl, rfl⟩ (bz_ok h)
theorem e9 : CC X d 9 [.ref a, .ref a1, .ref a2, .int x, .int x2] M Q = XX X d 9 (0, [some (.ref a), some (.ref a1), some (.ref a2), some (.int x), some (.int x2), none, none, none, none], [], M) Q := H_ent rfl rfl
-- 10 X0_accepts (LRegexTracer$Pattern;LRegexTracer$Row;IIZ)Z
theorem x10_0 : XX X d 10 (0, [l0, some (.ref a), l2, l3, l4, l5], st, M) Q = XX X d 10 (1, [l0, some (.ref a), l2, l3, l4, l5], .ref a :: st, M) Q := H_ld rfl rfl rfl rfl rfl
theorem x10_0n : XX X d 10 (0, [l0, some (.null), l2, l3, l4, l5], st, M) Q = XX X d 10 (1, [l0, some (.null), l2, l3, l4, l5], .null :: st, M) Q := H_ld rfl rfl rfl rfl rfl
theorem x10_1 : XX X d 10 (1, [l0, l1, l2, some (.int x), l4, l5], st, M) Q = XX X d 10 (2, [l0, l1, l2, some (.int x), l4, l5], .int x :: st, M) Q := H_ld rfl rfl rfl rfl rfl
theorem x10_2 {v1 : Value} (hd : 0 < d) (hs : stB st = true) : XX X d 10 (2, L, v1 :: .ref a :: st, M) Q = (mcl M a = some 4 ∧ CC X (d - 1) 35 [.ref a, v1] M (XC X d 10 2 5 L st Q)) := H_virt [v1] rfl (by decide) rfl rfl rfl rfl rfl hd hs
theorem x10_5 (h : -2147483648 ≤ p ∧ p ≤ 2147483647) : XX X d 10 (5, L, .int (ii p) :: st, M) Q = yt (if p < 5 ∨ 8 < p then some 115 else ([56, 80, 93, 36] : List Nat)[(p - 5).toNat]?) X d 10 L st M Q := H_tsw rfl (by decide) rfl h
theorem x10_36 : XX X d 10 (36, [l0, l1, l2, l3, l4, some (.int x)], st, M) Q = XX X d 10 (38, [l0, l1, l2, l3, l4, some (.int x)], .int x :: st, M) Q := H_ld rfl rfl rfl rfl rfl
theorem x10_38 (h : -2147483648 ≤ p ∧ p ≤ 2147483647) : XX X d 10 (38, L, .int (ii p) :: st, M) Q = bq (p = 0) X d 10 50 41 L st M Q := H_if rfl ⟨rfl, rfl, rfl, by decide⟩ rfl rfl rfl rfl (D_eq (b := 0) (by omega))
theorem x10_38b : XX X d 10 (38, L, .int (ii (b2i b)) :: st, M) Q = bq (b = false) X d 10 50 41 L st M Q := (x10_38 (b2i_r b)).trans (by rw [b2i_0])
theorem x10_41 : XX X d 10 (41, [l0, l1, l2, l3, some (.int x), l5], st, M) Q = XX X d 10 (43, [l0, l1, l2, l3, some (.int x), l5], .int x :: st, M) Q := H_ld rfl rfl rfl rfl rfl
theorem x10_43 : XX X d 10 (43, [l0, l1, some (.ref a), l3, l4, l5], st, M) Q = XX X d 10 (44, [l0, l1, some (.ref a), l3, l4, l5], .ref a :: st, M) Q := H_ld rfl rfl rfl rfl rfl
theorem x10_43n : XX X d 10 (43, [l0, l1, some (.null), l3, l4, l5], st, M) Q = XX X d 10 (44, [l0, l1, some (.null), l3, l4, l5], .null :: st, M) Q := H_ld rfl rfl rfl rfl rfl
theorem x10_44 (hd : 0 < d) (hs : stB st = true) : XX X d 10 (44, L, .ref a :: st, M) Q = (mcl M a = some 6 ∧ CC X (d - 1) 58 [.ref a] M (XC X d 10 44 47 L st Q)) := H_virt [] rfl (by decide) rfl rfl rfl rfl rfl hd hs
theorem x10_47 (h : -2147483648 ≤ p ∧ p ≤ 2147483647 ∧ -2147483648 ≤ q ∧ q ≤ 2147483647) : XX X d 10 (47, L, .int (ii q) :: .int (ii p) :: st, M) Q = bq (p ≠ q) X d 10 54 50 L st M Q := H_if2 rfl ⟨rfl, rfl, rfl, by decide⟩ rfl rfl rfl rfl (D_ne h)
theorem x10_50 : XX X d 10 (50, L, st, M) Q = XX X d 10 (51, L, .int (ii 1) :: st, M) Q := G_cst rfl rfl rfl rfl rfl
theorem x10_51 : XX X d 10 (51, L, st, M) Q = XX X d 10 (55, L, st, M) Q := H_jmp rfl (by decide) rfl
theorem x10_54 : XX X d 10 (54, L, st, M) Q = XX X d 10 (55, L, .int (ii 0) :: st, M) Q := G_cst rfl rfl rfl rfl rfl
theorem x10_55 (h : p = 0 ∨ p = 1) : XX X d 10 (55, L, [.int (ii p)], M) Q = Q (.inl (some (.int (ii p)))) M := G_ret rfl ⟨⟨⟨rfl, rfl, rfl, by decide⟩, rfl, rfl⟩, rfl, rfl⟩ (bz_ok h)
theorem x10_56 : XX X d 10 (56, [some (.ref a), l1, l2, l3, l4, l5], st, M) Q = XX X d 10 (57, [some (.ref a), l1, l2, l3, l4, l5], .ref a :: st, M) Q := H_ld rfl rfl rfl rfl rfl
theorem x10_56n : XX X d 10 (56, [some (.null), l1, l2, l3, l4, l5], st, M) Q = XX X d 10 (57, [some (.null), l1, l2, l3, l4, l5], .null :: st, M) Q := H_ld rfl rfl rfl rfl rfl
theorem x10_57 : XX X d 10 (57, [l0, some (.ref a), l2, l3, l4, l5], st, M) Q = XX X d 10 (58, [l0, some (.ref a), l2, l3, l4, l5], .ref a :: st, M) Q := H_ld rfl rfl rfl rfl rfl
theorem x10_57n : XX X d 10 (57, [l0, some (.null), l2, l3, l4, l5], st, M) Q = XX X d 10 (58, [l0, some (.null), l2, l3, l4, l5], .null :: st, M) Q := H_ld rfl rfl rfl rfl rfl
theorem x10_58 : XX X d 10 (58, [l0, l1, l2, some (.int x), l4, l5], st, M) Q = XX X d 10 (59, [l0, l1, l2, some (.int x), l4, l5], .int x :: st, M) Q := H_ld rfl rfl rfl rfl rfl
theorem x10_59 {v1 : Value} (hd : 0 < d) (hs : stB st = true) : XX X d 10 (59, L, v1 :: .ref a :: st, M) Q = (mcl M a = some 4 ∧ CC X (d - 1) 37 [.ref a, v1] M (XC X d 10 59 62 L st Q)) := H_virt [v1] rfl (by decide) rfl rfl rfl rfl rfl hd hs
theorem x10_62 : XX X d 10 (62, [l0, l1, l2, l3, some (.int x), l5], st, M) Q = XX X d 10 (64, [l0, l1, l2, l3, some (.int x), l5], .int x :: st, M) Q := H_ld rfl rfl rfl rfl rfl
theorem x10_64 {v1 v2 : Value} (hd : 0 < d) (hs : stB st = true) : XX X d 10 (64, L, v2 :: v1 :: .ref a :: st, M) Q = (mcl M a = some 0 ∧ CC X (d - 1) 11 [.ref a, v1, v2] M (XC X d 10 64 67 L st Q)) := H_virt [v1, v2] rfl (by decide) rfl rfl rfl rfl rfl hd hs
theorem x10_67 : XX X d 10 (67, [some (.ref a), l1, l2, l3, l4, l5], st, M) Q = XX X d 10 (68, [some (.ref a), l1, l2, l3, l4, l5], .ref a :: st, M) Q := H_ld rfl rfl rfl rfl rfl
theorem x10_67n : XX X d 10 (67, [some (.null), l1, l2, l3, l4, l5], st, M) Q = XX X d 10 (68, [some (.null), l1, l2, l3, l4, l5], .null :: st, M) Q := H_ld rfl rfl rfl rfl rfl
theorem x10_68 : XX X d 10 (68, [l0, some (.ref a), l2, l3, l4, l5], st, M) Q = XX X d 10 (69, [l0, some (.ref a), l2, l3, l4, l5], .ref a :: st, M) Q := H_ld rfl rfl rfl rfl rfl
theorem x10_68n : XX X d 10 (68, [l0, some (.null), l2, l3, l4, l5], st, M) Q = XX X d 10 (69, [l0, some (.null), l2, l3, l4, l5], .null :: st, M) Q := H_ld rfl rfl rfl rfl rfl
theorem x10_69 : XX X d 10 (69, [l0, l1, l2, some (.int x), l4, l5], st, M) Q = XX X d 10 (70, [l0, l1, l2, some (.int x), l4, l5], .int x :: st, M) Q := H_ld rfl rfl rfl rfl rfl
theorem x10_70 {v1 : Value} (hd : 0 < d) (hs : stB st = true) : XX X d 10 (70, L, v1 :: .ref a :: st, M) Q = (mcl M a = some 4 ∧ CC X (d - 1) 36 [.ref a, v1] M (XC X d 10 70 73 L st Q)) := H_virt [v1] rfl (by decide) rfl rfl rfl rfl rfl hd hs
theorem x10_73 : XX X d 10 (73, [l0, l1, l2, l3, some (.int x), l5], st, M) Q = XX X d 10 (75, [l0, l1, l2, l3, some (.int x), l5], .int x :: st, M) Q := H_ld rfl rfl rfl rfl rfl
theorem x10_75 {v1 v2 : Value} (hd : 0 < d) (hs : stB st = true) : XX X d 10 (75, L, v2 :: v1 :: .ref a :: st, M) Q = (mcl M a = some 0 ∧ CC X (d - 1) 11 [.ref a, v1, v2] M (XC X d 10 75 78 L st Q)) := H_virt [v1, v2] rfl (by decide) rfl rfl rfl rfl rfl hd hs
theorem x10_78 : XX X d 10 (78, L, st, M) Q = XX X d 10 (79, L, .int (ii 0) :: st, M) Q := G_cst rfl rfl rfl rfl rfl
theorem x10_79 (h : p = 0 ∨ p = 1) : XX X d 10 (79, L, [.int (ii p)], M) Q = Q (.inl (some (.int (ii p)))) M := G_ret rfl ⟨⟨⟨rfl, rfl, rfl, by decide⟩, rfl, rfl⟩, rfl, rfl⟩ (bz_ok h)
theorem x10_80 : XX X d 10 (80, [some (.ref a), l1, l2, l3, l4, l5], st, M) Q = XX X d 10 (81, [some (.ref a), l1, l2, l3, l4, l5], .ref a :: st, M) Q := H_ld rfl rfl rfl rfl rfl
theorem x10_80n : XX X d 10 (80, [some (.null), l1, l2, l3, l4, l5], st, M) Q = XX X d 10 (81, [some (.null), l1, l2, l3, l4, l5], .null :: st, M) Q := H_ld rfl rfl rfl rfl rfl
theorem x10_81 : XX X d 10 (81, [l0, some (.ref a), l2, l3, l4, l5], st, M) Q = XX X d 10 (82, [l0, some (.ref a), l2, l3, l4, l5], .ref a :: st, M) Q := H_ld rfl rfl rfl rfl rfl
theorem x10_81n : XX X d 10 (81, [l0, some (.null), l2, l3, l4, l5], st, M) Q = XX X d 10 (82, [l0, some (.null), l2, l3, l4, l5], .null :: st, M) Q := H_ld rfl rfl rfl rfl rfl
theorem x10_82 : XX X d 10 (82, [l0, l1, l2, some (.int x), l4, l5], st, M) Q = XX X d 10 (83, [l0, l1, l2, some (.int x), l4, l5], .int x :: st, M) Q := H_ld rfl rfl rfl rfl rfl
theorem x10_83 {v1 : Value} (hd : 0 < d) (hs : stB st = true) : XX X d 10 (83, L, v1 :: .ref a :: st, M) Q = (mcl M a = some 4 ∧ CC X (d - 1) 36 [.ref a, v1] M (XC X d 10 83 86 L st Q)) := H_virt [v1] rfl (by decide) rfl rfl rfl rfl rfl hd hs
theorem x10_86 : XX X d 10 (86, [l0, l1, l2, l3, some (.int x), l5], st, M) Q = XX X d 10 (88, [l0, l1, l2, l3, some (.int x), l5], .int x :: st, M) Q := H_ld rfl rfl rfl rfl rfl
theorem x10_88 {v1 v2 : Value} (hd : 0 < d) (hs : stB st = true) : XX X d 10 (88, L, v2 :: v1 :: .ref a :: st, M) Q = (mcl M a = some 0 ∧ CC X (d - 1) 11 [.ref a, v1, v2] M (XC X d 10 88 91 L st Q)) := H_virt [v1, v2] rfl (by decide) rfl rfl rfl rfl rfl hd hs
theorem x10_91 : XX X d 10 (91, L, st, M) Q = XX X d 10 (92, L, .int (ii 0) :: st, M) Q := G_cst rfl rfl rfl rfl rfl
theorem x10_92 (h : p = 0 ∨ p = 1) : XX X d 10 (92, L, [.int (ii p)], M) Q = Q (.inl (some (.int (ii p)))) M := G_ret rfl ⟨⟨⟨rfl, rfl, rfl, by decide⟩, rfl, rfl⟩, rfl, rfl⟩ (bz_ok h)
theorem x10_93 : XX X d 10 (93, [some (.ref a), l1, l2, l3, l4, l5], st, M) Q = XX X d 10 (94, [some (.ref a), l1, l2, l3, l4, l5], .ref a :: st, M) Q := H_ld rfl rfl rfl rfl rfl
theorem x10_93n : XX X d 10 (93, [some (.null), l1, l2, l3, l4, l5], st, M) Q = XX X d 10 (94, [some (.null), l1, l2, l3, l4, l5], .null :: st, M) Q := H_ld rfl rfl rfl rfl rfl
theorem x10_94 : XX X d 10 (94, [l0, some (.ref a), l2, l3, l4, l5], st, M) Q = XX X d 10 (95, [l0, some (.ref a), l2, l3, l4, l5], .ref a :: st, M) Q := H_ld rfl rfl rfl rfl rfl
theorem x10_94n : XX X d 10 (94, [l0, some (.null), l2, l3, l4, l5], st, M) Q = XX X d 10 (95, [l0, some (.null), l2, l3, l4, l5], .null :: st, M) Q := H_ld rfl rfl rfl rfl rfl
theorem x10_95 : XX X d 10 (95, [l0, l1, l2, some (.int x), l4, l5], st, M) Q = XX X d 10 (96, [l0, l1, l2, some (.int x), l4, l5], .int x :: st, M) Q := H_ld rfl rfl rfl rfl rfl
theorem x10_96 {v1 : Value} (hd : 0 < d) (hs : stB st = true) : XX X d 10 (96, L, v1 :: .ref a :: st, M) Q = (mcl M a = some 4 ∧ CC X (d - 1) 38 [.ref a, v1] M (XC X d 10 96 99 L st Q)) := H_virt [v1] rfl (by decide) rfl rfl rfl rfl rfl hd hs
theorem x10_99 : XX X d 10 (99, [l0, l1, l2, l3, some (.int x), l5], st, M) Q = XX X d 10 (101, [l0, l1, l2, l3, some (.int x), l5], .int x :: st, M) Q := H_ld rfl rfl rfl rfl rfl
theorem x10_101 {v1 v2 : Value} (hd : 0 < d) (hs : stB st = true) : XX X d 10 (101, L, v2 :: v1 :: .ref a :: st, M) Q = (mcl M a = some 0 ∧ CC X (d - 1) 12 [.ref a, v1, v2] M (XC X d 10 101 104 L st Q)) := H_virt [v1, v2] rfl (by decide) rfl rfl rfl rfl rfl hd hs
theorem x10_104 : XX X d 10 (104, [some (.ref a), l1, l2, l3, l4, l5], st, M) Q = XX X d 10 (105, [some (.ref a), l1, l2, l3, l4, l5], .ref a :: st, M) Q := H_ld rfl rfl rfl rfl rfl
theorem x10_104n : XX X d 10 (104, [some (.null), l1, l2, l3, l4, l5], st, M) Q = XX X d 10 (105, [some (.null), l1, l2, l3, l4, l5], .null :: st, M) Q := H_ld rfl rfl rfl rfl rfl
theorem x10_105 : XX X d 10 (105, [l0, l1, l2, some (.int x), l4, l5], st, M) Q = XX X d 10 (106, [l0, l1, l2, some (.int x), l4, l5], .int x :: st, M) Q := H_ld rfl rfl rfl rfl rfl
theorem x10_106 : XX X d 10 (106, L, st, M) Q = XX X d 10 (107, L, .int (ii 1) :: st, M) Q := G_cst rfl rfl rfl rfl rfl
theorem x10_107 : XX X d 10 (107, L, .int (ii q) :: .int (ii p) :: st, M) Q = XX X d 10 (108, L, .int (ii (p + q)) :: st, M) Q := H_add rfl (by decide) rfl
theorem x10_108 : XX X d 10 (108, [l0, l1, l2, l3, some (.int x), l5], st, M) Q = XX X d 10 (110, [l0, l1, l2, l3, some (.int x), l5], .int x :: st, M) Q := H_ld rfl rfl rfl rfl rfl
theorem x10_110 {v1 v2 : Value} (hd : 0 < d) (hs : stB st = true) : XX X d 10 (110, L, v2 :: v1 :: .ref a :: st, M) Q = (mcl M a = some 0 ∧ CC X (d - 1) 11 [.ref a, v1, v2] M (XC X d 10 110 113 L st Q)) := H_virt [v1, v2] rfl (by decide) rfl rfl rfl rfl rfl hd hs
theorem x10_113 : XX X d 10 (113, L, st, M) Q = XX X d 10 (114, L, .int (ii 0) :: st, M) Q := G_cst rfl rfl rfl rfl rfl
theorem x10_114 (h : p = 0 ∨ p = 1) : XX X d 10 (114, L, [.int (ii p)], M) Q = Q (.inl (some (.int (ii p)))) M := G_ret rfl ⟨⟨⟨rfl, rfl, rfl, by decide⟩, rfl, rfl⟩, rfl, rfl⟩ (bz_ok h)
theorem x10_115 : XX X d 10 (115, [l0, l1, l2, l3, some (.int x), l5], st, M) Q = XX X d 10 (117, [l0, l1, l2, l3, some (.int x), l5], .int x :: st, M) Q := H_ld rfl rfl rfl rfl rfl
theorem x10_117 : XX X d 10 (117, [l0, l1, some (.ref a), l3, l4, l5], st, M) Q = XX X d 10 (118, [l0, l1, some (.ref a), l3, l4, l5], .ref a :: st, M) Q := H_ld rfl rfl rfl rfl rfl
theorem x10_117n : XX X d 10 (117, [l0, l1, some (.null), l3, l4, l5], st, M) Q = XX X d 10 (118, [l0, l1, some (.null), l3, l4, l5], .null :: st, M) Q := H_ld rfl rfl rfl rfl rfl
theorem x10_118 (hd : 0 < d) (hs : stB st = true) : XX X d 10 (118, L, .ref a :: st, M) Q = (mcl M a = some 6 ∧ CC X (d - 1) 58 [.ref a] M (XC X d 10 118 121 L st Q)) := H_virt [] rfl (by decide) rfl rfl rfl rfl rfl hd hs
theorem x10_121 (h : -2147483648 ≤ p ∧ p ≤ 2147483647 ∧ -2147483648 ≤ q ∧ q ≤ 2147483647) : XX X d 10 (121, L, .int (ii q) :: .int (ii p) :: st, M) Q = bq (q ≤ p) X d 10 149 124 L st M Q := H_if2 rfl ⟨rfl, rfl, rfl, by decide⟩ rfl rfl rfl rfl (D_le h)
theorem x10_124 : XX X d 10 (124, [l0, some (.ref a), l2, l3, l4, l5], st, M) Q = XX X d 10 (125, [l0, some (.ref a), l2, l3, l4, l5], .ref a :: st, M) Q := H_ld rfl rfl rfl rfl rfl
theorem x10_124n : XX X d 10 (124, [l0, some (.null), l2, l3, l4, l5], st, M) Q = XX X d 10 (125, [l0, some (.null), l2, l3, l4, l5], .null :: st, M) Q := H_ld rfl rfl rfl rfl rfl
theorem x10_125 : XX X d 10 (125, [l0, l1, l2, some (.int x), l4, l5], st, M) Q = XX X d 10 (126, [l0, l1, l2, some (.int x), l4, l5], .int x :: st, M) Q := H_ld rfl rfl rfl rfl rfl
theorem x10_126 : XX X d 10 (126, [l0, l1, some (.ref a), l3, l4, l5], st, M) Q = XX X d 10 (127, [l0, l1, some (.ref a), l3, l4, l5], .ref a :: st, M) Q := H_ld rfl rfl rfl rfl rfl
theorem x10_126n : XX X d 10 (126, [l0, l1, some (.null), l3, l4, l5], st, M) Q = XX X d 10 (127, [l0, l1, some (.null), l3, l4, l5], .null :: st, M) Q := H_ld rfl rfl rfl rfl rfl
theorem x10_127 : XX X d 10 (127, [l0, l1, l2, l3, some (.int x), l5], st, M) Q = XX X d 10 (129, [l0, l1, l2, l3, some (.int x), l5], .int x :: st, M) Q := H_ld rfl rfl rfl rfl rfl
theorem x10_129 {v1 : Value} (hd : 0 < d) (hs : stB st = true) : XX X d 10 (129, L, v1 :: .ref a :: st, M) Q = (mcl M a = some 6 ∧ CC X (d - 1) 61 [.ref a, v1] M (XC X d 10 129 132 L st Q)) := H_virt [v1] rfl (by decide) rfl rfl rfl rfl rfl hd hs
theorem x10_132 {v1 v2 : Value} (hd : 0 < d) (hs : stB st = true) : XX X d 10 (132, L, v2 :: v1 :: .ref a :: st, M) Q = (mcl M a = some 4 ∧ CC X (d - 1) 42 [.ref a, v1, v2] M (XC X d 10 132 135 L st Q)) := H_virt [v1, v2] rfl (by decide) rfl rfl rfl rfl rfl hd hs
theorem x10_135 (h : -2147483648 ≤ p ∧ p ≤ 2147483647) : XX X d 10 (135, L, .int (ii p) :: st, M) Q = bq (p = 0) X d 10 149 138 L st M Q := H_if rfl ⟨rfl, rfl, rfl, by decide⟩ rfl rfl rfl rfl (D_eq (b := 0) (by omega))
theorem x10_135b : XX X d 10 (135, L, .int (ii (b2i b)) :: st, M) Q = bq (b = false) X d 10 149 138 L st M Q := (x10_135 (b2i_r b)).trans (by rw [b2i_0])
theorem x10_138 : XX X d 10 (138, [some (.ref a), l1, l2, l3, l4, l5], st, M) Q = XX X d 10 (139, [some (.ref a), l1, l2, l3, l4, l5], .ref a :: st, M) Q := H_ld rfl rfl rfl rfl rfl
theorem x10_138n : XX X d 10 (138, [some (.null), l1, l2, l3, l4, l5], st, M) Q = XX X d 10 (139, [some (.null), l1, l2, l3, l4, l5], .null :: st, M) Q := H_ld rfl rfl rfl rfl rfl
theorem x10_139 : XX X d 10 (139, [l0, l1, l2, some (.int x), l4, l5], st, M) Q = XX X d 10 (140, [l0, l1, l2, some (.int x), l4, l5], .int x :: st, M) Q := H_ld rfl rfl rfl rfl rfl
theorem x10_140 : XX X d 10 (140, L, st, M) Q = XX X d 10 (141, L, .int (ii 1) :: st, M) Q := G_cst rfl rfl rfl rfl rfl
theorem x10_141 : XX X d 10 (141, L, .int (ii q) :: .int (ii p) :: st, M) Q = XX X d 10 (142, L, .int (ii (p + q)) :: st, M) Q := H_add rfl (by decide) rfl
theorem x10_142 : XX X d 10 (142, [l0, l1, l2, l3, some (.int x), l5], st, M) Q = XX X d 10 (144, [l0, l1, l2, l3, some (.int x), l5], .int x :: st, M) Q := H_ld rfl rfl rfl rfl rfl
theorem x10_144 : XX X d 10 (144, L, st, M) Q = XX X d 10 (145, L, .int (ii 1) :: st, M) Q := G_cst rfl rfl rfl rfl rfl
theorem x10_145 : XX X d 10 (145, L, .int (ii q) :: .int (ii p) :: st, M) Q = XX X d 10 (146, L, .int (ii (p + q)) :: st, M) Q := H_add rfl (by decide) rfl
theorem x10_146 {v1 v2 : Value} (hd : 0 < d) (hs : stB st = true) : XX X d 10 (146, L, v2 :: v1 :: .ref a :: st, M) Q = (mcl M a = some 0 ∧ CC X (d - 1) 11 [.ref a, v1, v2] M (XC X d 10 146 149 L st Q)) := H_virt [v1, v2] rfl (by decide) rfl rfl rfl rfl rfl hd hs
theorem x10_149 : XX X d 10 (149, L, st, M) Q = XX X d 10 (150, L, .int (ii 0) :: st, M) Q := G_cst rfl rfl rfl rfl rfl
theorem x10_150 (h : p = 0 ∨ p = 1) : XX X d 10 (150, L, [.int (ii p)], M) Q = Q (.inl (some (.int (ii p)))) M := G_ret rfl ⟨⟨⟨rfl, rfl, rfl, by decide⟩, rfl, rfl⟩, rfl, rfl⟩ (bz_ok h)
theorem e10 : CC X d 10 [.ref a, .ref a1, .ref a2, .int x, .int x2, .int x3] M Q = XX X d 10 (0, [some (.ref a), some (.ref a1), some (.ref a2), some (.int x), some (.int x2), some (.int x3)], [], M) Q := H_ent rfl rfl
-- 11 X0_choose (II)V
theorem x11_0 : XX X d 11 (0, [some (.ref a), l1, l2], st, M) Q = XX X d 11 (1, [some (.ref a), l1, l2], .ref a :: st, M) Q := H_ld rfl rfl rfl rfl rfl
theorem x11_0n : XX X d 11 (0, [some (.null), l1, l2], st, M) Q = XX X d 11 (1, [some (.null), l1, l2], .null :: st, M) Q := H_ld rfl rfl rfl rfl rfl
theorem x11_1 : XX X d 11 (1, L, .ref a :: st, M) Q = yg (M.2.2 a) 0 1 X d 11 4 L st M Q := G_getf rfl (by decide) rfl rfl rfl
theorem x11_4 : XX X d 11 (4, [l0, some (.int x), l2], st, M) Q = XX X d 11 (5, [l0, some (.int x), l2], .int x :: st, M) Q := H_ld rfl rfl rfl rfl rfl
theorem x11_5 : XX X d 11 (5, L, st, M) Q = XX X d 11 (7, L, .int (ii 6) :: st, M) Q := G_cst rfl rfl rfl rfl rfl
theorem x11_7 : XX X d 11 (7, L, .int x2 :: .int x :: st, M) Q = XX X d 11 (8, L, .int (x <<< (x2 &&& 31)) :: st, M) Q := G_sop rfl ⟨rfl, rfl, rfl, by decide⟩ rfl rfl
theorem x11_8 : XX X d 11 (8, [l0, l1, some (.int x)], st, M) Q = XX X d 11 (9, [l0, l1, some (.int x)], .int x :: st, M) Q := H_ld rfl rfl rfl rfl rfl
theorem x11_9 : XX X d 11 (9, L, .int (ii q) :: .int (ii p) :: st, M) Q = XX X d 11 (10, L, .int (ii (p + q)) :: st, M) Q := H_add rfl (by decide) rfl
theorem x11_10 {v1 : Value} (hd : 0 < d) (hs : stB st = true) : XX X d 11 (10, L, v1 :: .ref a :: st, M) Q = (mcl M a = some 6 ∧ CC X (d - 1) 63 [.ref a, v1] M (XC X d 11 10 13 L st Q)) := H_virt [v1] rfl (by decide) rfl rfl rfl rfl rfl hd hs
theorem x11_13 : XX X d 11 (13, L, [], M) Q = Q (.inl none) M := G_retv rfl (by decide) rfl
theorem e11 : CC X d 11 [.ref a, .int x, .int x2] M Q = XX X d 11 (0, [some (.ref a), some (.int x), some (.int x2)], [], M) Q := H_ent rfl rfl
-- 12 X0_note (II)V
theorem x12_0 : XX X d 12 (0, [some (.ref a), l1, l2, l3], st, M) Q = XX X d 12 (1, [some (.ref a), l1, l2, l3], .ref a :: st, M) Q := H_ld rfl rfl rfl rfl rfl
theorem x12_0n : XX X d 12 (0, [some (.null), l1, l2, l3], st, M) Q = XX X d 12 (1, [some (.null), l1, l2, l3], .null :: st, M) Q := H_ld rfl rfl rfl rfl rfl
theorem x12_1 : XX X d 12 (1, L, .ref a :: st, M) Q = yg (M.2.2 a) 0 2 X d 12 4 L st M Q := G_getf rfl (by decide) rfl rfl rfl
theorem x12_4 : XX X d 12 (4, [l0, some (.int x), l2, l3], st, M) Q = XX X d 12 (5, [l0, some (.int x), l2, l3], .int x :: st, M) Q := H_ld rfl rfl rfl rfl rfl
theorem x12_5 {v1 : Value} (hd : 0 < d) (hs : stB st = true) : XX X d 12 (5, L, v1 :: .ref a :: st, M) Q = (mcl M a = some 6 ∧ CC X (d - 1) 61 [.ref a, v1] M (XC X d 12 5 8 L st Q)) := H_virt [v1] rfl (by decide) rfl rfl rfl rfl rfl hd hs
theorem x12_8 : XX X d 12 (8, L, st, M) Q = XX X d 12 (9, L, .int (ii 1) :: st, M) Q := G_cst rfl rfl rfl rfl rfl
theorem x12_9 : XX X d 12 (9, L, .int (ii q) :: .int (ii p) :: st, M) Q = XX X d 12 (10, L, .int (ii (p + q)) :: st, M) Q := H_add rfl (by decide) rfl
theorem x12_10 (h : wide (some l2) = false) : XX X d 12 (10, [l0, l1, l2, l3], .int x :: st, M) Q = XX X d 12 (11, [l0, l1, l2, some (.int x)], st, M) Q := H_st rfl rfl rfl rfl rfl rfl rfl rfl (Or.inr h)
theorem x12_11 : XX X d 12 (11, [some (.ref a), l1, l2, l3], st, M) Q = XX X d 12 (12, [some (.ref a), l1, l2, l3], .ref a :: st, M) Q := H_ld rfl rfl rfl rfl rfl
theorem x12_11n : XX X d 12 (11, [some (.null), l1, l2, l3], st, M) Q = XX X d 12 (12, [some (.null), l1, l2, l3], .null :: st, M) Q := H_ld rfl rfl rfl rfl rfl
theorem x12_12 : XX X d 12 (12, L, .ref a :: st, M) Q = yg (M.2.2 a) 0 1 X d 12 15 L st M Q := G_getf rfl (by decide) rfl rfl rfl
theorem x12_15 : XX X d 12 (15, L, st, M) Q = XX X d 12 (18, L, .int (ii 4096) :: st, M) Q := G_cst rfl rfl rfl rfl rfl
theorem x12_18 : XX X d 12 (18, [l0, some (.int x), l2, l3], st, M) Q = XX X d 12 (19, [l0, some (.int x), l2, l3], .int x :: st, M) Q := H_ld rfl rfl rfl rfl rfl
theorem x12_19 : XX X d 12 (19, L, st, M) Q = XX X d 12 (21, L, .int (ii 6) :: st, M) Q := G_cst rfl rfl rfl rfl rfl
theorem x12_21 : XX X d 12 (21, L, .int x2 :: .int x :: st, M) Q = XX X d 12 (22, L, .int (x <<< (x2 &&& 31)) :: st, M) Q := G_sop rfl ⟨rfl, rfl, rfl, by decide⟩ rfl rfl
theorem x12_22 : XX X d 12 (22, L, .int (ii q) :: .int (ii p) :: st, M) Q = XX X d 12 (23, L, .int (ii (p + q)) :: st, M) Q := H_add rfl (by decide) rfl
theorem x12_23 : XX X d 12 (23, [l0, l1, l2, some (.int x)], st, M) Q = XX X d 12 (24, [l0, l1, l2, some (.int x)], .int x :: st, M) Q := H_ld rfl rfl rfl rfl rfl
theorem x12_24 : XX X d 12 (24, L, .int (ii q) :: .int (ii p) :: st, M) Q = XX X d 12 (25, L, .int (ii (p + q)) :: st, M) Q := H_add rfl (by decide) rfl
theorem x12_25 {v1 : Value} (hd : 0 < d) (hs : stB st = true) : XX X d 12 (25, L, v1 :: .ref a :: st, M) Q = (mcl M a = some 6 ∧ CC X (d - 1) 63 [.ref a, v1] M (XC X d 12 25 28 L st Q)) := H_virt [v1] rfl (by decide) rfl rfl rfl rfl rfl hd hs
theorem x12_28 : XX X d 12 (28, [some (.ref a), l1, l2, l3], st, M) Q = XX X d 12 (29, [some (.ref a), l1, l2, l3], .ref a :: st, M) Q := H_ld rfl rfl rfl rfl rfl
theorem x12_28n : XX X d 12 (28, [some (.null), l1, l2, l3], st, M) Q = XX X d 12 (29, [some (.null), l1, l2, l3], .null :: st, M) Q := H_ld rfl rfl rfl rfl rfl
theorem x12_29 : XX X d 12 (29, L, .ref a :: st, M) Q = yg (M.2.2 a) 0 2 X d 12 32 L st M Q := G_getf rfl (by decide) rfl rfl rfl
theorem x12_32 : XX X d 12 (32, [l0, some (.int x), l2, l3], st, M) Q = XX X d 12 (33, [l0, some (.int x), l2, l3], .int x :: st, M) Q := H_ld rfl rfl rfl rfl rfl
theorem x12_33 : XX X d 12 (33, [l0, l1, some (.int x), l3], st, M) Q = XX X d 12 (34, [l0, l1, some (.int x), l3], .int x :: st, M) Q := H_ld rfl rfl rfl rfl rfl
theorem x12_34 {v1 v2 : Value} (hd : 0 < d) (hs : stB st = true) : XX X d 12 (34, L, v2 :: v1 :: .ref a :: st, M) Q = (mcl M a = some 6 ∧ CC X (d - 1) 62 [.ref a, v1, v2] M (XC X d 12 34 37 L st Q)) := H_virt [v1, v2] rfl (by decide) rfl rfl rfl rfl rfl hd hs
theorem x12_37 : XX X d 12 (37, L, [], M) Q = Q (.inl none) M := G_retv rfl (by decide) rfl
theorem e12 : CC X d 12 [.ref a, .int x, .int x2] M Q = XX X d 12 (0, [some (.ref a), some (.int x), some (.int x2), none], [], M) Q := H_ent rfl rfl
-- 13 X0_forgetTried ()V
theorem x13_0 : XX X d 13 (0, L, st, M) Q = XX X d 13 (1, L, .int (ii 0) :: st, M) Q := G_cst rfl rfl rfl rfl rfl
theorem x13_1 (h : wide (some l0) = false) : XX X d 13 (1, [l0, l1], .int x :: st, M) Q = XX X d 13 (2, [l0, some (.int x)], st, M) Q := H_st rfl rfl rfl rfl rfl rfl rfl rfl (Or.inr h)
theorem x13_2 : XX X d 13 (2, [l0, some (.int x)], st, M) Q = XX X d 13 (3, [l0, some (.int x)], .int x :: st, M) Q := H_ld rfl rfl rfl rfl rfl
theorem x13_3 : XX X d 13 (3, [some (.ref a), l1], st, M) Q = XX X d 13 (4, [some (.ref a), l1], .ref a :: st, M) Q := H_ld rfl rfl rfl rfl rfl
theorem x13_3n : XX X d 13 (3, [some (.null), l1], st, M) Q = XX X d 13 (4, [some (.null), l1], .null :: st, M) Q := H_ld rfl rfl rfl rfl rfl
theorem x13_4 : XX X d 13 (4, L, .ref a :: st, M) Q = yg (M.2.2 a) 0 0 X d 13 7 L st M Q := G_getf rfl (by decide) rfl rfl rfl
theorem x13_7 : XX X d 13 (7, L, .ref a :: st, M) Q = yn (M.2.2 a) X d 13 8 L st M Q := H_alen rfl (by decide) rfl
theorem x13_8 (h : -2147483648 ≤ p ∧ p ≤ 2147483647 ∧ -2147483648 ≤ q ∧ q ≤ 2147483647) : XX X d 13 (8, L, .int (ii q) :: .int (ii p) :: st, M) Q = bq (q ≤ p) X d 13 24 11 L st M Q := H_if2 rfl ⟨rfl, rfl, rfl, by decide⟩ rfl rfl rfl rfl (D_le h)
theorem x13_11 : XX X d 13 (11, [some (.ref a), l1], st, M) Q = XX X d 13 (12, [some (.ref a), l1], .ref a :: st, M) Q := H_ld rfl rfl rfl rfl rfl
theorem x13_11n : XX X d 13 (11, [some (.null), l1], st, M) Q = XX X d 13 (12, [some (.null), l1], .null :: st, M) Q := H_ld rfl rfl rfl rfl rfl
theorem x13_12 : XX X d 13 (12, L, .ref a :: st, M) Q = yg (M.2.2 a) 0 0 X d 13 15 L st M Q := G_getf rfl (by decide) rfl rfl rfl
theorem x13_15 : XX X d 13 (15, [l0, some (.int x)], st, M) Q = XX X d 13 (16, [l0, some (.int x)], .int x :: st, M) Q := H_ld rfl rfl rfl rfl rfl
theorem x13_16 : XX X d 13 (16, L, st, M) Q = XX X d 13 (17, L, .long (Int64.ofInt 0) :: st, M) Q := G_cst rfl rfl rfl rfl rfl
theorem x13_17 : XX X d 13 (17, L, v :: .int x :: .ref a :: st, M) Q = yw (M.2.2 a) a .lastore v x X d 13 18 L st M Q := G_ast rfl ⟨⟨rfl, rfl, rfl, by decide⟩, rfl, rfl⟩ rfl rfl rfl
theorem x13_18 (h : wide (some l0) = false) : XX X d 13 (18, [l0, some (.int (ii p))], st, M) Q = XX X d 13 (21, [l0, some (.int (ii (p + 1)))], st, M) Q := H_inc rfl (by decide) rfl rfl rfl (Or.inr h)
theorem x13_21 : XX X d 13 (21, L, st, M) Q = XX X d 13 (2, L, st, M) Q := H_jmp rfl (by decide) rfl
theorem x13_24 : XX X d 13 (24, L, [], M) Q = Q (.inl none) M := G_retv rfl (by decide) rfl
theorem e13 : CC X d 13 [.ref a] M Q = XX X d 13 (0, [some (.ref a), none], [], M) Q := H_ent rfl rfl
-- 14 X0_isNew (II)Z
theorem x14_0 : XX X d 14 (0, [l0, l1, some (.int x), l3, l4, l5], st, M) Q = XX X d 14 (1, [l0, l1, some (.int x), l3, l4, l5], .int x :: st, M) Q := H_ld rfl rfl rfl rfl rfl
theorem x14_1 (h : -2147483648 ≤ p ∧ p ≤ 2147483647) : XX X d 14 (1, L, .int (ii p) :: st, M) Q = bq (p < 0) X d 14 13 4 L st M Q := H_if rfl ⟨rfl, rfl, rfl, by decide⟩ rfl rfl rfl rfl (D_lt (b := 0) (by omega))
theorem x14_4 : XX X d 14 (4, [l0, l1, some (.int x), l3, l4, l5], st, M) Q = XX X d 14 (5, [l0, l1, some (.int x), l3, l4, l5], .int x :: st, M) Q := H_ld rfl rfl rfl rfl rfl
theorem x14_5 : XX X d 14 (5, [some (.ref a), l1, l2, l3, l4, l5], st, M) Q = XX X d 14 (6, [some (.ref a), l1, l2, l3, l4, l5], .ref a :: st, M) Q := H_ld rfl rfl rfl rfl rfl
theorem x14_5n : XX X d 14 (5, [some (.null), l1, l2, l3, l4, l5], st, M) Q = XX X d 14 (6, [some (.null), l1, l2, l3, l4, l5], .null :: st, M) Q := H_ld rfl rfl rfl rfl rfl
theorem x14_6 : XX X d 14 (6, L, .ref a :: st, M) Q = yg (M.2.2 a) 0 0 X d 14 9 L st M Q := G_getf rfl (by decide) rfl rfl rfl
theorem x14_9 : XX X d 14 (9, L, .ref a :: st, M) Q = yn (M.2.2 a) X d 14 10 L st M Q := H_alen rfl (by decide) rfl
theorem x14_10 (h : -2147483648 ≤ p ∧ p ≤ 2147483647 ∧ -2147483648 ≤ q ∧ q ≤ 2147483647) : XX X d 14 (10, L, .int (ii q) :: .int (ii p) :: st, M) Q = bq (p < q) X d 14 15 13 L st M Q := H_if2 rfl ⟨rfl, rfl, rfl, by decide⟩ rfl rfl rfl rfl (D_lt h)
theorem x14_13 : XX X d 14 (13, L, st, M) Q = XX X d 14 (14, L, .int (ii 0) :: st, M) Q := G_cst rfl rfl rfl rfl rfl
theorem x14_14 (h : p = 0 ∨ p = 1) : XX X d 14 (14, L, [.int (ii p)], M) Q = Q (.inl (some (.int (ii p)))) M := G_ret rfl ⟨⟨⟨rfl, rfl, rfl, by decide⟩, rfl, rfl⟩, rfl, rfl⟩ (bz_ok h)
theorem x14_15 : XX X d 14 (15, L, st, M) Q = XX X d 14 (16, L, .long (Int64.ofInt 1) :: st, M) Q := G_cst rfl rfl rfl rfl rfl
theorem x14_16 : XX X d 14 (16, [l0, some (.int x), l2, l3, l4, l5], st, M) Q = XX X d 14 (17, [l0, some (.int x), l2, l3, l4, l5], .int x :: st, M) Q := H_ld rfl rfl rfl rfl rfl
theorem x14_17 : XX X d 14 (17, L, .int x :: .long y :: st, M) Q = XX X d 14 (18, L, .long (y <<< (x.toInt64 &&& 63)) :: st, M) Q := G_sop rfl ⟨rfl, rfl, rfl, by decide⟩ rfl rfl
theorem x14_18 (h : wide (some l2) = false) : XX X d 14 (18, [l0, l1, l2, l3, l4, l5], .long y :: st, M) Q = XX X d 14 (19, [l0, l1, l2, some (.long y), none, l5], st, M) Q := H_st2 rfl rfl rfl rfl rfl rfl rfl rfl (Or.inr h)
theorem x14_19 : XX X d 14 (19, [some (.ref a), l1, l2, l3, l4, l5], st, M) Q = XX X d 14 (20, [some (.ref a), l1, l2, l3, l4, l5], .ref a :: st, M) Q := H_ld rfl rfl rfl rfl rfl
theorem x14_19n : XX X d 14 (19, [some (.null), l1, l2, l3, l4, l5], st, M) Q = XX X d 14 (20, [some (.null), l1, l2, l3, l4, l5], .null :: st, M) Q := H_ld rfl rfl rfl rfl rfl
theorem x14_20 : XX X d 14 (20, L, .ref a :: st, M) Q = yg (M.2.2 a) 0 0 X d 14 23 L st M Q := G_getf rfl (by decide) rfl rfl rfl
theorem x14_23 : XX X d 14 (23, [l0, l1, some (.int x), l3, l4, l5], st, M) Q = XX X d 14 (24, [l0, l1, some (.int x), l3, l4, l5], .int x :: st, M) Q := H_ld rfl rfl rfl rfl rfl
theorem x14_24 : XX X d 14 (24, L, .int x :: .ref a :: st, M) Q = ya (M.2.2 a) .laload x X d 14 25 L st M Q := G_ald rfl ⟨⟨rfl, rfl, rfl, by decide⟩, rfl, rfl⟩ rfl rfl
theorem x14_25 : XX X d 14 (25, [l0, l1, l2, some (.long y), l4, l5], st, M) Q = XX X d 14 (26, [l0, l1, l2, some (.long y), l4, l5], .long y :: st, M) Q := H_ld rfl rfl rfl rfl rfl
theorem x14_26 : XX X d 14 (26, L, .long y2 :: .long y :: st, M) Q = XX X d 14 (27, L, .long (y &&& y2) :: st, M) Q := G_sop rfl ⟨rfl, rfl, rfl, by decide⟩ rfl rfl
theorem x14_27 : XX X d 14 (27, L, st, M) Q = XX X d 14 (28, L, .long (Int64.ofInt 0) :: st, M) Q := G_cst rfl rfl rfl rfl rfl
theorem x14_28 : XX X d 14 (28, L, .long y2 :: .long y :: st, M) Q = XX X d 14 (29, L, .int (lg_cmp y y2) :: st, M) Q := G_sop rfl ⟨rfl, rfl, rfl, by decide⟩ rfl rfl
theorem x14_29 (h : -2147483648 ≤ p ∧ p ≤ 2147483647) : XX X d 14 (29, L, .int (ii p) :: st, M) Q = bq (p ≠ 0) X d 14 36 32 L st M Q := H_if rfl ⟨rfl, rfl, rfl, by decide⟩ rfl rfl rfl rfl (D_ne (b := 0) (by omega))
theorem x14_29b : XX X d 14 (29, L, .int (ii (b2i b)) :: st, M) Q = bq (b = true) X d 14 36 32 L st M Q := (x14_29 (b2i_r b)).trans (by rw [b2i_n0])
theorem x14_32 : XX X d 14 (32, L, st, M) Q = XX X d 14 (33, L, .int (ii 1) :: st, M) Q := G_cst rfl rfl rfl rfl rfl
theorem x14_33 : XX X d 14 (33, L, st, M) Q = XX X d 14 (37, L, st, M) Q := H_jmp rfl (by decide) rfl
theorem x14_36 : XX X d 14 (36, L, st, M) Q = XX X d 14 (37, L, .int (ii 0) :: st, M) Q := G_cst rfl rfl rfl rfl rfl
theorem x14_37 (h : wide (some l4) = false) : XX X d 14 (37, [l0, l1, l2, l3, l4, l5], .int x :: st, M) Q = XX X d 14 (39, [l0, l1, l2, l3, l4, some (.int x)], st, M) Q := H_st rfl rfl rfl rfl rfl rfl rfl rfl (Or.inr h)
theorem x14_39 : XX X d 14 (39, [some (.ref a), l1, l2, l3, l4, l5], st, M) Q = XX X d 14 (40, [some (.ref a), l1, l2, l3, l4, l5], .ref a :: st, M) Q := H_ld rfl rfl rfl rfl rfl
theorem x14_39n : XX X d 14 (39, [some (.null), l1, l2, l3, l4, l5], st, M) Q = XX X d 14 (40, [some (.null), l1, l2, l3, l4, l5], .null :: st, M) Q := H_ld rfl rfl rfl rfl rfl
theorem x14_40 : XX X d 14 (40, L, .ref a :: st, M) Q = yg (M.2.2 a) 0 0 X d 14 43 L st M Q := G_getf rfl (by decide) rfl rfl rfl
theorem x14_43 : XX X d 14 (43, [l0, l1, some (.int x), l3, l4, l5], st, M) Q = XX X d 14 (44, [l0, l1, some (.int x), l3, l4, l5], .int x :: st, M) Q := H_ld rfl rfl rfl rfl rfl
theorem x14_44 : XX X d 14 (44, [some (.ref a), l1, l2, l3, l4, l5], st, M) Q = XX X d 14 (45, [some (.ref a), l1, l2, l3, l4, l5], .ref a :: st, M) Q := H_ld rfl rfl rfl rfl rfl
theorem x14_44n : XX X d 14 (44, [some (.null), l1, l2, l3, l4, l5], st, M) Q = XX X d 14 (45, [some (.null), l1, l2, l3, l4, l5], .null :: st, M) Q := H_ld rfl rfl rfl rfl rfl
theorem x14_45 : XX X d 14 (45, L, .ref a :: st, M) Q = yg (M.2.2 a) 0 0 X d 14 48 L st M Q := G_getf rfl (by decide) rfl rfl rfl
theorem x14_48 : XX X d 14 (48, [l0, l1, some (.int x), l3, l4, l5], st, M) Q = XX X d 14 (49, [l0, l1, some (.int x), l3, l4, l5], .int x :: st, M) Q := H_ld rfl rfl rfl rfl rfl
theorem x14_49 : XX X d 14 (49, L, .int x :: .ref a :: st, M) Q = ya (M.2.2 a) .laload x X d 14 50 L st M Q := G_ald rfl ⟨⟨rfl, rfl, rfl, by decide⟩, rfl, rfl⟩ rfl rfl
theorem x14_50 : XX X d 14 (50, [l0, l1, l2, some (.long y), l4, l5], st, M) Q = XX X d 14 (51, [l0, l1, l2, some (.long y), l4, l5], .long y :: st, M) Q := H_ld rfl rfl rfl rfl rfl
theorem x14_51 : XX X d 14 (51, L, .long y2 :: .long y :: st, M) Q = XX X d 14 (52, L, .long (y ||| y2) :: st, M) Q := G_sop rfl ⟨rfl, rfl, rfl, by decide⟩ rfl rfl
theorem x14_52 : XX X d 14 (52, L, v :: .int x :: .ref a :: st, M) Q = yw (M.2.2 a) a .lastore v x X d 14 53 L st M Q := G_ast rfl ⟨⟨rfl, rfl, rfl, by decide⟩, rfl, rfl⟩ rfl rfl rfl
theorem x14_53 : XX X d 14 (53, [l0, l1, l2, l3, l4, some (.int x)], st, M) Q = XX X d 14 (55, [l0, l1, l2, l3, l4, some (.int x)], .int x :: st, M) Q := H_ld rfl rfl rfl rfl rfl
theorem x14_55 (h : p = 0 ∨ p = 1) : XX X d 14 (55, L, [.int (ii p)], M) Q = Q (.inl (some (.int (ii p)))) M := G_ret rfl ⟨⟨⟨rfl, rfl, rfl, by decide⟩, rfl, rfl⟩, rfl, rfl⟩ (bz_ok h)
theorem e14 : CC X d 14 [.ref a, .int x, .int x2] M Q = XX X d 14 (0, [some (.ref a), some (.int x), some (.int x2), none, none, none], [], M) Q := H_ent rfl rfl
-- 70 X7_init ()V
theorem x70_0 : XX X d 70 (0, [some (.ref a)], st, M) Q = XX X d 70 (1, [some (.ref a)], .ref a :: st, M) Q := H_ld rfl rfl rfl rfl rfl
theorem x70_0n : XX X d 70 (0, [some (.null)], st, M) Q = XX X d 70 (1, [some (.null)], .null :: st, M) Q := H_ld rfl rfl rfl rfl rfl
theorem x70_1 (hs : stB st = true) : XX X d 70 (1, L, .ref a :: st, M) Q = XX X d 70 (4, L, st, M) Q := H_obj rfl (by decide) rfl rfl rfl hs
theorem x70_4 : XX X d 70 (4, [some (.ref a)], st, M) Q = XX X d 70 (5, [some (.ref a)], .ref a :: st, M) Q := H_ld rfl rfl rfl rfl rfl
theorem x70_4n : XX X d 70 (4, [some (.null)], st, M) Q = XX X d 70 (5, [some (.null)], .null :: st, M) Q := H_ld rfl rfl rfl rfl rfl
theorem x70_5 : XX X d 70 (5, L, st, M) Q = XX X d 70 (8, L, .ref M.1 :: st, mnew M 2 (.inr (6, [.null, .int (ii 0)]))) Q := H_new rfl (by decide) rfl rfl (by decide) rfl rfl
theorem x70_8 (h : v.category = 1) : XX X d 70 (8, L, v :: st, M) Q = XX X d 70 (9, L, v :: v :: st, M) Q := G_sop rfl ⟨rfl, rfl, rfl, by decide⟩ (if_pos h) rfl
theorem x70_9 : XX X d 70 (9, L, st, M) Q = XX X d 70 (11, L, .int (ii 64) :: st, M) Q := G_cst rfl rfl rfl rfl rfl
theorem x70_11 {v1 : Value} (hd : 0 < d) (hs : stB st = true) : XX X d 70 (11, L, v1 :: .ref a :: st, M) Q = CC X (d - 1) 57 [.ref a, v1] M (XC X d 70 11 14 L st Q) := H_spec [v1] rfl (by decide) rfl rfl (by decide) rfl rfl hd hs
theorem x70_14 : XX X d 70 (14, L, v :: .ref a :: st, M) Q = yp (M.2.2 a) a 7 0 v X d 70 17 L st M Q := G_putf rfl (by decide) rfl rfl rfl
theorem x70_17 : XX X d 70 (17, [some (.ref a)], st, M) Q = XX X d 70 (18, [some (.ref a)], .ref a :: st, M) Q := H_ld rfl rfl rfl rfl rfl
theorem x70_17n : XX X d 70 (17, [some (.null)], st, M) Q = XX X d 70 (18, [some (.null)], .null :: st, M) Q := H_ld rfl rfl rfl rfl rfl
theorem x70_18 : XX X d 70 (18, L, st, M) Q = XX X d 70 (21, L, .ref M.1 :: st, mnew M 2 (.inr (6, [.null, .int (ii 0)]))) Q := H_new rfl (by decide) rfl rfl (by decide) rfl rfl
theorem x70_21 (h : v.category = 1) : XX X d 70 (21, L, v :: st, M) Q = XX X d 70 (22, L, v :: v :: st, M) Q := G_sop rfl ⟨rfl, rfl, rfl, by decide⟩ (if_pos h) rfl
theorem x70_22 : XX X d 70 (22, L, st, M) Q = XX X d 70 (24, L, .int (ii 64) :: st, M) Q := G_cst rfl rfl rfl rfl rfl
theorem x70_24 {v1 : Value} (hd : 0 < d) (hs : stB st = true) : XX X d 70 (24, L, v1 :: .ref a :: st, M) Q = CC X (d - 1) 57 [.ref a, v1] M (XC X d 70 24 27 L st Q) := H_spec [v1] rfl (by decide) rfl rfl (by decide) rfl rfl hd hs
theorem x70_27 : XX X d 70 (27, L, v :: .ref a :: st, M) Q = yp (M.2.2 a) a 7 1 v X d 70 30 L st M Q := G_putf rfl (by decide) rfl rfl rfl
theorem x70_30 : XX X d 70 (30, [some (.ref a)], st, M) Q = XX X d 70 (31, [some (.ref a)], .ref a :: st, M) Q := H_ld rfl rfl rfl rfl rfl
theorem x70_30n : XX X d 70 (30, [some (.null)], st, M) Q = XX X d 70 (31, [some (.null)], .null :: st, M) Q := H_ld rfl rfl rfl rfl rfl
theorem x70_31 : XX X d 70 (31, L, st, M) Q = XX X d 70 (34, L, .ref M.1 :: st, mnew M 2 (.inr (6, [.null, .int (ii 0)]))) Q := H_new rfl (by decide) rfl rfl (by decide) rfl rfl
theorem x70_34 (h : v.category = 1) : XX X d 70 (34, L, v :: st, M) Q = XX X d 70 (35, L, v :: v :: st, M) Q := G_sop rfl ⟨rfl, rfl, rfl, by decide⟩ (if_pos h) rfl
theorem x70_35 : XX X d 70 (35, L, st, M) Q = XX X d 70 (38, L, .int (ii 128) :: st, M) Q := G_cst rfl rfl rfl rfl rfl
theorem x70_38 {v1 : Value} (hd : 0 < d) (hs : stB st = true) : XX X d 70 (38, L, v1 :: .ref a :: st, M) Q = CC X (d - 1) 57 [.ref a, v1] M (XC X d 70 38 41 L st Q) := H_spec [v1] rfl (by decide) rfl rfl (by decide) rfl rfl hd hs
theorem x70_41 : XX X d 70 (41, L, v :: .ref a :: st, M) Q = yp (M.2.2 a) a 7 2 v X d 70 44 L st M Q := G_putf rfl (by decide) rfl rfl rfl
theorem x70_44 : XX X d 70 (44, [some (.ref a)], st, M) Q = XX X d 70 (45, [some (.ref a)], .ref a :: st, M) Q := H_ld rfl rfl rfl rfl rfl
theorem x70_44n : XX X d 70 (44, [some (.null)], st, M) Q = XX X d 70 (45, [some (.null)], .null :: st, M) Q := H_ld rfl rfl rfl rfl rfl
theorem x70_45 : XX X d 70 (45, L, st, M) Q = XX X d 70 (46, L, .long (Int64.ofInt 0) :: st, M) Q := G_cst rfl rfl rfl rfl rfl
theorem x70_46 : XX X d 70 (46, L, v :: .ref a :: st, M) Q = yp (M.2.2 a) a 7 3 v X d 70 49 L st M Q := G_putf rfl (by decide) rfl rfl rfl
theorem x70_49 : XX X d 70 (49, [some (.ref a)], st, M) Q = XX X d 70 (50, [some (.ref a)], .ref a :: st, M) Q := H_ld rfl rfl rfl rfl rfl
theorem x70_49n : XX X d 70 (49, [some (.null)], st, M) Q = XX X d 70 (50, [some (.null)], .null :: st, M) Q := H_ld rfl rfl rfl rfl rfl
theorem x70_50 : XX X d 70 (50, L, st, M) Q = XX X d 70 (51, L, .int (ii (-1)) :: st, M) Q := G_cst rfl rfl rfl rfl rfl
theorem x70_51 : XX X d 70 (51, L, v :: .ref a :: st, M) Q = yp (M.2.2 a) a 7 4 v X d 70 54 L st M Q := G_putf rfl (by decide) rfl rfl rfl
theorem x70_54 : XX X d 70 (54, [some (.ref a)], st, M) Q = XX X d 70 (55, [some (.ref a)], .ref a :: st, M) Q := H_ld rfl rfl rfl rfl rfl
theorem x70_54n : XX X d 70 (54, [some (.null)], st, M) Q = XX X d 70 (55, [some (.null)], .null :: st, M) Q := H_ld rfl rfl rfl rfl rfl
theorem x70_55 : XX X d 70 (55, L, st, M) Q = XX X d 70 (56, L, .int (ii (-1)) :: st, M) Q := G_cst rfl rfl rfl rfl rfl
theorem x70_56 : XX X d 70 (56, L, v :: .ref a :: st, M) Q = yp (M.2.2 a) a 7 5 v X d 70 59 L st M Q := G_putf rfl (by decide) rfl rfl rfl
theorem x70_59 : XX X d 70 (59, L, [], M) Q = Q (.inl none) M := G_retv rfl (by decide) rfl
theorem e70 : CC X d 70 [.ref a] M Q = XX X d 70 (0, [some (.ref a)], [], M) Q := H_ent rfl rfl
-- 71 X7_start ()I
theorem x71_0 : XX X d 71 (0, [some (.ref a)], st, M) Q = XX X d 71 (1, [some (.ref a)], .ref a :: st, M) Q := H_ld rfl rfl rfl rfl rfl
theorem x71_0n : XX X d 71 (0, [some (.null)], st, M) Q = XX X d 71 (1, [some (.null)], .null :: st, M) Q := H_ld rfl rfl rfl rfl rfl
theorem x71_1 : XX X d 71 (1, L, .ref a :: st, M) Q = yg (M.2.2 a) 7 4 X d 71 4 L st M Q := G_getf rfl (by decide) rfl rfl rfl
theorem x71_4 : XX X d 71 (4, L, [.int (ii p)], M) Q = Q (.inl (some (.int (ii p)))) M := G_ret rfl ⟨⟨⟨rfl, rfl, rfl, by decide⟩, rfl, rfl⟩, rfl, rfl⟩ rfl
theorem e71 : CC X d 71 [.ref a] M Q = XX X d 71 (0, [some (.ref a)], [], M) Q := H_ent rfl rfl
-- 72 X7_end ()I
theorem x72_0 : XX X d 72 (0, [some (.ref a)], st, M) Q = XX X d 72 (1, [some (.ref a)], .ref a :: st, M) Q := H_ld rfl rfl rfl rfl rfl
theorem x72_0n : XX X d 72 (0, [some (.null)], st, M) Q = XX X d 72 (1, [some (.null)], .null :: st, M) Q := H_ld rfl rfl rfl rfl rfl
theorem x72_1 : XX X d 72 (1, L, .ref a :: st, M) Q = yg (M.2.2 a) 7 5 X d 72 4 L st M Q := G_getf rfl (by decide) rfl rfl rfl
theorem x72_4 : XX X d 72 (4, L, [.int (ii p)], M) Q = Q (.inl (some (.int (ii p)))) M := G_ret rfl ⟨⟨⟨rfl, rfl, rfl, by decide⟩, rfl, rfl⟩, rfl, rfl⟩ rfl
theorem e72 : CC X d 72 [.ref a] M Q = XX X d 72 (0, [some (.ref a)], [], M) Q := H_ent rfl rfl
-- 73 X7_search (LRegexTracer$Pattern;LRegexTracer$Row;I)Z
theorem x73_0 : XX X d 73 (0, [some (.ref a), l1, l2, l3, l4], st, M) Q = XX X d 73 (1, [some (.ref a), l1, l2, l3, l4], .ref a :: st, M) Q := H_ld rfl rfl rfl rfl rfl
theorem x73_0n : XX X d 73 (0, [some (.null), l1, l2, l3, l4], st, M) Q = XX X d 73 (1, [some (.null), l1, l2, l3, l4], .null :: st, M) Q := H_ld rfl rfl rfl rfl rfl
theorem x73_1 (hd : 0 < d) (hs : stB st = true) : XX X d 73 (1, L, .ref a :: st, M) Q = (mcl M a = some 7 ∧ CC X (d - 1) 75 [.ref a] M (XC X d 73 1 4 L st Q)) := H_virt [] rfl (by decide) rfl rfl rfl rfl rfl hd hs
theorem x73_4 : XX X d 73 (4, [l0, l1, l2, some (.int x), l4], st, M) Q = XX X d 73 (5, [l0, l1, l2, some (.int x), l4], .int x :: st, M) Q := H_ld rfl rfl rfl rfl rfl
theorem x73_5 (h : wide (some l3) = false) : XX X d 73 (5, [l0, l1, l2, l3, l4], .int x :: st, M) Q = XX X d 73 (7, [l0, l1, l2, l3, some (.int x)], st, M) Q := H_st rfl rfl rfl rfl rfl rfl rfl rfl (Or.inr h)
theorem x73_7 : XX X d 73 (7, [l0, l1, l2, l3, some (.int x)], st, M) Q = XX X d 73 (9, [l0, l1, l2, l3, some (.int x)], .int x :: st, M) Q := H_ld rfl rfl rfl rfl rfl
theorem x73_9 : XX X d 73 (9, [l0, l1, some (.ref a), l3, l4], st, M) Q = XX X d 73 (10, [l0, l1, some (.ref a), l3, l4], .ref a :: st, M) Q := H_ld rfl rfl rfl rfl rfl
theorem x73_9n : XX X d 73 (9, [l0, l1, some (.null), l3, l4], st, M) Q = XX X d 73 (10, [l0, l1, some (.null), l3, l4], .null :: st, M) Q := H_ld rfl rfl rfl rfl rfl
theorem x73_10 (hd : 0 < d) (hs : stB st = true) : XX X d 73 (10, L, .ref a :: st, M) Q = (mcl M a = some 6 ∧ CC X (d - 1) 58 [.ref a] M (XC X d 73 10 13 L st Q)) := H_virt [] rfl (by decide) rfl rfl rfl rfl rfl hd hs
theorem x73_13 (h : -2147483648 ≤ p ∧ p ≤ 2147483647 ∧ -2147483648 ≤ q ∧ q ≤ 2147483647) : XX X d 73 (13, L, .int (ii q) :: .int (ii p) :: st, M) Q = bq (q < p) X d 73 47 16 L st M Q := H_if2 rfl ⟨rfl, rfl, rfl, by decide⟩ rfl rfl rfl rfl (D_gt h)
theorem x73_16 : XX X d 73 (16, [some (.ref a), l1, l2, l3, l4], st, M) Q = XX X d 73 (17, [some (.ref a), l1, l2, l3, l4], .ref a :: st, M) Q := H_ld rfl rfl rfl rfl rfl
theorem x73_16n : XX X d 73 (16, [some (.null), l1, l2, l3, l4], st, M) Q = XX X d 73 (17, [some (.null), l1, l2, l3, l4], .null :: st, M) Q := H_ld rfl rfl rfl rfl rfl
theorem x73_17 : XX X d 73 (17, L, .ref a :: st, M) Q = yg (M.2.2 a) 7 5 X d 73 20 L st M Q := G_getf rfl (by decide) rfl rfl rfl
theorem x73_20 : XX X d 73 (20, L, st, M) Q = XX X d 73 (21, L, .int (ii (-1)) :: st, M) Q := G_cst rfl rfl rfl rfl rfl
theorem x73_21 (h : -2147483648 ≤ p ∧ p ≤ 2147483647 ∧ -2147483648 ≤ q ∧ q ≤ 2147483647) : XX X d 73 (21, L, .int (ii q) :: .int (ii p) :: st, M) Q = bq (p ≠ q) X d 73 32 24 L st M Q := H_if2 rfl ⟨rfl, rfl, rfl, by decide⟩ rfl rfl rfl rfl (D_ne h)
theorem x73_24 : XX X d 73 (24, [some (.ref a), l1, l2, l3, l4], st, M) Q = XX X d 73 (25, [some (.ref a), l1, l2, l3, l4], .ref a :: st, M) Q := H_ld rfl rfl rfl rfl rfl
theorem x73_24n : XX X d 73 (24, [some (.null), l1, l2, l3, l4], st, M) Q = XX X d 73 (25, [some (.null), l1, l2, l3, l4], .null :: st, M) Q := H_ld rfl rfl rfl rfl rfl
theorem x73_25 : XX X d 73 (25, [l0, some (.ref a), l2, l3, l4], st, M) Q = XX X d 73 (26, [l0, some (.ref a), l2, l3, l4], .ref a :: st, M) Q := H_ld rfl rfl rfl rfl rfl
theorem x73_25n : XX X d 73 (25, [l0, some (.null), l2, l3, l4], st, M) Q = XX X d 73 (26, [l0, some (.null), l2, l3, l4], .null :: st, M) Q := H_ld rfl rfl rfl rfl rfl
theorem x73_26 : XX X d 73 (26, L, st, M) Q = XX X d 73 (27, L, .int (ii 0) :: st, M) Q := G_cst rfl rfl rfl rfl rfl
theorem x73_27 : XX X d 73 (27, [l0, l1, l2, l3, some (.int x)], st, M) Q = XX X d 73 (29, [l0, l1, l2, l3, some (.int x)], .int x :: st, M) Q := H_ld rfl rfl rfl rfl rfl
theorem x73_29 {v1 v2 v3 : Value} (hd : 0 < d) (hs : stB st = true) : XX X d 73 (29, L, v3 :: v2 :: v1 :: .ref a :: st, M) Q = (mcl M a = some 7 ∧ CC X (d - 1) 77 [.ref a, v1, v2, v3] M (XC X d 73 29 32 L st Q)) := H_virt [v1, v2, v3] rfl (by decide) rfl rfl rfl rfl rfl hd hs
theorem x73_32 : XX X d 73 (32, [some (.ref a), l1, l2, l3, l4], st, M) Q = XX X d 73 (33, [some (.ref a), l1, l2, l3, l4], .ref a :: st, M) Q := H_ld rfl rfl rfl rfl rfl
theorem x73_32n : XX X d 73 (32, [some (.null), l1, l2, l3, l4], st, M) Q = XX X d 73 (33, [some (.null), l1, l2, l3, l4], .null :: st, M) Q := H_ld rfl rfl rfl rfl rfl
theorem x73_33 : XX X d 73 (33, [l0, some (.ref a), l2, l3, l4], st, M) Q = XX X d 73 (34, [l0, some (.ref a), l2, l3, l4], .ref a :: st, M) Q := H_ld rfl rfl rfl rfl rfl
theorem x73_33n : XX X d 73 (33, [l0, some (.null), l2, l3, l4], st, M) Q = XX X d 73 (34, [l0, some (.null), l2, l3, l4], .null :: st, M) Q := H_ld rfl rfl rfl rfl rfl
theorem x73_34 : XX X d 73 (34, [l0, l1, some (.ref a), l3, l4], st, M) Q = XX X d 73 (35, [l0, l1, some (.ref a), l3, l4], .ref a :: st, M) Q := H_ld rfl rfl rfl rfl rfl
theorem x73_34n : XX X d 73 (34, [l0, l1, some (.null), l3, l4], st, M) Q = XX X d 73 (35, [l0, l1, some (.null), l3, l4], .null :: st, M) Q := H_ld rfl rfl rfl rfl rfl
theorem x73_35 : XX X d 73 (35, [l0, l1, l2, l3, some (.int x)], st, M) Q = XX X d 73 (37, [l0, l1, l2, l3, some (.int x)], .int x :: st, M) Q := H_ld rfl rfl rfl rfl rfl
theorem x73_37 : XX X d 73 (37, L, st, M) Q = XX X d 73 (38, L, .int (ii 0) :: st, M) Q := G_cst rfl rfl rfl rfl rfl
theorem x73_38 {v1 v2 v3 v4 : Value} (hd : 0 < d) (hs : stB st = true) : XX X d 73 (38, L, v4 :: v3 :: v2 :: v1 :: .ref a :: st, M) Q = (mcl M a = some 7 ∧ CC X (d - 1) 76 [.ref a, v1, v2, v3, v4] M (XC X d 73 38 41 L st Q)) := H_virt [v1, v2, v3, v4] rfl (by decide) rfl rfl rfl rfl rfl hd hs
theorem x73_41 (h : wide (some l3) = false) : XX X d 73 (41, [l0, l1, l2, l3, some (.int (ii p))], st, M) Q = XX X d 73 (44, [l0, l1, l2, l3, some (.int (ii (p + 1)))], st, M) Q := H_inc rfl (by decide) rfl rfl rfl (Or.inr h)
theorem x73_44 : XX X d 73 (44, L, st, M) Q = XX X d 73 (7, L, st, M) Q := H_jmp rfl (by decide) rfl
theorem x73_47 : XX X d 73 (47, [some (.ref a), l1, l2, l3, l4], st, M) Q = XX X d 73 (48, [some (.ref a), l1, l2, l3, l4], .ref a :: st, M) Q := H_ld rfl rfl rfl rfl rfl
theorem x73_47n : XX X d 73 (47, [some (.null), l1, l2, l3, l4], st, M) Q = XX X d 73 (48, [some (.null), l1, l2, l3, l4], .null :: st, M) Q := H_ld rfl rfl rfl rfl rfl
theorem x73_48 : XX X d 73 (48, L, .ref a :: st, M) Q = yg (M.2.2 a) 7 5 X d 73 51 L st M Q := G_getf rfl (by decide) rfl rfl rfl
theorem x73_51 : XX X d 73 (51, L, st, M) Q = XX X d 73 (52, L, .int (ii (-1)) :: st, M) Q := G_cst rfl rfl rfl rfl rfl
theorem x73_52 (h : -2147483648 ≤ p ∧ p ≤ 2147483647 ∧ -2147483648 ≤ q ∧ q ≤ 2147483647) : XX X d 73 (52, L, .int (ii q) :: .int (ii p) :: st, M) Q = bq (p = q) X d 73 59 55 L st M Q := H_if2 rfl ⟨rfl, rfl, rfl, by decide⟩ rfl rfl rfl rfl (D_eq h)
theorem x73_55 : XX X d 73 (55, L, st, M) Q = XX X d 73 (56, L, .int (ii 1) :: st, M) Q := G_cst rfl rfl rfl rfl rfl
theorem x73_56 : XX X d 73 (56, L, st, M) Q = XX X d 73 (60, L, st, M) Q := H_jmp rfl (by decide) rfl
theorem x73_59 : XX X d 73 (59, L, st, M) Q = XX X d 73 (60, L, .int (ii 0) :: st, M) Q := G_cst rfl rfl rfl rfl rfl
theorem x73_60 (h : p = 0 ∨ p = 1) : XX X d 73 (60, L, [.int (ii p)], M) Q = Q (.inl (some (.int (ii p)))) M := G_ret rfl ⟨⟨⟨rfl, rfl, rfl, by decide⟩, rfl, rfl⟩, rfl, rfl⟩ (bz_ok h)
theorem e73 : CC X d 73 [.ref a, .ref a1, .ref a2, .int x] M Q = XX X d 73 (0, [some (.ref a), some (.ref a1), some (.ref a2), some (.int x), none], [], M) Q := H_ent rfl rfl
-- 74 X7_spansText (LRegexTracer$Pattern;LRegexTracer$Row;)Z
theorem x74_0 : XX X d 74 (0, [some (.ref a), l1, l2, l3], st, M) Q = XX X d 74 (1, [some (.ref a), l1, l2, l3], .ref a :: st, M) Q := H_ld rfl rfl rfl rfl rfl
theorem x74_0n : XX X d 74 (0, [some (.null), l1, l2, l3], st, M) Q = XX X d 74 (1, [some (.null), l1, l2, l3], .null :: st, M) Q := H_ld rfl rfl rfl rfl rfl
theorem x74_1 (hd : 0 < d) (hs : stB st = true) : XX X d 74 (1, L, .ref a :: st, M) Q = (mcl M a = some 7 ∧ CC X (d - 1) 75 [.ref a] M (XC X d 74 1 4 L st Q)) := H_virt [] rfl (by decide) rfl rfl rfl rfl rfl hd hs
theorem x74_4 : XX X d 74 (4, [some (.ref a), l1, l2, l3], st, M) Q = XX X d 74 (5, [some (.ref a), l1, l2, l3], .ref a :: st, M) Q := H_ld rfl rfl rfl rfl rfl
theorem x74_4n : XX X d 74 (4, [some (.null), l1, l2, l3], st, M) Q = XX X d 74 (5, [some (.null), l1, l2, l3], .null :: st, M) Q := H_ld rfl rfl rfl rfl rfl
theorem x74_5 : XX X d 74 (5, [l0, some (.ref a), l2, l3], st, M) Q = XX X d 74 (6, [l0, some (.ref a), l2, l3], .ref a :: st, M) Q := H_ld rfl rfl rfl rfl rfl
theorem x74_5n : XX X d 74 (5, [l0, some (.null), l2, l3], st, M) Q = XX X d 74 (6, [l0, some (.null), l2, l3], .null :: st, M) Q := H_ld rfl rfl rfl rfl rfl
theorem x74_6 : XX X d 74 (6, L, st, M) Q = XX X d 74 (7, L, .int (ii 0) :: st, M) Q := G_cst rfl rfl rfl rfl rfl
theorem x74_7 : XX X d 74 (7, L, st, M) Q = XX X d 74 (8, L, .int (ii 0) :: st, M) Q := G_cst rfl rfl rfl rfl rfl
theorem x74_8 {v1 v2 v3 : Value} (hd : 0 < d) (hs : stB st = true) : XX X d 74 (8, L, v3 :: v2 :: v1 :: .ref a :: st, M) Q = (mcl M a = some 7 ∧ CC X (d - 1) 77 [.ref a, v1, v2, v3] M (XC X d 74 8 11 L st Q)) := H_virt [v1, v2, v3] rfl (by decide) rfl rfl rfl rfl rfl hd hs
theorem x74_11 : XX X d 74 (11, L, st, M) Q = XX X d 74 (12, L, .int (ii 0) :: st, M) Q := G_cst rfl rfl rfl rfl rfl
theorem x74_12 (h : wide (some l2) = false) : XX X d 74 (12, [l0, l1, l2, l3], .int x :: st, M) Q = XX X d 74 (13, [l0, l1, l2, some (.int x)], st, M) Q := H_st rfl rfl rfl rfl rfl rfl rfl rfl (Or.inr h)
theorem x74_13 : XX X d 74 (13, [l0, l1, l2, some (.int x)], st, M) Q = XX X d 74 (14, [l0, l1, l2, some (.int x)], .int x :: st, M) Q := H_ld rfl rfl rfl rfl rfl
theorem x74_14 : XX X d 74 (14, [l0, l1, some (.ref a), l3], st, M) Q = XX X d 74 (15, [l0, l1, some (.ref a), l3], .ref a :: st, M) Q := H_ld rfl rfl rfl rfl rfl
theorem x74_14n : XX X d 74 (14, [l0, l1, some (.null), l3], st, M) Q = XX X d 74 (15, [l0, l1, some (.null), l3], .null :: st, M) Q := H_ld rfl rfl rfl rfl rfl
theorem x74_15 (hd : 0 < d) (hs : stB st = true) : XX X d 74 (15, L, .ref a :: st, M) Q = (mcl M a = some 6 ∧ CC X (d - 1) 58 [.ref a] M (XC X d 74 15 18 L st Q)) := H_virt [] rfl (by decide) rfl rfl rfl rfl rfl hd hs
theorem x74_18 (h : -2147483648 ≤ p ∧ p ≤ 2147483647 ∧ -2147483648 ≤ q ∧ q ≤ 2147483647) : XX X d 74 (18, L, .int (ii q) :: .int (ii p) :: st, M) Q = bq (q < p) X d 74 35 21 L st M Q := H_if2 rfl ⟨rfl, rfl, rfl, by decide⟩ rfl rfl rfl rfl (D_gt h)
theorem x74_21 : XX X d 74 (21, [some (.ref a), l1, l2, l3], st, M) Q = XX X d 74 (22, [some (.ref a), l1, l2, l3], .ref a :: st, M) Q := H_ld rfl rfl rfl rfl rfl
theorem x74_21n : XX X d 74 (21, [some (.null), l1, l2, l3], st, M) Q = XX X d 74 (22, [some (.null), l1, l2, l3], .null :: st, M) Q := H_ld rfl rfl rfl rfl rfl
theorem x74_22 : XX X d 74 (22, [l0, some (.ref a), l2, l3], st, M) Q = XX X d 74 (23, [l0, some (.ref a), l2, l3], .ref a :: st, M) Q := H_ld rfl rfl rfl rfl rfl
theorem x74_22n : XX X d 74 (22, [l0, some (.null), l2, l3], st, M) Q = XX X d 74 (23, [l0, some (.null), l2, l3], .null :: st, M) Q := H_ld rfl rfl rfl rfl rfl
theorem x74_23 : XX X d 74 (23, [l0, l1, some (.ref a), l3], st, M) Q = XX X d 74 (24, [l0, l1, some (.ref a), l3], .ref a :: st, M) Q := H_ld rfl rfl rfl rfl rfl
theorem x74_23n : XX X d 74 (23, [l0, l1, some (.null), l3], st, M) Q = XX X d 74 (24, [l0, l1, some (.null), l3], .null :: st, M) Q := H_ld rfl rfl rfl rfl rfl
theorem x74_24 : XX X d 74 (24, [l0, l1, l2, some (.int x)], st, M) Q = XX X d 74 (25, [l0, l1, l2, some (.int x)], .int x :: st, M) Q := H_ld rfl rfl rfl rfl rfl
theorem x74_25 : XX X d 74 (25, L, st, M) Q = XX X d 74 (26, L, .int (ii 1) :: st, M) Q := G_cst rfl rfl rfl rfl rfl
theorem x74_26 {v1 v2 v3 v4 : Value} (hd : 0 < d) (hs : stB st = true) : XX X d 74 (26, L, v4 :: v3 :: v2 :: v1 :: .ref a :: st, M) Q = (mcl M a = some 7 ∧ CC X (d - 1) 76 [.ref a, v1, v2, v3, v4] M (XC X d 74 26 29 L st Q)) := H_virt [v1, v2, v3, v4] rfl (by decide) rfl rfl rfl rfl rfl hd hs
theorem x74_29 (h : wide (some l2) = false) : XX X d 74 (29, [l0, l1, l2, some (.int (ii p))], st, M) Q = XX X d 74 (32, [l0, l1, l2, some (.int (ii (p + 1)))], st, M) Q := H_inc rfl (by decide) rfl rfl rfl (Or.inr h)
theorem x74_32 : XX X d 74 (32, L, st, M) Q = XX X d 74 (13, L, st, M) Q := H_jmp rfl (by decide) rfl
theorem x74_35 : XX X d 74 (35, [some (.ref a), l1, l2, l3], st, M) Q = XX X d 74 (36, [some (.ref a), l1, l2, l3], .ref a :: st, M) Q := H_ld rfl rfl rfl rfl rfl
theorem x74_35n : XX X d 74 (35, [some (.null), l1, l2, l3], st, M) Q = XX X d 74 (36, [some (.null), l1, l2, l3], .null :: st, M) Q := H_ld rfl rfl rfl rfl rfl
theorem x74_36 : XX X d 74 (36, L, .ref a :: st, M) Q = yg (M.2.2 a) 7 5 X d 74 39 L st M Q := G_getf rfl (by decide) rfl rfl rfl
theorem x74_39 : XX X d 74 (39, L, st, M) Q = XX X d 74 (40, L, .int (ii (-1)) :: st, M) Q := G_cst rfl rfl rfl rfl rfl
theorem x74_40 (h : -2147483648 ≤ p ∧ p ≤ 2147483647 ∧ -2147483648 ≤ q ∧ q ≤ 2147483647) : XX X d 74 (40, L, .int (ii q) :: .int (ii p) :: st, M) Q = bq (p = q) X d 74 47 43 L st M Q := H_if2 rfl ⟨rfl, rfl, rfl, by decide⟩ rfl rfl rfl rfl (D_eq h)
theorem x74_43 : XX X d 74 (43, L, st, M) Q = XX X d 74 (44, L, .int (ii 1) :: st, M) Q := G_cst rfl rfl rfl rfl rfl
theorem x74_44 : XX X d 74 (44, L, st, M) Q = XX X d 74 (48, L, st, M) Q := H_jmp rfl (by decide) rfl
theorem x74_47 : XX X d 74 (47, L, st, M) Q = XX X d 74 (48, L, .int (ii 0) :: st, M) Q := G_cst rfl rfl rfl rfl rfl
theorem x74_48 (h : p = 0 ∨ p = 1) : XX X d 74 (48, L, [.int (ii p)], M) Q = Q (.inl (some (.int (ii p)))) M := G_ret rfl ⟨⟨⟨rfl, rfl, rfl, by decide⟩, rfl, rfl⟩, rfl, rfl⟩ (bz_ok h)
theorem e74 : CC X d 74 [.ref a, .ref a1, .ref a2] M Q = XX X d 74 (0, [some (.ref a), some (.ref a1), some (.ref a2), none], [], M) Q := H_ent rfl rfl
-- 75 X7_reset ()V
theorem x75_0 : XX X d 75 (0, [some (.ref a)], st, M) Q = XX X d 75 (1, [some (.ref a)], .ref a :: st, M) Q := H_ld rfl rfl rfl rfl rfl
theorem x75_0n : XX X d 75 (0, [some (.null)], st, M) Q = XX X d 75 (1, [some (.null)], .null :: st, M) Q := H_ld rfl rfl rfl rfl rfl
theorem x75_1 : XX X d 75 (1, L, .ref a :: st, M) Q = yg (M.2.2 a) 7 1 X d 75 4 L st M Q := G_getf rfl (by decide) rfl rfl rfl
theorem x75_4 (hd : 0 < d) (hs : stB st = true) : XX X d 75 (4, L, .ref a :: st, M) Q = (mcl M a = some 6 ∧ CC X (d - 1) 67 [.ref a] M (XC X d 75 4 7 L st Q)) := H_virt [] rfl (by decide) rfl rfl rfl rfl rfl hd hs
theorem x75_7 : XX X d 75 (7, [some (.ref a)], st, M) Q = XX X d 75 (8, [some (.ref a)], .ref a :: st, M) Q := H_ld rfl rfl rfl rfl rfl
theorem x75_7n : XX X d 75 (7, [some (.null)], st, M) Q = XX X d 75 (8, [some (.null)], .null :: st, M) Q := H_ld rfl rfl rfl rfl rfl
theorem x75_8 : XX X d 75 (8, L, st, M) Q = XX X d 75 (9, L, .long (Int64.ofInt 0) :: st, M) Q := G_cst rfl rfl rfl rfl rfl
theorem x75_9 : XX X d 75 (9, L, v :: .ref a :: st, M) Q = yp (M.2.2 a) a 7 3 v X d 75 12 L st M Q := G_putf rfl (by decide) rfl rfl rfl
theorem x75_12 : XX X d 75 (12, [some (.ref a)], st, M) Q = XX X d 75 (13, [some (.ref a)], .ref a :: st, M) Q := H_ld rfl rfl rfl rfl rfl
theorem x75_12n : XX X d 75 (12, [some (.null)], st, M) Q = XX X d 75 (13, [some (.null)], .null :: st, M) Q := H_ld rfl rfl rfl rfl rfl
theorem x75_13 : XX X d 75 (13, L, st, M) Q = XX X d 75 (14, L, .int (ii (-1)) :: st, M) Q := G_cst rfl rfl rfl rfl rfl
theorem x75_14 : XX X d 75 (14, L, v :: .ref a :: st, M) Q = yp (M.2.2 a) a 7 4 v X d 75 17 L st M Q := G_putf rfl (by decide) rfl rfl rfl
theorem x75_17 : XX X d 75 (17, [some (.ref a)], st, M) Q = XX X d 75 (18, [some (.ref a)], .ref a :: st, M) Q := H_ld rfl rfl rfl rfl rfl
theorem x75_17n : XX X d 75 (17, [some (.null)], st, M) Q = XX X d 75 (18, [some (.null)], .null :: st, M) Q := H_ld rfl rfl rfl rfl rfl
theorem x75_18 : XX X d 75 (18, L, st, M) Q = XX X d 75 (19, L, .int (ii (-1)) :: st, M) Q := G_cst rfl rfl rfl rfl rfl
theorem x75_19 : XX X d 75 (19, L, v :: .ref a :: st, M) Q = yp (M.2.2 a) a 7 5 v X d 75 22 L st M Q := G_putf rfl (by decide) rfl rfl rfl
theorem x75_22 : XX X d 75 (22, L, [], M) Q = Q (.inl none) M := G_retv rfl (by decide) rfl
theorem e75 : CC X d 75 [.ref a] M Q = XX X d 75 (0, [some (.ref a)], [], M) Q := H_ent rfl rfl
-- 76 X7_advance (LRegexTracer$Pattern;LRegexTracer$Row;IZ)V
theorem x76_0 : XX X d 76 (0, [some (.ref a), l1, l2, l3, l4, l5, l6, l7, l8, l9], st, M) Q = XX X d 76 (1, [some (.ref a), l1, l2, l3, l4, l5, l6, l7, l8, l9], .ref a :: st, M) Q := H_ld rfl rfl rfl rfl rfl
theorem x76_0n : XX X d 76 (0, [some (.null), l1, l2, l3, l4, l5, l6, l7, l8, l9], st, M) Q = XX X d 76 (1, [some (.null), l1, l2, l3, l4, l5, l6, l7, l8, l9], .null :: st, M) Q := H_ld rfl rfl rfl rfl rfl
theorem x76_1 : XX X d 76 (1, L, .ref a :: st, M) Q = yg (M.2.2 a) 7 0 X d 76 4 L st M Q := G_getf rfl (by decide) rfl rfl rfl
theorem x76_4 : XX X d 76 (4, [some (.ref a), l1, l2, l3, l4, l5, l6, l7, l8, l9], st, M) Q = XX X d 76 (5, [some (.ref a), l1, l2, l3, l4, l5, l6, l7, l8, l9], .ref a :: st, M) Q := H_ld rfl rfl rfl rfl rfl
theorem x76_4n : XX X d 76 (4, [some (.null), l1, l2, l3, l4, l5, l6, l7, l8, l9], st, M) Q = XX X d 76 (5, [some (.null), l1, l2, l3, l4, l5, l6, l7, l8, l9], .null :: st, M) Q := H_ld rfl rfl rfl rfl rfl
theorem x76_5 : XX X d 76 (5, L, .ref a :: st, M) Q = yg (M.2.2 a) 7 1 X d 76 8 L st M Q := G_getf rfl (by decide) rfl rfl rfl
theorem x76_8 {v1 : Value} (hd : 0 < d) (hs : stB st = true) : XX X d 76 (8, L, v1 :: .ref a :: st, M) Q = (mcl M a = some 6 ∧ CC X (d - 1) 69 [.ref a, v1] M (XC X d 76 8 11 L st Q)) := H_virt [v1] rfl (by decide) rfl rfl rfl rfl rfl hd hs
theorem x76_11 : XX X d 76 (11, [some (.ref a), l1, l2, l3, l4, l5, l6, l7, l8, l9], st, M) Q = XX X d 76 (12, [some (.ref a), l1, l2, l3, l4, l5, l6, l7, l8, l9], .ref a :: st, M) Q := H_ld rfl rfl rfl rfl rfl
theorem x76_11n : XX X d 76 (11, [some (.null), l1, l2, l3, l4, l5, l6, l7, l8, l9], st, M) Q = XX X d 76 (12, [some (.null), l1, l2, l3, l4, l5, l6, l7, l8, l9], .null :: st, M) Q := H_ld rfl rfl rfl rfl rfl
theorem x76_12 : XX X d 76 (12, L, .ref a :: st, M) Q = yg (M.2.2 a) 7 1 X d 76 15 L st M Q := G_getf rfl (by decide) rfl rfl rfl
theorem x76_15 (hd : 0 < d) (hs : stB st = true) : XX X d 76 (15, L, .ref a :: st, M) Q = (mcl M a = some 6 ∧ CC X (d - 1) 67 [.ref a] M (XC X d 76 15 18 L st Q)) := H_virt [] rfl (by decide) rfl rfl rfl rfl rfl hd hs
theorem x76_18 : XX X d 76 (18, [some (.ref a), l1, l2, l3, l4, l5, l6, l7, l8, l9], st, M) Q = XX X d 76 (19, [some (.ref a), l1, l2, l3, l4, l5, l6, l7, l8, l9], .ref a :: st, M) Q := H_ld rfl rfl rfl rfl rfl
theorem x76_18n : XX X d 76 (18, [some (.null), l1, l2, l3, l4, l5, l6, l7, l8, l9], st, M) Q = XX X d 76 (19, [some (.null), l1, l2, l3, l4, l5, l6, l7, l8, l9], .null :: st, M) Q := H_ld rfl rfl rfl rfl rfl
theorem x76_19 : XX X d 76 (19, L, st, M) Q = XX X d 76 (20, L, .long (Int64.ofInt 0) :: st, M) Q := G_cst rfl rfl rfl rfl rfl
theorem x76_20 : XX X d 76 (20, L, v :: .ref a :: st, M) Q = yp (M.2.2 a) a 7 3 v X d 76 23 L st M Q := G_putf rfl (by decide) rfl rfl rfl
theorem x76_23 : XX X d 76 (23, [l0, l1, l2, some (.int x), l4, l5, l6, l7, l8, l9], st, M) Q = XX X d 76 (24, [l0, l1, l2, some (.int x), l4, l5, l6, l7, l8, l9], .int x :: st, M) Q := H_ld rfl rfl rfl rfl rfl
theorem x76_24 : XX X d 76 (24, [l0, l1, some (.ref a), l3, l4, l5, l6, l7, l8, l9], st, M) Q = XX X d 76 (25, [l0, l1, some (.ref a), l3, l4, l5, l6, l7, l8, l9], .ref a :: st, M) Q := H_ld rfl rfl rfl rfl rfl
theorem x76_24n : XX X d 76 (24, [l0, l1, some (.null), l3, l4, l5, l6, l7, l8, l9], st, M) Q = XX X d 76 (25, [l0, l1, some (.null), l3, l4, l5, l6, l7, l8, l9], .null :: st, M) Q := H_ld rfl rfl rfl rfl rfl
theorem x76_25 (hd : 0 < d) (hs : stB st = true) : XX X d 76 (25, L, .ref a :: st, M) Q = (mcl M a = some 6 ∧ CC X (d - 1) 58 [.ref a] M (XC X d 76 25 28 L st Q)) := H_virt [] rfl (by decide) rfl rfl rfl rfl rfl hd hs
theorem x76_28 (h : -2147483648 ≤ p ∧ p ≤ 2147483647 ∧ -2147483648 ≤ q ∧ q ≤ 2147483647) : XX X d 76 (28, L, .int (ii q) :: .int (ii p) :: st, M) Q = bq (q ≤ p) X d 76 35 31 L st M Q := H_if2 rfl ⟨rfl, rfl, rfl, by decide⟩ rfl rfl rfl rfl (D_le h)
theorem x76_31 : XX X d 76 (31, L, st, M) Q = XX X d 76 (32, L, .int (ii 1) :: st, M) Q := G_cst rfl rfl rfl rfl rfl
theorem x76_32 : XX X d 76 (32, L, st, M) Q = XX X d 76 (36, L, st, M) Q := H_jmp rfl (by decide) rfl
theorem x76_35 : XX X d 76 (35, L, st, M) Q = XX X d 76 (36, L, .int (ii 0) :: st, M) Q := G_cst rfl rfl rfl rfl rfl
theorem x76_36 (h : wide (some l4) = false) : XX X d 76 (36, [l0, l1, l2, l3, l4, l5, l6, l7, l8, l9], .int x :: st, M) Q = XX X d 76 (38, [l0, l1, l2, l3, l4, some (.int x), l6, l7, l8, l9], st, M) Q := H_st rfl rfl rfl rfl rfl rfl rfl rfl (Or.inr h)
theorem x76_38 : XX X d 76 (38, [l0, l1, some (.ref a), l3, l4, l5, l6, l7, l8, l9], st, M) Q = XX X d 76 (39, [l0, l1, some (.ref a), l3, l4, l5, l6, l7, l8, l9], .ref a :: st, M) Q := H_ld rfl rfl rfl rfl rfl
theorem x76_38n : XX X d 76 (38, [l0, l1, some (.null), l3, l4, l5, l6, l7, l8, l9], st, M) Q = XX X d 76 (39, [l0, l1, some (.null), l3, l4, l5, l6, l7, l8, l9], .null :: st, M) Q := H_ld rfl rfl rfl rfl rfl
theorem x76_39 : XX X d 76 (39, [l0, l1, l2, some (.int x), l4, l5, l6, l7, l8, l9], st, M) Q = XX X d 76 (40, [l0, l1, l2, some (.int x), l4, l5, l6, l7, l8, l9], .int x :: st, M) Q := H_ld rfl rfl rfl rfl rfl
theorem x76_40 {v1 : Value} (hd : 0 < d) (hs : stB st = true) : XX X d 76 (40, L, v1 :: .ref a :: st, M) Q = (mcl M a = some 6 ∧ CC X (d - 1) 61 [.ref a, v1] M (XC X d 76 40 43 L st Q)) := H_virt [v1] rfl (by decide) rfl rfl rfl rfl rfl hd hs
theorem x76_43 (h : wide (some l5) = false) : XX X d 76 (43, [l0, l1, l2, l3, l4, l5, l6, l7, l8, l9], .int x :: st, M) Q = XX X d 76 (45, [l0, l1, l2, l3, l4, l5, some (.int x), l7, l8, l9], st, M) Q := H_st rfl rfl rfl rfl rfl rfl rfl rfl (Or.inr h)
theorem x76_45 : XX X d 76 (45, L, st, M) Q = XX X d 76 (46, L, .int (ii 0) :: st, M) Q := G_cst rfl rfl rfl rfl rfl
theorem x76_46 (h : wide (some l6) = false) : XX X d 76 (46, [l0, l1, l2, l3, l4, l5, l6, l7, l8, l9], .int x :: st, M) Q = XX X d 76 (48, [l0, l1, l2, l3, l4, l5, l6, some (.int x), l8, l9], st, M) Q := H_st rfl rfl rfl rfl rfl rfl rfl rfl (Or.inr h)
theorem x76_48 : XX X d 76 (48, [l0, l1, l2, l3, l4, l5, l6, some (.int x), l8, l9], st, M) Q = XX X d 76 (50, [l0, l1, l2, l3, l4, l5, l6, some (.int x), l8, l9], .int x :: st, M) Q := H_ld rfl rfl rfl rfl rfl
theorem x76_50 : XX X d 76 (50, [some (.ref a), l1, l2, l3, l4, l5, l6, l7, l8, l9], st, M) Q = XX X d 76 (51, [some (.ref a), l1, l2, l3, l4, l5, l6, l7, l8, l9], .ref a :: st, M) Q := H_ld rfl rfl rfl rfl rfl
theorem x76_50n : XX X d 76 (50, [some (.null), l1, l2, l3, l4, l5, l6, l7, l8, l9], st, M) Q = XX X d 76 (51, [some (.null), l1, l2, l3, l4, l5, l6, l7, l8, l9], .null :: st, M) Q := H_ld rfl rfl rfl rfl rfl
theorem x76_51 : XX X d 76 (51, L, .ref a :: st, M) Q = yg (M.2.2 a) 7 0 X d 76 54 L st M Q := G_getf rfl (by decide) rfl rfl rfl
theorem x76_54 (hd : 0 < d) (hs : stB st = true) : XX X d 76 (54, L, .ref a :: st, M) Q = (mcl M a = some 6 ∧ CC X (d - 1) 58 [.ref a] M (XC X d 76 54 57 L st Q)) := H_virt [] rfl (by decide) rfl rfl rfl rfl rfl hd hs
theorem x76_57 (h : -2147483648 ≤ p ∧ p ≤ 2147483647 ∧ -2147483648 ≤ q ∧ q ≤ 2147483647) : XX X d 76 (57, L, .int (ii q) :: .int (ii p) :: st, M) Q = bq (q ≤ p) X d 76 154 60 L st M Q := H_if2 rfl ⟨rfl, rfl, rfl, by decide⟩ rfl rfl rfl rfl (D_le h)
theorem x76_60 : XX X d 76 (60, [some (.ref a), l1, l2, l3, l4, l5, l6, l7, l8, l9], st, M) Q = XX X d 76 (61, [some (.ref a), l1, l2, l3, l4, l5, l6, l7, l8, l9], .ref a :: st, M) Q := H_ld rfl rfl rfl rfl rfl
theorem x76_60n : XX X d 76 (60, [some (.null), l1, l2, l3, l4, l5, l6, l7, l8, l9], st, M) Q = XX X d 76 (61, [some (.null), l1, l2, l3, l4, l5, l6, l7, l8, l9], .null :: st, M) Q := H_ld rfl rfl rfl rfl rfl
theorem x76_61 : XX X d 76 (61, L, .ref a :: st, M) Q = yg (M.2.2 a) 7 0 X d 76 64 L st M Q := G_getf rfl (by decide) rfl rfl rfl
theorem x76_64 : XX X d 76 (64, [l0, l1, l2, l3, l4, l5, l6, some (.int x), l8, l9], st, M) Q = XX X d 76 (66, [l0, l1, l2, l3, l4, l5, l6, some (.int x), l8, l9], .int x :: st, M) Q := H_ld rfl rfl rfl rfl rfl
theorem x76_66 {v1 : Value} (hd : 0 < d) (hs : stB st = true) : XX X d 76 (66, L, v1 :: .ref a :: st, M) Q = (mcl M a = some 6 ∧ CC X (d - 1) 61 [.ref a, v1] M (XC X d 76 66 69 L st Q)) := H_virt [v1] rfl (by decide) rfl rfl rfl rfl rfl hd hs
theorem x76_69 : XX X d 76 (69, L, st, M) Q = XX X d 76 (71, L, .int (ii 6) :: st, M) Q := G_cst rfl rfl rfl rfl rfl
theorem x76_71 : XX X d 76 (71, L, .int x2 :: .int x :: st, M) Q = XX X d 76 (72, L, .int (x >>> (x2 &&& 31)) :: st, M) Q := G_sop rfl ⟨rfl, rfl, rfl, by decide⟩ rfl rfl
theorem x76_72 (h : wide (some l7) = false) : XX X d 76 (72, [l0, l1, l2, l3, l4, l5, l6, l7, l8, l9], .int x :: st, M) Q = XX X d 76 (74, [l0, l1, l2, l3, l4, l5, l6, l7, some (.int x), l9], st, M) Q := H_st rfl rfl rfl rfl rfl rfl rfl rfl (Or.inr h)
theorem x76_74 : XX X d 76 (74, [some (.ref a), l1, l2, l3, l4, l5, l6, l7, l8, l9], st, M) Q = XX X d 76 (75, [some (.ref a), l1, l2, l3, l4, l5, l6, l7, l8, l9], .ref a :: st, M) Q := H_ld rfl rfl rfl rfl rfl
theorem x76_74n : XX X d 76 (74, [some (.null), l1, l2, l3, l4, l5, l6, l7, l8, l9], st, M) Q = XX X d 76 (75, [some (.null), l1, l2, l3, l4, l5, l6, l7, l8, l9], .null :: st, M) Q := H_ld rfl rfl rfl rfl rfl
theorem x76_75 : XX X d 76 (75, L, .ref a :: st, M) Q = yg (M.2.2 a) 7 0 X d 76 78 L st M Q := G_getf rfl (by decide) rfl rfl rfl
theorem x76_78 : XX X d 76 (78, [l0, l1, l2, l3, l4, l5, l6, some (.int x), l8, l9], st, M) Q = XX X d 76 (80, [l0, l1, l2, l3, l4, l5, l6, some (.int x), l8, l9], .int x :: st, M) Q := H_ld rfl rfl rfl rfl rfl
theorem x76_80 {v1 : Value} (hd : 0 < d) (hs : stB st = true) : XX X d 76 (80, L, v1 :: .ref a :: st, M) Q = (mcl M a = some 6 ∧ CC X (d - 1) 61 [.ref a, v1] M (XC X d 76 80 83 L st Q)) := H_virt [v1] rfl (by decide) rfl rfl rfl rfl rfl hd hs
theorem x76_83 : XX X d 76 (83, L, st, M) Q = XX X d 76 (85, L, .int (ii 63) :: st, M) Q := G_cst rfl rfl rfl rfl rfl
theorem x76_85 : XX X d 76 (85, L, .int x2 :: .int x :: st, M) Q = XX X d 76 (86, L, .int (x &&& x2) :: st, M) Q := G_sop rfl ⟨rfl, rfl, rfl, by decide⟩ rfl rfl
theorem x76_86 (h : wide (some l8) = false) : XX X d 76 (86, [l0, l1, l2, l3, l4, l5, l6, l7, l8, l9], .int x :: st, M) Q = XX X d 76 (88, [l0, l1, l2, l3, l4, l5, l6, l7, l8, some (.int x)], st, M) Q := H_st rfl rfl rfl rfl rfl rfl rfl rfl (Or.inr h)
theorem x76_88 : XX X d 76 (88, [l0, some (.ref a), l2, l3, l4, l5, l6, l7, l8, l9], st, M) Q = XX X d 76 (89, [l0, some (.ref a), l2, l3, l4, l5, l6, l7, l8, l9], .ref a :: st, M) Q := H_ld rfl rfl rfl rfl rfl
theorem x76_88n : XX X d 76 (88, [l0, some (.null), l2, l3, l4, l5, l6, l7, l8, l9], st, M) Q = XX X d 76 (89, [l0, some (.null), l2, l3, l4, l5, l6, l7, l8, l9], .null :: st, M) Q := H_ld rfl rfl rfl rfl rfl
theorem x76_89 : XX X d 76 (89, [l0, l1, l2, l3, l4, l5, l6, l7, some (.int x), l9], st, M) Q = XX X d 76 (91, [l0, l1, l2, l3, l4, l5, l6, l7, some (.int x), l9], .int x :: st, M) Q := H_ld rfl rfl rfl rfl rfl
theorem x76_91 {v1 : Value} (hd : 0 < d) (hs : stB st = true) : XX X d 76 (91, L, v1 :: .ref a :: st, M) Q = (mcl M a = some 4 ∧ CC X (d - 1) 35 [.ref a, v1] M (XC X d 76 91 94 L st Q)) := H_virt [v1] rfl (by decide) rfl rfl rfl rfl rfl hd hs
theorem x76_94 : XX X d 76 (94, L, st, M) Q = XX X d 76 (96, L, .int (ii 8) :: st, M) Q := G_cst rfl rfl rfl rfl rfl
theorem x76_96 (h : -2147483648 ≤ p ∧ p ≤ 2147483647 ∧ -2147483648 ≤ q ∧ q ≤ 2147483647) : XX X d 76 (96, L, .int (ii q) :: .int (ii p) :: st, M) Q = bq (p ≠ q) X d 76 121 99 L st M Q := H_if2 rfl ⟨rfl, rfl, rfl, by decide⟩ rfl rfl rfl rfl (D_ne h)
theorem x76_99 : XX X d 76 (99, [l0, l1, l2, l3, some (.int x), l5, l6, l7, l8, l9], st, M) Q = XX X d 76 (101, [l0, l1, l2, l3, some (.int x), l5, l6, l7, l8, l9], .int x :: st, M) Q := H_ld rfl rfl rfl rfl rfl
theorem x76_101 (h : -2147483648 ≤ p ∧ p ≤ 2147483647) : XX X d 76 (101, L, .int (ii p) :: st, M) Q = bq (p = 0) X d 76 109 104 L st M Q := H_if rfl ⟨rfl, rfl, rfl, by decide⟩ rfl rfl rfl rfl (D_eq (b := 0) (by omega))
theorem x76_101b : XX X d 76 (101, L, .int (ii (b2i b)) :: st, M) Q = bq (b = false) X d 76 109 104 L st M Q := (x76_101 (b2i_r b)).trans (by rw [b2i_0])
theorem x76_104 : XX X d 76 (104, [l0, l1, l2, l3, l4, some (.int x), l6, l7, l8, l9], st, M) Q = XX X d 76 (106, [l0, l1, l2, l3, l4, some (.int x), l6, l7, l8, l9], .int x :: st, M) Q := H_ld rfl rfl rfl rfl rfl
theorem x76_106 (h : -2147483648 ≤ p ∧ p ≤ 2147483647) : XX X d 76 (106, L, .int (ii p) :: st, M) Q = bq (p ≠ 0) X d 76 148 109 L st M Q := H_if rfl ⟨rfl, rfl, rfl, by decide⟩ rfl rfl rfl rfl (D_ne (b := 0) (by omega))
theorem x76_106b : XX X d 76 (106, L, .int (ii (b2i b)) :: st, M) Q = bq (b = true) X d 76 148 109 L st M Q := (x76_106 (b2i_r b)).trans (by rw [b2i_n0])
theorem x76_109 : XX X d 76 (109, [some (.ref a), l1, l2, l3, l4, l5, l6, l7, l8, l9], st, M) Q = XX X d 76 (110, [some (.ref a), l1, l2, l3, l4, l5, l6, l7, l8, l9], .ref a :: st, M) Q := H_ld rfl rfl rfl rfl rfl
theorem x76_109n : XX X d 76 (109, [some (.null), l1, l2, l3, l4, l5, l6, l7, l8, l9], st, M) Q = XX X d 76 (110, [some (.null), l1, l2, l3, l4, l5, l6, l7, l8, l9], .null :: st, M) Q := H_ld rfl rfl rfl rfl rfl
theorem x76_110 : XX X d 76 (110, [l0, l1, l2, l3, l4, l5, l6, l7, l8, some (.int x)], st, M) Q = XX X d 76 (112, [l0, l1, l2, l3, l4, l5, l6, l7, l8, some (.int x)], .int x :: st, M) Q := H_ld rfl rfl rfl rfl rfl
theorem x76_112 : XX X d 76 (112, L, v :: .ref a :: st, M) Q = yp (M.2.2 a) a 7 4 v X d 76 115 L st M Q := G_putf rfl (by decide) rfl rfl rfl
theorem x76_115 : XX X d 76 (115, [some (.ref a), l1, l2, l3, l4, l5, l6, l7, l8, l9], st, M) Q = XX X d 76 (116, [some (.ref a), l1, l2, l3, l4, l5, l6, l7, l8, l9], .ref a :: st, M) Q := H_ld rfl rfl rfl rfl rfl
theorem x76_115n : XX X d 76 (115, [some (.null), l1, l2, l3, l4, l5, l6, l7, l8, l9], st, M) Q = XX X d 76 (116, [some (.null), l1, l2, l3, l4, l5, l6, l7, l8, l9], .null :: st, M) Q := H_ld rfl rfl rfl rfl rfl
theorem x76_116 : XX X d 76 (116, [l0, l1, l2, some (.int x), l4, l5, l6, l7, l8, l9], st, M) Q = XX X d 76 (117, [l0, l1, l2, some (.int x), l4, l5, l6, l7, l8, l9], .int x :: st, M) Q := H_ld rfl rfl rfl rfl rfl
theorem x76_117 : XX X d 76 (117, L, v :: .ref a :: st, M) Q = yp (M.2.2 a) a 7 5 v X d 76 120 L st M Q := G_putf rfl (by decide) rfl rfl rfl
theorem x76_120 : XX X d 76 (120, L, [], M) Q = Q (.inl none) M := G_retv rfl (by decide) rfl
theorem x76_121 : XX X d 76 (121, [l0, l1, l2, l3, l4, some (.int x), l6, l7, l8, l9], st, M) Q = XX X d 76 (123, [l0, l1, l2, l3, l4, some (.int x), l6, l7, l8, l9], .int x :: st, M) Q := H_ld rfl rfl rfl rfl rfl
theorem x76_123 (h : -2147483648 ≤ p ∧ p ≤ 2147483647) : XX X d 76 (123, L, .int (ii p) :: st, M) Q = bq (p = 0) X d 76 148 126 L st M Q := H_if rfl ⟨rfl, rfl, rfl, by decide⟩ rfl rfl rfl rfl (D_eq (b := 0) (by omega))
theorem x76_123b : XX X d 76 (123, L, .int (ii (b2i b)) :: st, M) Q = bq (b = false) X d 76 148 126 L st M Q := (x76_123 (b2i_r b)).trans (by rw [b2i_0])
theorem x76_126 : XX X d 76 (126, [l0, some (.ref a), l2, l3, l4, l5, l6, l7, l8, l9], st, M) Q = XX X d 76 (127, [l0, some (.ref a), l2, l3, l4, l5, l6, l7, l8, l9], .ref a :: st, M) Q := H_ld rfl rfl rfl rfl rfl
theorem x76_126n : XX X d 76 (126, [l0, some (.null), l2, l3, l4, l5, l6, l7, l8, l9], st, M) Q = XX X d 76 (127, [l0, some (.null), l2, l3, l4, l5, l6, l7, l8, l9], .null :: st, M) Q := H_ld rfl rfl rfl rfl rfl
theorem x76_127 : XX X d 76 (127, [l0, l1, l2, l3, l4, l5, l6, l7, some (.int x), l9], st, M) Q = XX X d 76 (129, [l0, l1, l2, l3, l4, l5, l6, l7, some (.int x), l9], .int x :: st, M) Q := H_ld rfl rfl rfl rfl rfl
theorem x76_129 : XX X d 76 (129, [l0, l1, l2, l3, l4, l5, some (.int x), l7, l8, l9], st, M) Q = XX X d 76 (131, [l0, l1, l2, l3, l4, l5, some (.int x), l7, l8, l9], .int x :: st, M) Q := H_ld rfl rfl rfl rfl rfl
theorem x76_131 {v1 v2 : Value} (hd : 0 < d) (hs : stB st = true) : XX X d 76 (131, L, v2 :: v1 :: .ref a :: st, M) Q = (mcl M a = some 4 ∧ CC X (d - 1) 42 [.ref a, v1, v2] M (XC X d 76 131 134 L st Q)) := H_virt [v1, v2] rfl (by decide) rfl rfl rfl rfl rfl hd hs
theorem x76_134 (h : -2147483648 ≤ p ∧ p ≤ 2147483647) : XX X d 76 (134, L, .int (ii p) :: st, M) Q = bq (p = 0) X d 76 148 137 L st M Q := H_if rfl ⟨rfl, rfl, rfl, by decide⟩ rfl rfl rfl rfl (D_eq (b := 0) (by omega))
theorem x76_134b : XX X d 76 (134, L, .int (ii (b2i b)) :: st, M) Q = bq (b = false) X d 76 148 137 L st M Q := (x76_134 (b2i_r b)).trans (by rw [b2i_0])
theorem x76_137 : XX X d 76 (137, [some (.ref a), l1, l2, l3, l4, l5, l6, l7, l8, l9], st, M) Q = XX X d 76 (138, [some (.ref a), l1, l2, l3, l4, l5, l6, l7, l8, l9], .ref a :: st, M) Q := H_ld rfl rfl rfl rfl rfl
theorem x76_137n : XX X d 76 (137, [some (.null), l1, l2, l3, l4, l5, l6, l7, l8, l9], st, M) Q = XX X d 76 (138, [some (.null), l1, l2, l3, l4, l5, l6, l7, l8, l9], .null :: st, M) Q := H_ld rfl rfl rfl rfl rfl
theorem x76_138 : XX X d 76 (138, [l0, some (.ref a), l2, l3, l4, l5, l6, l7, l8, l9], st, M) Q = XX X d 76 (139, [l0, some (.ref a), l2, l3, l4, l5, l6, l7, l8, l9], .ref a :: st, M) Q := H_ld rfl rfl rfl rfl rfl
theorem x76_138n : XX X d 76 (138, [l0, some (.null), l2, l3, l4, l5, l6, l7, l8, l9], st, M) Q = XX X d 76 (139, [l0, some (.null), l2, l3, l4, l5, l6, l7, l8, l9], .null :: st, M) Q := H_ld rfl rfl rfl rfl rfl
theorem x76_139 : XX X d 76 (139, [l0, l1, l2, l3, l4, l5, l6, l7, some (.int x), l9], st, M) Q = XX X d 76 (141, [l0, l1, l2, l3, l4, l5, l6, l7, some (.int x), l9], .int x :: st, M) Q := H_ld rfl rfl rfl rfl rfl
theorem x76_141 : XX X d 76 (141, L, st, M) Q = XX X d 76 (142, L, .int (ii 1) :: st, M) Q := G_cst rfl rfl rfl rfl rfl
theorem x76_142 : XX X d 76 (142, L, .int (ii q) :: .int (ii p) :: st, M) Q = XX X d 76 (143, L, .int (ii (p + q)) :: st, M) Q := H_add rfl (by decide) rfl
theorem x76_143 : XX X d 76 (143, [l0, l1, l2, l3, l4, l5, l6, l7, l8, some (.int x)], st, M) Q = XX X d 76 (145, [l0, l1, l2, l3, l4, l5, l6, l7, l8, some (.int x)], .int x :: st, M) Q := H_ld rfl rfl rfl rfl rfl
theorem x76_145 {v1 v2 v3 : Value} (hd : 0 < d) (hs : stB st = true) : XX X d 76 (145, L, v3 :: v2 :: v1 :: .ref a :: st, M) Q = (mcl M a = some 7 ∧ CC X (d - 1) 77 [.ref a, v1, v2, v3] M (XC X d 76 145 148 L st Q)) := H_virt [v1, v2, v3] rfl (by decide) rfl rfl rfl rfl rfl hd hs
theorem x76_148 (h : wide (some l6) = false) : XX X d 76 (148, [l0, l1, l2, l3, l4, l5, l6, some (.int (ii p)), l8, l9], st, M) Q = XX X d 76 (151, [l0, l1, l2, l3, l4, l5, l6, some (.int (ii (p + 1))), l8, l9], st, M) Q := H_inc rfl (by decide) rfl rfl rfl (Or.inr h)
theorem x76_151 : XX X d 76 (151, L, st, M) Q = XX X d 76 (48, L, st, M) Q := H_jmp rfl (by decide) rfl
theorem x76_154 : XX X d 76 (154, L, [], M) Q = Q (.inl none) M := G_retv rfl (by decide) rfl
theorem e76 : CC X d 76 [.ref a, .ref a1, .ref a2, .int x, .int x2] M Q = XX X d 76 (0, [some (.ref a), some (.ref a1), some (.ref a2), some (.int x), some (.int x2), none, none, none, none, none], [], M) Q := H_ent rfl rfl
-- 77 X7_spread (LRegexTracer$Pattern;II)V
theorem x77_0 : XX X d 77 (0, [some (.ref a), l1, l2, l3, l4, l5, l6, l7], st, M) Q = XX X d 77 (1, [some (.ref a), l1, l2, l3, l4, l5, l6, l7], .ref a :: st, M) Q := H_ld rfl rfl rfl rfl rfl
theorem x77_0n : XX X d 77 (0, [some (.null), l1, l2, l3, l4, l5, l6, l7], st, M) Q = XX X d 77 (1, [some (.null), l1, l2, l3, l4, l5, l6, l7], .null :: st, M) Q := H_ld rfl rfl rfl rfl rfl
theorem x77_1 : XX X d 77 (1, L, .ref a :: st, M) Q = yg (M.2.2 a) 7 2 X d 77 4 L st M Q := G_getf rfl (by decide) rfl rfl rfl
theorem x77_4 (hd : 0 < d) (hs : stB st = true) : XX X d 77 (4, L, .ref a :: st, M) Q = (mcl M a = some 6 ∧ CC X (d - 1) 67 [.ref a] M (XC X d 77 4 7 L st Q)) := H_virt [] rfl (by decide) rfl rfl rfl rfl rfl hd hs
theorem x77_7 : XX X d 77 (7, [some (.ref a), l1, l2, l3, l4, l5, l6, l7], st, M) Q = XX X d 77 (8, [some (.ref a), l1, l2, l3, l4, l5, l6, l7], .ref a :: st, M) Q := H_ld rfl rfl rfl rfl rfl
theorem x77_7n : XX X d 77 (7, [some (.null), l1, l2, l3, l4, l5, l6, l7], st, M) Q = XX X d 77 (8, [some (.null), l1, l2, l3, l4, l5, l6, l7], .null :: st, M) Q := H_ld rfl rfl rfl rfl rfl
theorem x77_8 : XX X d 77 (8, L, .ref a :: st, M) Q = yg (M.2.2 a) 7 2 X d 77 11 L st M Q := G_getf rfl (by decide) rfl rfl rfl
theorem x77_11 : XX X d 77 (11, [l0, l1, some (.int x), l3, l4, l5, l6, l7], st, M) Q = XX X d 77 (12, [l0, l1, some (.int x), l3, l4, l5, l6, l7], .int x :: st, M) Q := H_ld rfl rfl rfl rfl rfl
theorem x77_12 {v1 : Value} (hd : 0 < d) (hs : stB st = true) : XX X d 77 (12, L, v1 :: .ref a :: st, M) Q = (mcl M a = some 6 ∧ CC X (d - 1) 63 [.ref a, v1] M (XC X d 77 12 15 L st Q)) := H_virt [v1] rfl (by decide) rfl rfl rfl rfl rfl hd hs
theorem x77_15 : XX X d 77 (15, L, st, M) Q = XX X d 77 (16, L, .int (ii 0) :: st, M) Q := G_cst rfl rfl rfl rfl rfl
theorem x77_16 (h : wide (some l3) = false) : XX X d 77 (16, [l0, l1, l2, l3, l4, l5, l6, l7], .int x :: st, M) Q = XX X d 77 (18, [l0, l1, l2, l3, some (.int x), l5, l6, l7], st, M) Q := H_st rfl rfl rfl rfl rfl rfl rfl rfl (Or.inr h)
theorem x77_18 : XX X d 77 (18, [l0, l1, l2, l3, some (.int x), l5, l6, l7], st, M) Q = XX X d 77 (20, [l0, l1, l2, l3, some (.int x), l5, l6, l7], .int x :: st, M) Q := H_ld rfl rfl rfl rfl rfl
theorem x77_20 : XX X d 77 (20, L, st, M) Q = XX X d 77 (22, L, .int (ii 1000000) :: st, M) Q := G_cst rfl rfl rfl rfl rfl
theorem x77_22 (h : -2147483648 ≤ p ∧ p ≤ 2147483647 ∧ -2147483648 ≤ q ∧ q ≤ 2147483647) : XX X d 77 (22, L, .int (ii q) :: .int (ii p) :: st, M) Q = bq (q ≤ p) X d 77 187 25 L st M Q := H_if2 rfl ⟨rfl, rfl, rfl, by decide⟩ rfl rfl rfl rfl (D_le h)
theorem x77_25 : XX X d 77 (25, [some (.ref a), l1, l2, l3, l4, l5, l6, l7], st, M) Q = XX X d 77 (26, [some (.ref a), l1, l2, l3, l4, l5, l6, l7], .ref a :: st, M) Q := H_ld rfl rfl rfl rfl rfl
theorem x77_25n : XX X d 77 (25, [some (.null), l1, l2, l3, l4, l5, l6, l7], st, M) Q = XX X d 77 (26, [some (.null), l1, l2, l3, l4, l5, l6, l7], .null :: st, M) Q := H_ld rfl rfl rfl rfl rfl
theorem x77_26 : XX X d 77 (26, L, .ref a :: st, M) Q = yg (M.2.2 a) 7 2 X d 77 29 L st M Q := G_getf rfl (by decide) rfl rfl rfl
theorem x77_29 (hd : 0 < d) (hs : stB st = true) : XX X d 77 (29, L, .ref a :: st, M) Q = (mcl M a = some 6 ∧ CC X (d - 1) 58 [.ref a] M (XC X d 77 29 32 L st Q)) := H_virt [] rfl (by decide) rfl rfl rfl rfl rfl hd hs
theorem x77_32 (h : -2147483648 ≤ p ∧ p ≤ 2147483647) : XX X d 77 (32, L, .int (ii p) :: st, M) Q = bq (p ≤ 0) X d 77 187 35 L st M Q := H_if rfl ⟨rfl, rfl, rfl, by decide⟩ rfl rfl rfl rfl (D_ge (b := 0) (by omega))
theorem x77_35 : XX X d 77 (35, [some (.ref a), l1, l2, l3, l4, l5, l6, l7], st, M) Q = XX X d 77 (36, [some (.ref a), l1, l2, l3, l4, l5, l6, l7], .ref a :: st, M) Q := H_ld rfl rfl rfl rfl rfl
theorem x77_35n : XX X d 77 (35, [some (.null), l1, l2, l3, l4, l5, l6, l7], st, M) Q = XX X d 77 (36, [some (.null), l1, l2, l3, l4, l5, l6, l7], .null :: st, M) Q := H_ld rfl rfl rfl rfl rfl
theorem x77_36 : XX X d 77 (36, L, .ref a :: st, M) Q = yg (M.2.2 a) 7 2 X d 77 39 L st M Q := G_getf rfl (by decide) rfl rfl rfl
theorem x77_39 (hd : 0 < d) (hs : stB st = true) : XX X d 77 (39, L, .ref a :: st, M) Q = (mcl M a = some 6 ∧ CC X (d - 1) 64 [.ref a] M (XC X d 77 39 42 L st Q)) := H_virt [] rfl (by decide) rfl rfl rfl rfl rfl hd hs
theorem x77_42 (h : wide (some l4) = false) : XX X d 77 (42, [l0, l1, l2, l3, l4, l5, l6, l7], .int x :: st, M) Q = XX X d 77 (44, [l0, l1, l2, l3, l4, some (.int x), l6, l7], st, M) Q := H_st rfl rfl rfl rfl rfl rfl rfl rfl (Or.inr h)
theorem x77_44 : XX X d 77 (44, L, st, M) Q = XX X d 77 (45, L, .long (Int64.ofInt 1) :: st, M) Q := G_cst rfl rfl rfl rfl rfl
theorem x77_45 : XX X d 77 (45, [l0, l1, l2, l3, l4, some (.int x), l6, l7], st, M) Q = XX X d 77 (47, [l0, l1, l2, l3, l4, some (.int x), l6, l7], .int x :: st, M) Q := H_ld rfl rfl rfl rfl rfl
theorem x77_47 : XX X d 77 (47, L, .int x :: .long y :: st, M) Q = XX X d 77 (48, L, .long (y <<< (x.toInt64 &&& 63)) :: st, M) Q := G_sop rfl ⟨rfl, rfl, rfl, by decide⟩ rfl rfl
theorem x77_48 (h : wide (some l5) = false) : XX X d 77 (48, [l0, l1, l2, l3, l4, l5, l6, l7], .long y :: st, M) Q = XX X d 77 (50, [l0, l1, l2, l3, l4, l5, some (.long y), none], st, M) Q := H_st2 rfl rfl rfl rfl rfl rfl rfl rfl (Or.inr h)
theorem x77_50 : XX X d 77 (50, [some (.ref a), l1, l2, l3, l4, l5, l6, l7], st, M) Q = XX X d 77 (51, [some (.ref a), l1, l2, l3, l4, l5, l6, l7], .ref a :: st, M) Q := H_ld rfl rfl rfl rfl rfl
theorem x77_50n : XX X d 77 (50, [some (.null), l1, l2, l3, l4, l5, l6, l7], st, M) Q = XX X d 77 (51, [some (.null), l1, l2, l3, l4, l5, l6, l7], .null :: st, M) Q := H_ld rfl rfl rfl rfl rfl
theorem x77_51 : XX X d 77 (51, L, .ref a :: st, M) Q = yg (M.2.2 a) 7 3 X d 77 54 L st M Q := G_getf rfl (by decide) rfl rfl rfl
theorem x77_54 : XX X d 77 (54, [l0, l1, l2, l3, l4, l5, some (.long y), l7], st, M) Q = XX X d 77 (56, [l0, l1, l2, l3, l4, l5, some (.long y), l7], .long y :: st, M) Q := H_ld rfl rfl rfl rfl rfl
theorem x77_56 : XX X d 77 (56, L, .long y2 :: .long y :: st, M) Q = XX X d 77 (57, L, .long (y &&& y2) :: st, M) Q := G_sop rfl ⟨rfl, rfl, rfl, by decide⟩ rfl rfl
theorem x77_57 : XX X d 77 (57, L, st, M) Q = XX X d 77 (58, L, .long (Int64.ofInt 0) :: st, M) Q := G_cst rfl rfl rfl rfl rfl
theorem x77_58 : XX X d 77 (58, L, .long y2 :: .long y :: st, M) Q = XX X d 77 (59, L, .int (lg_cmp y y2) :: st, M) Q := G_sop rfl ⟨rfl, rfl, rfl, by decide⟩ rfl rfl
theorem x77_59 (h : -2147483648 ≤ p ∧ p ≤ 2147483647) : XX X d 77 (59, L, .int (ii p) :: st, M) Q = bq (p = 0) X d 77 65 62 L st M Q := H_if rfl ⟨rfl, rfl, rfl, by decide⟩ rfl rfl rfl rfl (D_eq (b := 0) (by omega))
theorem x77_59b : XX X d 77 (59, L, .int (ii (b2i b)) :: st, M) Q = bq (b = false) X d 77 65 62 L st M Q := (x77_59 (b2i_r b)).trans (by rw [b2i_0])
theorem x77_62 : XX X d 77 (62, L, st, M) Q = XX X d 77 (181, L, st, M) Q := H_jmp rfl (by decide) rfl
theorem x77_65 : XX X d 77 (65, [some (.ref a), l1, l2, l3, l4, l5, l6, l7], st, M) Q = XX X d 77 (66, [some (.ref a), l1, l2, l3, l4, l5, l6, l7], .ref a :: st, M) Q := H_ld rfl rfl rfl rfl rfl
theorem x77_65n : XX X d 77 (65, [some (.null), l1, l2, l3, l4, l5, l6, l7], st, M) Q = XX X d 77 (66, [some (.null), l1, l2, l3, l4, l5, l6, l7], .null :: st, M) Q := H_ld rfl rfl rfl rfl rfl
theorem x77_66 : XX X d 77 (66, [some (.ref a), l1, l2, l3, l4, l5, l6, l7], st, M) Q = XX X d 77 (67, [some (.ref a), l1, l2, l3, l4, l5, l6, l7], .ref a :: st, M) Q := H_ld rfl rfl rfl rfl rfl
theorem x77_66n : XX X d 77 (66, [some (.null), l1, l2, l3, l4, l5, l6, l7], st, M) Q = XX X d 77 (67, [some (.null), l1, l2, l3, l4, l5, l6, l7], .null :: st, M) Q := H_ld rfl rfl rfl rfl rfl
theorem x77_67 : XX X d 77 (67, L, .ref a :: st, M) Q = yg (M.2.2 a) 7 3 X d 77 70 L st M Q := G_getf rfl (by decide) rfl rfl rfl
theorem x77_70 : XX X d 77 (70, [l0, l1, l2, l3, l4, l5, some (.long y), l7], st, M) Q = XX X d 77 (72, [l0, l1, l2, l3, l4, l5, some (.long y), l7], .long y :: st, M) Q := H_ld rfl rfl rfl rfl rfl
theorem x77_72 : XX X d 77 (72, L, .long y2 :: .long y :: st, M) Q = XX X d 77 (73, L, .long (y ||| y2) :: st, M) Q := G_sop rfl ⟨rfl, rfl, rfl, by decide⟩ rfl rfl
theorem x77_73 : XX X d 77 (73, L, v :: .ref a :: st, M) Q = yp (M.2.2 a) a 7 3 v X d 77 76 L st M Q := G_putf rfl (by decide) rfl rfl rfl
theorem x77_76 : XX X d 77 (76, [l0, some (.ref a), l2, l3, l4, l5, l6, l7], st, M) Q = XX X d 77 (77, [l0, some (.ref a), l2, l3, l4, l5, l6, l7], .ref a :: st, M) Q := H_ld rfl rfl rfl rfl rfl
theorem x77_76n : XX X d 77 (76, [l0, some (.null), l2, l3, l4, l5, l6, l7], st, M) Q = XX X d 77 (77, [l0, some (.null), l2, l3, l4, l5, l6, l7], .null :: st, M) Q := H_ld rfl rfl rfl rfl rfl
theorem x77_77 : XX X d 77 (77, [l0, l1, l2, l3, l4, some (.int x), l6, l7], st, M) Q = XX X d 77 (79, [l0, l1, l2, l3, l4, some (.int x), l6, l7], .int x :: st, M) Q := H_ld rfl rfl rfl rfl rfl
theorem x77_79 {v1 : Value} (hd : 0 < d) (hs : stB st = true) : XX X d 77 (79, L, v1 :: .ref a :: st, M) Q = (mcl M a = some 4 ∧ CC X (d - 1) 35 [.ref a, v1] M (XC X d 77 79 82 L st Q)) := H_virt [v1] rfl (by decide) rfl rfl rfl rfl rfl hd hs
theorem x77_82 (h : -2147483648 ≤ p ∧ p ≤ 2147483647) : XX X d 77 (82, L, .int (ii p) :: st, M) Q = yt (if p < 5 ∨ 7 < p then some 167 else ([108, 137, 153] : List Nat)[(p - 5).toNat]?) X d 77 L st M Q := H_tsw rfl (by decide) rfl h
theorem x77_108 : XX X d 77 (108, [some (.ref a), l1, l2, l3, l4, l5, l6, l7], st, M) Q = XX X d 77 (109, [some (.ref a), l1, l2, l3, l4, l5, l6, l7], .ref a :: st, M) Q := H_ld rfl rfl rfl rfl rfl
theorem x77_108n : XX X d 77 (108, [some (.null), l1, l2, l3, l4, l5, l6, l7], st, M) Q = XX X d 77 (109, [some (.null), l1, l2, l3, l4, l5, l6, l7], .null :: st, M) Q := H_ld rfl rfl rfl rfl rfl
theorem x77_109 : XX X d 77 (109, L, .ref a :: st, M) Q = yg (M.2.2 a) 7 2 X d 77 112 L st M Q := G_getf rfl (by decide) rfl rfl rfl
theorem x77_112 : XX X d 77 (112, [l0, some (.ref a), l2, l3, l4, l5, l6, l7], st, M) Q = XX X d 77 (113, [l0, some (.ref a), l2, l3, l4, l5, l6, l7], .ref a :: st, M) Q := H_ld rfl rfl rfl rfl rfl
theorem x77_112n : XX X d 77 (112, [l0, some (.null), l2, l3, l4, l5, l6, l7], st, M) Q = XX X d 77 (113, [l0, some (.null), l2, l3, l4, l5, l6, l7], .null :: st, M) Q := H_ld rfl rfl rfl rfl rfl
theorem x77_113 : XX X d 77 (113, [l0, l1, l2, l3, l4, some (.int x), l6, l7], st, M) Q = XX X d 77 (115, [l0, l1, l2, l3, l4, some (.int x), l6, l7], .int x :: st, M) Q := H_ld rfl rfl rfl rfl rfl
theorem x77_115 {v1 : Value} (hd : 0 < d) (hs : stB st = true) : XX X d 77 (115, L, v1 :: .ref a :: st, M) Q = (mcl M a = some 4 ∧ CC X (d - 1) 37 [.ref a, v1] M (XC X d 77 115 118 L st Q)) := H_virt [v1] rfl (by decide) rfl rfl rfl rfl rfl hd hs
theorem x77_118 {v1 : Value} (hd : 0 < d) (hs : stB st = true) : XX X d 77 (118, L, v1 :: .ref a :: st, M) Q = (mcl M a = some 6 ∧ CC X (d - 1) 63 [.ref a, v1] M (XC X d 77 118 121 L st Q)) := H_virt [v1] rfl (by decide) rfl rfl rfl rfl rfl hd hs
theorem x77_121 : XX X d 77 (121, [some (.ref a), l1, l2, l3, l4, l5, l6, l7], st, M) Q = XX X d 77 (122, [some (.ref a), l1, l2, l3, l4, l5, l6, l7], .ref a :: st, M) Q := H_ld rfl rfl rfl rfl rfl
theorem x77_121n : XX X d 77 (121, [some (.null), l1, l2, l3, l4, l5, l6, l7], st, M) Q = XX X d 77 (122, [some (.null), l1, l2, l3, l4, l5, l6, l7], .null :: st, M) Q := H_ld rfl rfl rfl rfl rfl
theorem x77_122 : XX X d 77 (122, L, .ref a :: st, M) Q = yg (M.2.2 a) 7 2 X d 77 125 L st M Q := G_getf rfl (by decide) rfl rfl rfl
theorem x77_125 : XX X d 77 (125, [l0, some (.ref a), l2, l3, l4, l5, l6, l7], st, M) Q = XX X d 77 (126, [l0, some (.ref a), l2, l3, l4, l5, l6, l7], .ref a :: st, M) Q := H_ld rfl rfl rfl rfl rfl
theorem x77_125n : XX X d 77 (125, [l0, some (.null), l2, l3, l4, l5, l6, l7], st, M) Q = XX X d 77 (126, [l0, some (.null), l2, l3, l4, l5, l6, l7], .null :: st, M) Q := H_ld rfl rfl rfl rfl rfl
theorem x77_126 : XX X d 77 (126, [l0, l1, l2, l3, l4, some (.int x), l6, l7], st, M) Q = XX X d 77 (128, [l0, l1, l2, l3, l4, some (.int x), l6, l7], .int x :: st, M) Q := H_ld rfl rfl rfl rfl rfl
theorem x77_128 {v1 : Value} (hd : 0 < d) (hs : stB st = true) : XX X d 77 (128, L, v1 :: .ref a :: st, M) Q = (mcl M a = some 4 ∧ CC X (d - 1) 36 [.ref a, v1] M (XC X d 77 128 131 L st Q)) := H_virt [v1] rfl (by decide) rfl rfl rfl rfl rfl hd hs
theorem x77_131 {v1 : Value} (hd : 0 < d) (hs : stB st = true) : XX X d 77 (131, L, v1 :: .ref a :: st, M) Q = (mcl M a = some 6 ∧ CC X (d - 1) 63 [.ref a, v1] M (XC X d 77 131 134 L st Q)) := H_virt [v1] rfl (by decide) rfl rfl rfl rfl rfl hd hs
theorem x77_134 : XX X d 77 (134, L, st, M) Q = XX X d 77 (181, L, st, M) Q := H_jmp rfl (by decide) rfl
theorem x77_137 : XX X d 77 (137, [some (.ref a), l1, l2, l3, l4, l5, l6, l7], st, M) Q = XX X d 77 (138, [some (.ref a), l1, l2, l3, l4, l5, l6, l7], .ref a :: st, M) Q := H_ld rfl rfl rfl rfl rfl
theorem x77_137n : XX X d 77 (137, [some (.null), l1, l2, l3, l4, l5, l6, l7], st, M) Q = XX X d 77 (138, [some (.null), l1, l2, l3, l4, l5, l6, l7], .null :: st, M) Q := H_ld rfl rfl rfl rfl rfl
theorem x77_138 : XX X d 77 (138, L, .ref a :: st, M) Q = yg (M.2.2 a) 7 2 X d 77 141 L st M Q := G_getf rfl (by decide) rfl rfl rfl
theorem x77_141 : XX X d 77 (141, [l0, some (.ref a), l2, l3, l4, l5, l6, l7], st, M) Q = XX X d 77 (142, [l0, some (.ref a), l2, l3, l4, l5, l6, l7], .ref a :: st, M) Q := H_ld rfl rfl rfl rfl rfl
theorem x77_141n : XX X d 77 (141, [l0, some (.null), l2, l3, l4, l5, l6, l7], st, M) Q = XX X d 77 (142, [l0, some (.null), l2, l3, l4, l5, l6, l7], .null :: st, M) Q := H_ld rfl rfl rfl rfl rfl
theorem x77_142 : XX X d 77 (142, [l0, l1, l2, l3, l4, some (.int x), l6, l7], st, M) Q = XX X d 77 (144, [l0, l1, l2, l3, l4, some (.int x), l6, l7], .int x :: st, M) Q := H_ld rfl rfl rfl rfl rfl
theorem x77_144 {v1 : Value} (hd : 0 < d) (hs : stB st = true) : XX X d 77 (144, L, v1 :: .ref a :: st, M) Q = (mcl M a = some 4 ∧ CC X (d - 1) 36 [.ref a, v1] M (XC X d 77 144 147 L st Q)) := H_virt [v1] rfl (by decide) rfl rfl rfl rfl rfl hd hs
theorem x77_147 {v1 : Value} (hd : 0 < d) (hs : stB st = true) : XX X d 77 (147, L, v1 :: .ref a :: st, M) Q = (mcl M a = some 6 ∧ CC X (d - 1) 63 [.ref a, v1] M (XC X d 77 147 150 L st Q)) := H_virt [v1] rfl (by decide) rfl rfl rfl rfl rfl hd hs
theorem x77_150 : XX X d 77 (150, L, st, M) Q = XX X d 77 (181, L, st, M) Q := H_jmp rfl (by decide) rfl
theorem x77_153 : XX X d 77 (153, [some (.ref a), l1, l2, l3, l4, l5, l6, l7], st, M) Q = XX X d 77 (154, [some (.ref a), l1, l2, l3, l4, l5, l6, l7], .ref a :: st, M) Q := H_ld rfl rfl rfl rfl rfl
theorem x77_153n : XX X d 77 (153, [some (.null), l1, l2, l3, l4, l5, l6, l7], st, M) Q = XX X d 77 (154, [some (.null), l1, l2, l3, l4, l5, l6, l7], .null :: st, M) Q := H_ld rfl rfl rfl rfl rfl
theorem x77_154 : XX X d 77 (154, L, .ref a :: st, M) Q = yg (M.2.2 a) 7 2 X d 77 157 L st M Q := G_getf rfl (by decide) rfl rfl rfl
theorem x77_157 : XX X d 77 (157, [l0, l1, l2, l3, l4, some (.int x), l6, l7], st, M) Q = XX X d 77 (159, [l0, l1, l2, l3, l4, some (.int x), l6, l7], .int x :: st, M) Q := H_ld rfl rfl rfl rfl rfl
theorem x77_159 : XX X d 77 (159, L, st, M) Q = XX X d 77 (160, L, .int (ii 1) :: st, M) Q := G_cst rfl rfl rfl rfl rfl
theorem x77_160 : XX X d 77 (160, L, .int (ii q) :: .int (ii p) :: st, M) Q = XX X d 77 (161, L, .int (ii (p + q)) :: st, M) Q := H_add rfl (by decide) rfl
theorem x77_161 {v1 : Value} (hd : 0 < d) (hs : stB st = true) : XX X d 77 (161, L, v1 :: .ref a :: st, M) Q = (mcl M a = some 6 ∧ CC X (d - 1) 63 [.ref a, v1] M (XC X d 77 161 164 L st Q)) := H_virt [v1] rfl (by decide) rfl rfl rfl rfl rfl hd hs
theorem x77_164 : XX X d 77 (164, L, st, M) Q = XX X d 77 (181, L, st, M) Q := H_jmp rfl (by decide) rfl
theorem x77_167 : XX X d 77 (167, [some (.ref a), l1, l2, l3, l4, l5, l6, l7], st, M) Q = XX X d 77 (168, [some (.ref a), l1, l2, l3, l4, l5, l6, l7], .ref a :: st, M) Q := H_ld rfl rfl rfl rfl rfl
theorem x77_167n : XX X d 77 (167, [some (.null), l1, l2, l3, l4, l5, l6, l7], st, M) Q = XX X d 77 (168, [some (.null), l1, l2, l3, l4, l5, l6, l7], .null :: st, M) Q := H_ld rfl rfl rfl rfl rfl
theorem x77_168 : XX X d 77 (168, L, .ref a :: st, M) Q = yg (M.2.2 a) 7 1 X d 77 171 L st M Q := G_getf rfl (by decide) rfl rfl rfl
theorem x77_171 : XX X d 77 (171, [l0, l1, l2, l3, l4, some (.int x), l6, l7], st, M) Q = XX X d 77 (173, [l0, l1, l2, l3, l4, some (.int x), l6, l7], .int x :: st, M) Q := H_ld rfl rfl rfl rfl rfl
theorem x77_173 : XX X d 77 (173, L, st, M) Q = XX X d 77 (175, L, .int (ii 6) :: st, M) Q := G_cst rfl rfl rfl rfl rfl
theorem x77_175 : XX X d 77 (175, L, .int x2 :: .int x :: st, M) Q = XX X d 77 (176, L, .int (x <<< (x2 &&& 31)) :: st, M) Q := G_sop rfl ⟨rfl, rfl, rfl, by decide⟩ rfl rfl
theorem x77_176 : XX X d 77 (176, [l0, l1, l2, some (.int x), l4, l5, l6, l7], st, M) Q = XX X d 77 (177, [l0, l1, l2, some (.int x), l4, l5, l6, l7], .int x :: st, M) Q := H_ld rfl rfl rfl rfl rfl
theorem x77_177 : XX X d 77 (177, L, .int (ii q) :: .int (ii p) :: st, M) Q = XX X d 77 (178, L, .int (ii (p + q)) :: st, M) Q := H_add rfl (by decide) rfl
theorem x77_178 {v1 : Value} (hd : 0 < d) (hs : stB st = true) : XX X d 77 (178, L, v1 :: .ref a :: st, M) Q = (mcl M a = some 6 ∧ CC X (d - 1) 63 [.ref a, v1] M (XC X d 77 178 181 L st Q)) := H_virt [v1] rfl (by decide) rfl rfl rfl rfl rfl hd hs
theorem x77_181 (h : wide (some l3) = false) : XX X d 77 (181, [l0, l1, l2, l3, some (.int (ii p)), l5, l6, l7], st, M) Q = XX X d 77 (184, [l0, l1, l2, l3, some (.int (ii (p + 1))), l5, l6, l7], st, M) Q := H_inc rfl (by decide) rfl rfl rfl (Or.inr h)
theorem x77_184 : XX X d 77 (184, L, st, M) Q = XX X d 77 (18, L, st, M) Q := H_jmp rfl (by decide) rfl
theorem x77_187 : XX X d 77 (187, L, [], M) Q = Q (.inl none) M := G_retv rfl (by decide) rfl
theorem e77 : CC X d 77 [.ref a, .ref a1, .int x, .int x2] M Q = XX X d 77 (0, [some (.ref a), some (.ref a1), some (.int x), some (.int x2), none, none, none, none], [], M) Q := H_ent rfl rfl
end PX24pxengines
