/-! reader: each row at its place, printed by wip/whole/genx.py -/
section PX23pxreader
variable {X : JX} {d a a1 a2 a3 a4 : Nat} {L : List (Option Value)} {st : List Value} {M : JM} {Q : JR → JM → Prop} {p q : Int} {b : Bool} {x x2 x3 x4 x5 x6 : Int32} {y y2 : Int64} {z z2 : UInt32} {w w2 : UInt64} {v v2 : Value} {l0 l1 l2 l3 l4 l5 l6 l7 l8 l9 l10 l11 l12 l13 l14 : Option Value}
-- 43 X5_init (LRegexTracer$Row;)V
theorem x43_0 : XX X d 43 (0, [some (.ref a), l1], st, M) Q = XX X d 43 (1, [some (.ref a), l1], .ref a :: st, M) Q := H_ld rfl rfl rfl rfl rfl
theorem x43_0n : XX X d 43 (0, [some (.null), l1], st, M) Q = XX X d 43 (1, [some (.null), l1], .null :: st, M) Q := H_ld rfl rfl rfl rfl rfl
theorem x43_1 (hs : stB st = true) : XX X d 43 (1, L, .ref a :: st, M) Q = XX X d 43 (4, L, st, M) Q := H_obj rfl (by decide) rfl rfl rfl hs
theorem x43_4 : XX X d 43 (4, [some (.ref a), l1], st, M) Q = XX X d 43 (5, [some (.ref a), l1], .ref a :: st, M) Q := H_ld rfl rfl rfl rfl rfl
theorem x43_4n : XX X d 43 (4, [some (.null), l1], st, M) Q = XX X d 43 (5, [some (.null), l1], .null :: st, M) Q := H_ld rfl rfl rfl rfl rfl
theorem x43_5 : XX X d 43 (5, L, st, M) Q = XX X d 43 (8, L, .ref M.1 :: st, mnew M 7 (.inr (4, [.null, .null, .null, .null, .int (ii 0), .int (ii 0), .int (ii 0)]))) Q := H_new rfl (by decide) rfl rfl (by decide) rfl rfl
theorem x43_8 (h : v.category = 1) : XX X d 43 (8, L, v :: st, M) Q = XX X d 43 (9, L, v :: v :: st, M) Q := G_sop rfl ⟨rfl, rfl, rfl, by decide⟩ (if_pos h) rfl
theorem x43_9 (hd : 0 < d) (hs : stB st = true) : XX X d 43 (9, L, .ref a :: st, M) Q = CC X (d - 1) 33 [.ref a] M (XC X d 43 9 12 L st Q) := H_spec [] rfl (by decide) rfl rfl (by decide) rfl rfl hd hs
theorem x43_12 : XX X d 43 (12, L, v :: .ref a :: st, M) Q = yp (M.2.2 a) a 5 1 v X d 43 15 L st M Q := G_putf rfl (by decide) rfl rfl rfl
theorem x43_15 : XX X d 43 (15, [some (.ref a), l1], st, M) Q = XX X d 43 (16, [some (.ref a), l1], .ref a :: st, M) Q := H_ld rfl rfl rfl rfl rfl
theorem x43_15n : XX X d 43 (15, [some (.null), l1], st, M) Q = XX X d 43 (16, [some (.null), l1], .null :: st, M) Q := H_ld rfl rfl rfl rfl rfl
theorem x43_16 : XX X d 43 (16, L, st, M) Q = XX X d 43 (19, L, .ref M.1 :: st, mnew M 12 (.inr (3, [.null, .int (ii 0), .int (ii 0), .int (ii 0), .int (ii 0), .int (ii 0), .int (ii 0), .int (ii 0), .int (ii 0), .int (ii 0), .int (ii 0), .int (ii 0)]))) Q := H_new rfl (by decide) rfl rfl (by decide) rfl rfl
theorem x43_19 (h : v.category = 1) : XX X d 43 (19, L, v :: st, M) Q = XX X d 43 (20, L, v :: v :: st, M) Q := G_sop rfl ⟨rfl, rfl, rfl, by decide⟩ (if_pos h) rfl
theorem x43_20 : XX X d 43 (20, L, st, M) Q = XX X d 43 (21, L, .null :: st, M) Q := G_cst rfl rfl rfl rfl rfl
theorem x43_21 : XX X d 43 (21, L, st, M) Q = XX X d 43 (22, L, .int (ii 0) :: st, M) Q := G_cst rfl rfl rfl rfl rfl
theorem x43_22 : XX X d 43 (22, L, st, M) Q = XX X d 43 (23, L, .int (ii 0) :: st, M) Q := G_cst rfl rfl rfl rfl rfl
theorem x43_23 {v1 v2 v3 : Value} (hd : 0 < d) (hs : stB st = true) : XX X d 43 (23, L, v3 :: v2 :: v1 :: .ref a :: st, M) Q = CC X (d - 1) 28 [.ref a, v1, v2, v3] M (XC X d 43 23 26 L st Q) := H_spec [v1, v2, v3] rfl (by decide) rfl rfl (by decide) rfl rfl hd hs
theorem x43_26 : XX X d 43 (26, L, v :: .ref a :: st, M) Q = yp (M.2.2 a) a 5 2 v X d 43 29 L st M Q := G_putf rfl (by decide) rfl rfl rfl
theorem x43_29 : XX X d 43 (29, [some (.ref a), l1], st, M) Q = XX X d 43 (30, [some (.ref a), l1], .ref a :: st, M) Q := H_ld rfl rfl rfl rfl rfl
theorem x43_29n : XX X d 43 (29, [some (.null), l1], st, M) Q = XX X d 43 (30, [some (.null), l1], .null :: st, M) Q := H_ld rfl rfl rfl rfl rfl
theorem x43_30 : XX X d 43 (30, L, st, M) Q = XX X d 43 (31, L, .int (ii 0) :: st, M) Q := G_cst rfl rfl rfl rfl rfl
theorem x43_31 : XX X d 43 (31, L, v :: .ref a :: st, M) Q = yp (M.2.2 a) a 5 3 v X d 43 34 L st M Q := G_putf rfl (by decide) rfl rfl rfl
theorem x43_34 : XX X d 43 (34, [some (.ref a), l1], st, M) Q = XX X d 43 (35, [some (.ref a), l1], .ref a :: st, M) Q := H_ld rfl rfl rfl rfl rfl
theorem x43_34n : XX X d 43 (34, [some (.null), l1], st, M) Q = XX X d 43 (35, [some (.null), l1], .null :: st, M) Q := H_ld rfl rfl rfl rfl rfl
theorem x43_35 : XX X d 43 (35, L, st, M) Q = XX X d 43 (36, L, .int (ii 0) :: st, M) Q := G_cst rfl rfl rfl rfl rfl
theorem x43_36 : XX X d 43 (36, L, v :: .ref a :: st, M) Q = yp (M.2.2 a) a 5 4 v X d 43 39 L st M Q := G_putf rfl (by decide) rfl rfl rfl
theorem x43_39 : XX X d 43 (39, [some (.ref a), l1], st, M) Q = XX X d 43 (40, [some (.ref a), l1], .ref a :: st, M) Q := H_ld rfl rfl rfl rfl rfl
theorem x43_39n : XX X d 43 (39, [some (.null), l1], st, M) Q = XX X d 43 (40, [some (.null), l1], .null :: st, M) Q := H_ld rfl rfl rfl rfl rfl
theorem x43_40 : XX X d 43 (40, L, st, M) Q = XX X d 43 (41, L, .int (ii 1) :: st, M) Q := G_cst rfl rfl rfl rfl rfl
theorem x43_41 : XX X d 43 (41, L, v :: .ref a :: st, M) Q = yp (M.2.2 a) a 5 5 v X d 43 44 L st M Q := G_putf rfl (by decide) rfl rfl rfl
theorem x43_44 : XX X d 43 (44, [some (.ref a), l1], st, M) Q = XX X d 43 (45, [some (.ref a), l1], .ref a :: st, M) Q := H_ld rfl rfl rfl rfl rfl
theorem x43_44n : XX X d 43 (44, [some (.null), l1], st, M) Q = XX X d 43 (45, [some (.null), l1], .null :: st, M) Q := H_ld rfl rfl rfl rfl rfl
theorem x43_45 : XX X d 43 (45, L, st, M) Q = XX X d 43 (46, L, .int (ii 0) :: st, M) Q := G_cst rfl rfl rfl rfl rfl
theorem x43_46 : XX X d 43 (46, L, v :: .ref a :: st, M) Q = yp (M.2.2 a) a 5 6 v X d 43 49 L st M Q := G_putf rfl (by decide) rfl rfl rfl
theorem x43_49 : XX X d 43 (49, [some (.ref a), l1], st, M) Q = XX X d 43 (50, [some (.ref a), l1], .ref a :: st, M) Q := H_ld rfl rfl rfl rfl rfl
theorem x43_49n : XX X d 43 (49, [some (.null), l1], st, M) Q = XX X d 43 (50, [some (.null), l1], .null :: st, M) Q := H_ld rfl rfl rfl rfl rfl
theorem x43_50 : XX X d 43 (50, [l0, some (.ref a)], st, M) Q = XX X d 43 (51, [l0, some (.ref a)], .ref a :: st, M) Q := H_ld rfl rfl rfl rfl rfl
theorem x43_50n : XX X d 43 (50, [l0, some (.null)], st, M) Q = XX X d 43 (51, [l0, some (.null)], .null :: st, M) Q := H_ld rfl rfl rfl rfl rfl
theorem x43_51 : XX X d 43 (51, L, v :: .ref a :: st, M) Q = yp (M.2.2 a) a 5 0 v X d 43 54 L st M Q := G_putf rfl (by decide) rfl rfl rfl
theorem x43_54 : XX X d 43 (54, L, [], M) Q = Q (.inl none) M := G_retv rfl (by decide) rfl
theorem e43 : CC X d 43 [.ref a, .ref a1] M Q = XX X d 43 (0, [some (.ref a), some (.ref a1)], [], M) Q := H_ent rfl rfl
-- 44 X5_made ()LRegexTracer$Pattern;
theorem x44_0 : XX X d 44 (0, [some (.ref a)], st, M) Q = XX X d 44 (1, [some (.ref a)], .ref a :: st, M) Q := H_ld rfl rfl rfl rfl rfl
theorem x44_0n : XX X d 44 (0, [some (.null)], st, M) Q = XX X d 44 (1, [some (.null)], .null :: st, M) Q := H_ld rfl rfl rfl rfl rfl
theorem x44_1 : XX X d 44 (1, L, .ref a :: st, M) Q = yg (M.2.2 a) 5 1 X d 44 4 L st M Q := G_getf rfl (by decide) rfl rfl rfl
theorem x44_4 : XX X d 44 (4, L, [.ref a], M) Q = Q (.inl (some (.ref a))) M := G_ret rfl ⟨⟨⟨rfl, rfl, rfl, by decide⟩, rfl, rfl⟩, rfl, rfl⟩ rfl
theorem x44_4n : XX X d 44 (4, L, [.null], M) Q = Q (.inl (some .null)) M := G_ret rfl ⟨⟨⟨rfl, rfl, rfl, by decide⟩, rfl, rfl⟩, rfl, rfl⟩ rfl
theorem e44 : CC X d 44 [.ref a] M Q = XX X d 44 (0, [some (.ref a)], [], M) Q := H_ent rfl rfl
-- 45 X5_depth ()I
theorem x45_0 : XX X d 45 (0, [some (.ref a)], st, M) Q = XX X d 45 (1, [some (.ref a)], .ref a :: st, M) Q := H_ld rfl rfl rfl rfl rfl
theorem x45_0n : XX X d 45 (0, [some (.null)], st, M) Q = XX X d 45 (1, [some (.null)], .null :: st, M) Q := H_ld rfl rfl rfl rfl rfl
theorem x45_1 : XX X d 45 (1, L, .ref a :: st, M) Q = yg (M.2.2 a) 5 3 X d 45 4 L st M Q := G_getf rfl (by decide) rfl rfl rfl
theorem x45_4 : XX X d 45 (4, L, [.int (ii p)], M) Q = Q (.inl (some (.int (ii p)))) M := G_ret rfl ⟨⟨⟨rfl, rfl, rfl, by decide⟩, rfl, rfl⟩, rfl, rfl⟩ rfl
theorem e45 : CC X d 45 [.ref a] M Q = XX X d 45 (0, [some (.ref a)], [], M) Q := H_ent rfl rfl
-- 46 X5_read ()I
theorem x46_0 : XX X d 46 (0, L, st, M) Q = XX X d 46 (1, L, .int (ii 0) :: st, M) Q := G_cst rfl rfl rfl rfl rfl
theorem x46_1 (h : wide (some l0) = false) : XX X d 46 (1, [l0, l1], .int x :: st, M) Q = XX X d 46 (2, [l0, some (.int x)], st, M) Q := H_st rfl rfl rfl rfl rfl rfl rfl rfl (Or.inr h)
theorem x46_2 : XX X d 46 (2, [l0, some (.int x)], st, M) Q = XX X d 46 (3, [l0, some (.int x)], .int x :: st, M) Q := H_ld rfl rfl rfl rfl rfl
theorem x46_3 : XX X d 46 (3, [some (.ref a), l1], st, M) Q = XX X d 46 (4, [some (.ref a), l1], .ref a :: st, M) Q := H_ld rfl rfl rfl rfl rfl
theorem x46_3n : XX X d 46 (3, [some (.null), l1], st, M) Q = XX X d 46 (4, [some (.null), l1], .null :: st, M) Q := H_ld rfl rfl rfl rfl rfl
theorem x46_4 : XX X d 46 (4, L, .ref a :: st, M) Q = yg (M.2.2 a) 5 0 X d 46 7 L st M Q := G_getf rfl (by decide) rfl rfl rfl
theorem x46_7 (hd : 0 < d) (hs : stB st = true) : XX X d 46 (7, L, .ref a :: st, M) Q = (mcl M a = some 6 ∧ CC X (d - 1) 58 [.ref a] M (XC X d 46 7 10 L st Q)) := H_virt [] rfl (by decide) rfl rfl rfl rfl rfl hd hs
theorem x46_10 (h : -2147483648 ≤ p ∧ p ≤ 2147483647 ∧ -2147483648 ≤ q ∧ q ≤ 2147483647) : XX X d 46 (10, L, .int (ii q) :: .int (ii p) :: st, M) Q = bq (q ≤ p) X d 46 37 13 L st M Q := H_if2 rfl ⟨rfl, rfl, rfl, by decide⟩ rfl rfl rfl rfl (D_le h)
theorem x46_13 : XX X d 46 (13, [some (.ref a), l1], st, M) Q = XX X d 46 (14, [some (.ref a), l1], .ref a :: st, M) Q := H_ld rfl rfl rfl rfl rfl
theorem x46_13n : XX X d 46 (13, [some (.null), l1], st, M) Q = XX X d 46 (14, [some (.null), l1], .null :: st, M) Q := H_ld rfl rfl rfl rfl rfl
theorem x46_14 : XX X d 46 (14, [some (.ref a), l1], st, M) Q = XX X d 46 (15, [some (.ref a), l1], .ref a :: st, M) Q := H_ld rfl rfl rfl rfl rfl
theorem x46_14n : XX X d 46 (14, [some (.null), l1], st, M) Q = XX X d 46 (15, [some (.null), l1], .null :: st, M) Q := H_ld rfl rfl rfl rfl rfl
theorem x46_15 : XX X d 46 (15, L, .ref a :: st, M) Q = yg (M.2.2 a) 5 0 X d 46 18 L st M Q := G_getf rfl (by decide) rfl rfl rfl
theorem x46_18 : XX X d 46 (18, [l0, some (.int x)], st, M) Q = XX X d 46 (19, [l0, some (.int x)], .int x :: st, M) Q := H_ld rfl rfl rfl rfl rfl
theorem x46_19 {v1 : Value} (hd : 0 < d) (hs : stB st = true) : XX X d 46 (19, L, v1 :: .ref a :: st, M) Q = (mcl M a = some 6 ∧ CC X (d - 1) 61 [.ref a, v1] M (XC X d 46 19 22 L st Q)) := H_virt [v1] rfl (by decide) rfl rfl rfl rfl rfl hd hs
theorem x46_22 : XX X d 46 (22, [l0, some (.int x)], st, M) Q = XX X d 46 (23, [l0, some (.int x)], .int x :: st, M) Q := H_ld rfl rfl rfl rfl rfl
theorem x46_23 {v1 v2 : Value} (hd : 0 < d) (hs : stB st = true) : XX X d 46 (23, L, v2 :: v1 :: .ref a :: st, M) Q = (mcl M a = some 5 ∧ CC X (d - 1) 48 [.ref a, v1, v2] M (XC X d 46 23 26 L st Q)) := H_virt [v1, v2] rfl (by decide) rfl rfl rfl rfl rfl hd hs
theorem x46_26 (h : -2147483648 ≤ p ∧ p ≤ 2147483647) : XX X d 46 (26, L, .int (ii p) :: st, M) Q = bq (p ≠ 0) X d 46 31 29 L st M Q := H_if rfl ⟨rfl, rfl, rfl, by decide⟩ rfl rfl rfl rfl (D_ne (b := 0) (by omega))
theorem x46_26b : XX X d 46 (26, L, .int (ii (b2i b)) :: st, M) Q = bq (b = true) X d 46 31 29 L st M Q := (x46_26 (b2i_r b)).trans (by rw [b2i_n0])
theorem x46_29 : XX X d 46 (29, [l0, some (.int x)], st, M) Q = XX X d 46 (30, [l0, some (.int x)], .int x :: st, M) Q := H_ld rfl rfl rfl rfl rfl
theorem x46_30 : XX X d 46 (30, L, [.int (ii p)], M) Q = Q (.inl (some (.int (ii p)))) M := G_ret rfl ⟨⟨⟨rfl, rfl, rfl, by decide⟩, rfl, rfl⟩, rfl, rfl⟩ rfl
theorem x46_31 (h : wide (some l0) = false) : XX X d 46 (31, [l0, some (.int (ii p))], st, M) Q = XX X d 46 (34, [l0, some (.int (ii (p + 1)))], st, M) Q := H_inc rfl (by decide) rfl rfl rfl (Or.inr h)
theorem x46_34 : XX X d 46 (34, L, st, M) Q = XX X d 46 (2, L, st, M) Q := H_jmp rfl (by decide) rfl
theorem x46_37 : XX X d 46 (37, [some (.ref a), l1], st, M) Q = XX X d 46 (38, [some (.ref a), l1], .ref a :: st, M) Q := H_ld rfl rfl rfl rfl rfl
theorem x46_37n : XX X d 46 (37, [some (.null), l1], st, M) Q = XX X d 46 (38, [some (.null), l1], .null :: st, M) Q := H_ld rfl rfl rfl rfl rfl
theorem x46_38 : XX X d 46 (38, L, .ref a :: st, M) Q = yg (M.2.2 a) 5 4 X d 46 41 L st M Q := G_getf rfl (by decide) rfl rfl rfl
theorem x46_41 (h : -2147483648 ≤ p ∧ p ≤ 2147483647) : XX X d 46 (41, L, .int (ii p) :: st, M) Q = bq (p ≠ 0) X d 46 51 44 L st M Q := H_if rfl ⟨rfl, rfl, rfl, by decide⟩ rfl rfl rfl rfl (D_ne (b := 0) (by omega))
theorem x46_41b : XX X d 46 (41, L, .int (ii (b2i b)) :: st, M) Q = bq (b = true) X d 46 51 44 L st M Q := (x46_41 (b2i_r b)).trans (by rw [b2i_n0])
theorem x46_44 : XX X d 46 (44, [some (.ref a), l1], st, M) Q = XX X d 46 (45, [some (.ref a), l1], .ref a :: st, M) Q := H_ld rfl rfl rfl rfl rfl
theorem x46_44n : XX X d 46 (44, [some (.null), l1], st, M) Q = XX X d 46 (45, [some (.null), l1], .null :: st, M) Q := H_ld rfl rfl rfl rfl rfl
theorem x46_45 : XX X d 46 (45, L, .ref a :: st, M) Q = yg (M.2.2 a) 5 3 X d 46 48 L st M Q := G_getf rfl (by decide) rfl rfl rfl
theorem x46_48 (h : -2147483648 ≤ p ∧ p ≤ 2147483647) : XX X d 46 (48, L, .int (ii p) :: st, M) Q = bq (p ≤ 0) X d 46 59 51 L st M Q := H_if rfl ⟨rfl, rfl, rfl, by decide⟩ rfl rfl rfl rfl (D_ge (b := 0) (by omega))
theorem x46_51 : XX X d 46 (51, [some (.ref a), l1], st, M) Q = XX X d 46 (52, [some (.ref a), l1], .ref a :: st, M) Q := H_ld rfl rfl rfl rfl rfl
theorem x46_51n : XX X d 46 (51, [some (.null), l1], st, M) Q = XX X d 46 (52, [some (.null), l1], .null :: st, M) Q := H_ld rfl rfl rfl rfl rfl
theorem x46_52 : XX X d 46 (52, L, .ref a :: st, M) Q = yg (M.2.2 a) 5 0 X d 46 55 L st M Q := G_getf rfl (by decide) rfl rfl rfl
theorem x46_55 (hd : 0 < d) (hs : stB st = true) : XX X d 46 (55, L, .ref a :: st, M) Q = (mcl M a = some 6 ∧ CC X (d - 1) 58 [.ref a] M (XC X d 46 55 58 L st Q)) := H_virt [] rfl (by decide) rfl rfl rfl rfl rfl hd hs
theorem x46_58 : XX X d 46 (58, L, [.int (ii p)], M) Q = Q (.inl (some (.int (ii p)))) M := G_ret rfl ⟨⟨⟨rfl, rfl, rfl, by decide⟩, rfl, rfl⟩, rfl, rfl⟩ rfl
theorem x46_59 : XX X d 46 (59, [some (.ref a), l1], st, M) Q = XX X d 46 (60, [some (.ref a), l1], .ref a :: st, M) Q := H_ld rfl rfl rfl rfl rfl
theorem x46_59n : XX X d 46 (59, [some (.null), l1], st, M) Q = XX X d 46 (60, [some (.null), l1], .null :: st, M) Q := H_ld rfl rfl rfl rfl rfl
theorem x46_60 (hd : 0 < d) (hs : stB st = true) : XX X d 46 (60, L, .ref a :: st, M) Q = (mcl M a = some 5 ∧ CC X (d - 1) 47 [.ref a] M (XC X d 46 60 63 L st Q)) := H_virt [] rfl (by decide) rfl rfl rfl rfl rfl hd hs
theorem x46_63 : XX X d 46 (63, L, st, M) Q = XX X d 46 (64, L, .int (ii (-1)) :: st, M) Q := G_cst rfl rfl rfl rfl rfl
theorem x46_64 : XX X d 46 (64, L, [.int (ii p)], M) Q = Q (.inl (some (.int (ii p)))) M := G_ret rfl ⟨⟨⟨rfl, rfl, rfl, by decide⟩, rfl, rfl⟩, rfl, rfl⟩ rfl
theorem e46 : CC X d 46 [.ref a] M Q = XX X d 46 (0, [some (.ref a), none], [], M) Q := H_ent rfl rfl
-- 47 X5_finish ()V
theorem x47_0 : XX X d 47 (0, [some (.ref a)], st, M) Q = XX X d 47 (1, [some (.ref a)], .ref a :: st, M) Q := H_ld rfl rfl rfl rfl rfl
theorem x47_0n : XX X d 47 (0, [some (.null)], st, M) Q = XX X d 47 (1, [some (.null)], .null :: st, M) Q := H_ld rfl rfl rfl rfl rfl
theorem x47_1 : XX X d 47 (1, L, .ref a :: st, M) Q = yg (M.2.2 a) 5 2 X d 47 4 L st M Q := G_getf rfl (by decide) rfl rfl rfl
theorem x47_4 : XX X d 47 (4, [some (.ref a)], st, M) Q = XX X d 47 (5, [some (.ref a)], .ref a :: st, M) Q := H_ld rfl rfl rfl rfl rfl
theorem x47_4n : XX X d 47 (4, [some (.null)], st, M) Q = XX X d 47 (5, [some (.null)], .null :: st, M) Q := H_ld rfl rfl rfl rfl rfl
theorem x47_5 : XX X d 47 (5, L, .ref a :: st, M) Q = yg (M.2.2 a) 5 1 X d 47 8 L st M Q := G_getf rfl (by decide) rfl rfl rfl
theorem x47_8 (hd : 0 < d) (hs : stB st = true) : XX X d 47 (8, L, .ref a :: st, M) Q = (mcl M a = some 4 ∧ CC X (d - 1) 34 [.ref a] M (XC X d 47 8 11 L st Q)) := H_virt [] rfl (by decide) rfl rfl rfl rfl rfl hd hs
theorem x47_11 {v1 : Value} (hd : 0 < d) (hs : stB st = true) : XX X d 47 (11, L, v1 :: .ref a :: st, M) Q = (mcl M a = some 3 ∧ CC X (d - 1) 32 [.ref a, v1] M (XC X d 47 11 14 L st Q)) := H_virt [v1] rfl (by decide) rfl rfl rfl rfl rfl hd hs
theorem x47_14 : XX X d 47 (14, [some (.ref a)], st, M) Q = XX X d 47 (15, [some (.ref a)], .ref a :: st, M) Q := H_ld rfl rfl rfl rfl rfl
theorem x47_14n : XX X d 47 (14, [some (.null)], st, M) Q = XX X d 47 (15, [some (.null)], .null :: st, M) Q := H_ld rfl rfl rfl rfl rfl
theorem x47_15 : XX X d 47 (15, L, .ref a :: st, M) Q = yg (M.2.2 a) 5 1 X d 47 18 L st M Q := G_getf rfl (by decide) rfl rfl rfl
theorem x47_18 : XX X d 47 (18, [some (.ref a)], st, M) Q = XX X d 47 (19, [some (.ref a)], .ref a :: st, M) Q := H_ld rfl rfl rfl rfl rfl
theorem x47_18n : XX X d 47 (18, [some (.null)], st, M) Q = XX X d 47 (19, [some (.null)], .null :: st, M) Q := H_ld rfl rfl rfl rfl rfl
theorem x47_19 : XX X d 47 (19, L, .ref a :: st, M) Q = yg (M.2.2 a) 5 2 X d 47 22 L st M Q := G_getf rfl (by decide) rfl rfl rfl
theorem x47_22 : XX X d 47 (22, L, .ref a :: st, M) Q = yg (M.2.2 a) 3 2 X d 47 25 L st M Q := G_getf rfl (by decide) rfl rfl rfl
theorem x47_25 {v1 : Value} (hd : 0 < d) (hs : stB st = true) : XX X d 47 (25, L, v1 :: .ref a :: st, M) Q = (mcl M a = some 4 ∧ CC X (d - 1) 41 [.ref a, v1] M (XC X d 47 25 28 L st Q)) := H_virt [v1] rfl (by decide) rfl rfl rfl rfl rfl hd hs
theorem x47_28 : XX X d 47 (28, [some (.ref a)], st, M) Q = XX X d 47 (29, [some (.ref a)], .ref a :: st, M) Q := H_ld rfl rfl rfl rfl rfl
theorem x47_28n : XX X d 47 (28, [some (.null)], st, M) Q = XX X d 47 (29, [some (.null)], .null :: st, M) Q := H_ld rfl rfl rfl rfl rfl
theorem x47_29 : XX X d 47 (29, L, .ref a :: st, M) Q = yg (M.2.2 a) 5 1 X d 47 32 L st M Q := G_getf rfl (by decide) rfl rfl rfl
theorem x47_32 : XX X d 47 (32, L, st, M) Q = XX X d 47 (34, L, .int (ii 8) :: st, M) Q := G_cst rfl rfl rfl rfl rfl
theorem x47_34 : XX X d 47 (34, L, st, M) Q = XX X d 47 (35, L, .int (ii 0) :: st, M) Q := G_cst rfl rfl rfl rfl rfl
theorem x47_35 : XX X d 47 (35, L, st, M) Q = XX X d 47 (36, L, .int (ii 0) :: st, M) Q := G_cst rfl rfl rfl rfl rfl
theorem x47_36 {v1 v2 v3 : Value} (hd : 0 < d) (hs : stB st = true) : XX X d 47 (36, L, v3 :: v2 :: v1 :: .ref a :: st, M) Q = (mcl M a = some 4 ∧ CC X (d - 1) 39 [.ref a, v1, v2, v3] M (XC X d 47 36 39 L st Q)) := H_virt [v1, v2, v3] rfl (by decide) rfl rfl rfl rfl rfl hd hs
theorem x47_39 : XX X d 47 (39, [some (.ref a)], st, M) Q = XX X d 47 (40, [some (.ref a)], .ref a :: st, M) Q := H_ld rfl rfl rfl rfl rfl
theorem x47_39n : XX X d 47 (39, [some (.null)], st, M) Q = XX X d 47 (40, [some (.null)], .null :: st, M) Q := H_ld rfl rfl rfl rfl rfl
theorem x47_40 : XX X d 47 (40, L, .ref a :: st, M) Q = yg (M.2.2 a) 5 1 X d 47 43 L st M Q := G_getf rfl (by decide) rfl rfl rfl
theorem x47_43 : XX X d 47 (43, [some (.ref a)], st, M) Q = XX X d 47 (44, [some (.ref a)], .ref a :: st, M) Q := H_ld rfl rfl rfl rfl rfl
theorem x47_43n : XX X d 47 (43, [some (.null)], st, M) Q = XX X d 47 (44, [some (.null)], .null :: st, M) Q := H_ld rfl rfl rfl rfl rfl
theorem x47_44 : XX X d 47 (44, L, .ref a :: st, M) Q = yg (M.2.2 a) 5 2 X d 47 47 L st M Q := G_getf rfl (by decide) rfl rfl rfl
theorem x47_47 : XX X d 47 (47, L, .ref a :: st, M) Q = yg (M.2.2 a) 3 10 X d 47 50 L st M Q := G_getf rfl (by decide) rfl rfl rfl
theorem x47_50 : XX X d 47 (50, L, v :: .ref a :: st, M) Q = yp (M.2.2 a) a 4 5 v X d 47 53 L st M Q := G_putf rfl (by decide) rfl rfl rfl
theorem x47_53 : XX X d 47 (53, [some (.ref a)], st, M) Q = XX X d 47 (54, [some (.ref a)], .ref a :: st, M) Q := H_ld rfl rfl rfl rfl rfl
theorem x47_53n : XX X d 47 (53, [some (.null)], st, M) Q = XX X d 47 (54, [some (.null)], .null :: st, M) Q := H_ld rfl rfl rfl rfl rfl
theorem x47_54 : XX X d 47 (54, L, .ref a :: st, M) Q = yg (M.2.2 a) 5 1 X d 47 57 L st M Q := G_getf rfl (by decide) rfl rfl rfl
theorem x47_57 : XX X d 47 (57, [some (.ref a)], st, M) Q = XX X d 47 (58, [some (.ref a)], .ref a :: st, M) Q := H_ld rfl rfl rfl rfl rfl
theorem x47_57n : XX X d 47 (57, [some (.null)], st, M) Q = XX X d 47 (58, [some (.null)], .null :: st, M) Q := H_ld rfl rfl rfl rfl rfl
theorem x47_58 : XX X d 47 (58, L, .ref a :: st, M) Q = yg (M.2.2 a) 5 2 X d 47 61 L st M Q := G_getf rfl (by decide) rfl rfl rfl
theorem x47_61 : XX X d 47 (61, L, .ref a :: st, M) Q = yg (M.2.2 a) 3 11 X d 47 64 L st M Q := G_getf rfl (by decide) rfl rfl rfl
theorem x47_64 : XX X d 47 (64, L, v :: .ref a :: st, M) Q = yp (M.2.2 a) a 4 6 v X d 47 67 L st M Q := G_putf rfl (by decide) rfl rfl rfl
theorem x47_67 : XX X d 47 (67, [some (.ref a)], st, M) Q = XX X d 47 (68, [some (.ref a)], .ref a :: st, M) Q := H_ld rfl rfl rfl rfl rfl
theorem x47_67n : XX X d 47 (67, [some (.null)], st, M) Q = XX X d 47 (68, [some (.null)], .null :: st, M) Q := H_ld rfl rfl rfl rfl rfl
theorem x47_68 : XX X d 47 (68, L, .ref a :: st, M) Q = yg (M.2.2 a) 5 1 X d 47 71 L st M Q := G_getf rfl (by decide) rfl rfl rfl
theorem x47_71 : XX X d 47 (71, L, .ref a :: st, M) Q = yg (M.2.2 a) 4 0 X d 47 74 L st M Q := G_getf rfl (by decide) rfl rfl rfl
theorem x47_74 : XX X d 47 (74, [some (.ref a)], st, M) Q = XX X d 47 (75, [some (.ref a)], .ref a :: st, M) Q := H_ld rfl rfl rfl rfl rfl
theorem x47_74n : XX X d 47 (74, [some (.null)], st, M) Q = XX X d 47 (75, [some (.null)], .null :: st, M) Q := H_ld rfl rfl rfl rfl rfl
theorem x47_75 : XX X d 47 (75, L, .ref a :: st, M) Q = yg (M.2.2 a) 5 0 X d 47 78 L st M Q := G_getf rfl (by decide) rfl rfl rfl
theorem x47_78 {v1 : Value} (hd : 0 < d) (hs : stB st = true) : XX X d 47 (78, L, v1 :: .ref a :: st, M) Q = (mcl M a = some 6 ∧ CC X (d - 1) 69 [.ref a, v1] M (XC X d 47 78 81 L st Q)) := H_virt [v1] rfl (by decide) rfl rfl rfl rfl rfl hd hs
theorem x47_81 : XX X d 47 (81, L, [], M) Q = Q (.inl none) M := G_retv rfl (by decide) rfl
theorem e47 : CC X d 47 [.ref a] M Q = XX X d 47 (0, [some (.ref a)], [], M) Q := H_ent rfl rfl
-- 48 X5_accepts (II)Z
theorem x48_0 : XX X d 48 (0, [some (.ref a), l1, l2], st, M) Q = XX X d 48 (1, [some (.ref a), l1, l2], .ref a :: st, M) Q := H_ld rfl rfl rfl rfl rfl
theorem x48_0n : XX X d 48 (0, [some (.null), l1, l2], st, M) Q = XX X d 48 (1, [some (.null), l1, l2], .null :: st, M) Q := H_ld rfl rfl rfl rfl rfl
theorem x48_1 : XX X d 48 (1, L, .ref a :: st, M) Q = yg (M.2.2 a) 5 4 X d 48 4 L st M Q := G_getf rfl (by decide) rfl rfl rfl
theorem x48_4 (h : -2147483648 ≤ p ∧ p ≤ 2147483647) : XX X d 48 (4, L, .int (ii p) :: st, M) Q = bq (p = 0) X d 48 14 7 L st M Q := H_if rfl ⟨rfl, rfl, rfl, by decide⟩ rfl rfl rfl rfl (D_eq (b := 0) (by omega))
theorem x48_4b : XX X d 48 (4, L, .int (ii (b2i b)) :: st, M) Q = bq (b = false) X d 48 14 7 L st M Q := (x48_4 (b2i_r b)).trans (by rw [b2i_0])
theorem x48_7 : XX X d 48 (7, [some (.ref a), l1, l2], st, M) Q = XX X d 48 (8, [some (.ref a), l1, l2], .ref a :: st, M) Q := H_ld rfl rfl rfl rfl rfl
theorem x48_7n : XX X d 48 (7, [some (.null), l1, l2], st, M) Q = XX X d 48 (8, [some (.null), l1, l2], .null :: st, M) Q := H_ld rfl rfl rfl rfl rfl
theorem x48_8 : XX X d 48 (8, [l0, some (.int x), l2], st, M) Q = XX X d 48 (9, [l0, some (.int x), l2], .int x :: st, M) Q := H_ld rfl rfl rfl rfl rfl
theorem x48_9 : XX X d 48 (9, [l0, l1, some (.int x)], st, M) Q = XX X d 48 (10, [l0, l1, some (.int x)], .int x :: st, M) Q := H_ld rfl rfl rfl rfl rfl
theorem x48_10 {v1 v2 : Value} (hd : 0 < d) (hs : stB st = true) : XX X d 48 (10, L, v2 :: v1 :: .ref a :: st, M) Q = (mcl M a = some 5 ∧ CC X (d - 1) 52 [.ref a, v1, v2] M (XC X d 48 10 13 L st Q)) := H_virt [v1, v2] rfl (by decide) rfl rfl rfl rfl rfl hd hs
theorem x48_13 (h : p = 0 ∨ p = 1) : XX X d 48 (13, L, [.int (ii p)], M) Q = Q (.inl (some (.int (ii p)))) M := G_ret rfl ⟨⟨⟨rfl, rfl, rfl, by decide⟩, rfl, rfl⟩, rfl, rfl⟩ (bz_ok h)
theorem x48_14 : XX X d 48 (14, [l0, some (.int x), l2], st, M) Q = XX X d 48 (15, [l0, some (.int x), l2], .int x :: st, M) Q := H_ld rfl rfl rfl rfl rfl
theorem x48_15 {v1 : Value} (hd : 0 < d) (hs : stB st = true) : XX X d 48 (15, L, v1 :: st, M) Q = CC X (d - 1) 49 [v1] M (XC X d 48 15 18 L st Q) := H_static [v1] rfl (by decide) rfl rfl (by decide) rfl rfl hd hs
theorem x48_18 (h : -2147483648 ≤ p ∧ p ≤ 2147483647) : XX X d 48 (18, L, .int (ii p) :: st, M) Q = bq (p = 0) X d 48 30 21 L st M Q := H_if rfl ⟨rfl, rfl, rfl, by decide⟩ rfl rfl rfl rfl (D_eq (b := 0) (by omega))
theorem x48_18b : XX X d 48 (18, L, .int (ii (b2i b)) :: st, M) Q = bq (b = false) X d 48 30 21 L st M Q := (x48_18 (b2i_r b)).trans (by rw [b2i_0])
theorem x48_21 : XX X d 48 (21, [some (.ref a), l1, l2], st, M) Q = XX X d 48 (22, [some (.ref a), l1, l2], .ref a :: st, M) Q := H_ld rfl rfl rfl rfl rfl
theorem x48_21n : XX X d 48 (21, [some (.null), l1, l2], st, M) Q = XX X d 48 (22, [some (.null), l1, l2], .null :: st, M) Q := H_ld rfl rfl rfl rfl rfl
theorem x48_22 : XX X d 48 (22, L, st, M) Q = XX X d 48 (23, L, .int (ii 1) :: st, M) Q := G_cst rfl rfl rfl rfl rfl
theorem x48_23 : XX X d 48 (23, [l0, some (.int x), l2], st, M) Q = XX X d 48 (24, [l0, some (.int x), l2], .int x :: st, M) Q := H_ld rfl rfl rfl rfl rfl
theorem x48_24 : XX X d 48 (24, L, st, M) Q = XX X d 48 (25, L, .int (ii 0) :: st, M) Q := G_cst rfl rfl rfl rfl rfl
theorem x48_25 {v1 v2 v3 : Value} (hd : 0 < d) (hs : stB st = true) : XX X d 48 (25, L, v3 :: v2 :: v1 :: .ref a :: st, M) Q = (mcl M a = some 5 ∧ CC X (d - 1) 50 [.ref a, v1, v2, v3] M (XC X d 48 25 28 L st Q)) := H_virt [v1, v2, v3] rfl (by decide) rfl rfl rfl rfl rfl hd hs
theorem x48_28 : XX X d 48 (28, L, st, M) Q = XX X d 48 (29, L, .int (ii 1) :: st, M) Q := G_cst rfl rfl rfl rfl rfl
theorem x48_29 (h : p = 0 ∨ p = 1) : XX X d 48 (29, L, [.int (ii p)], M) Q = Q (.inl (some (.int (ii p)))) M := G_ret rfl ⟨⟨⟨rfl, rfl, rfl, by decide⟩, rfl, rfl⟩, rfl, rfl⟩ (bz_ok h)
theorem x48_30 : XX X d 48 (30, [l0, some (.int x), l2], st, M) Q = XX X d 48 (31, [l0, some (.int x), l2], .int x :: st, M) Q := H_ld rfl rfl rfl rfl rfl
theorem x48_31 (h : -2147483648 ≤ p ∧ p ≤ 2147483647) : XX X d 48 (31, L, .int (ii p) :: st, M) Q = yt (swI [(40, 89), (41, 94), (42, 105), (43, 105), (46, 73), (63, 105), (91, 82), (124, 99)] [120, 125, 136, 136, 104, 136, 113, 130] (some 142) p) X d 48 L st M Q := H_lsw rfl (by decide) rfl rfl h
theorem x48_104 : XX X d 48 (104, [some (.ref a), l1, l2], st, M) Q = XX X d 48 (105, [some (.ref a), l1, l2], .ref a :: st, M) Q := H_ld rfl rfl rfl rfl rfl
theorem x48_104n : XX X d 48 (104, [some (.null), l1, l2], st, M) Q = XX X d 48 (105, [some (.null), l1, l2], .null :: st, M) Q := H_ld rfl rfl rfl rfl rfl
theorem x48_105 : XX X d 48 (105, L, st, M) Q = XX X d 48 (106, L, .int (ii 2) :: st, M) Q := G_cst rfl rfl rfl rfl rfl
theorem x48_106 : XX X d 48 (106, L, st, M) Q = XX X d 48 (107, L, .int (ii 0) :: st, M) Q := G_cst rfl rfl rfl rfl rfl
theorem x48_107 : XX X d 48 (107, L, st, M) Q = XX X d 48 (108, L, .int (ii 0) :: st, M) Q := G_cst rfl rfl rfl rfl rfl
theorem x48_108 {v1 v2 v3 : Value} (hd : 0 < d) (hs : stB st = true) : XX X d 48 (108, L, v3 :: v2 :: v1 :: .ref a :: st, M) Q = (mcl M a = some 5 ∧ CC X (d - 1) 50 [.ref a, v1, v2, v3] M (XC X d 48 108 111 L st Q)) := H_virt [v1, v2, v3] rfl (by decide) rfl rfl rfl rfl rfl hd hs
theorem x48_111 : XX X d 48 (111, L, st, M) Q = XX X d 48 (112, L, .int (ii 1) :: st, M) Q := G_cst rfl rfl rfl rfl rfl
theorem x48_112 (h : p = 0 ∨ p = 1) : XX X d 48 (112, L, [.int (ii p)], M) Q = Q (.inl (some (.int (ii p)))) M := G_ret rfl ⟨⟨⟨rfl, rfl, rfl, by decide⟩, rfl, rfl⟩, rfl, rfl⟩ (bz_ok h)
theorem x48_113 : XX X d 48 (113, [some (.ref a), l1, l2], st, M) Q = XX X d 48 (114, [some (.ref a), l1, l2], .ref a :: st, M) Q := H_ld rfl rfl rfl rfl rfl
theorem x48_113n : XX X d 48 (113, [some (.null), l1, l2], st, M) Q = XX X d 48 (114, [some (.null), l1, l2], .null :: st, M) Q := H_ld rfl rfl rfl rfl rfl
theorem x48_114 : XX X d 48 (114, [l0, l1, some (.int x)], st, M) Q = XX X d 48 (115, [l0, l1, some (.int x)], .int x :: st, M) Q := H_ld rfl rfl rfl rfl rfl
theorem x48_115 {v1 : Value} (hd : 0 < d) (hs : stB st = true) : XX X d 48 (115, L, v1 :: .ref a :: st, M) Q = (mcl M a = some 5 ∧ CC X (d - 1) 51 [.ref a, v1] M (XC X d 48 115 118 L st Q)) := H_virt [v1] rfl (by decide) rfl rfl rfl rfl rfl hd hs
theorem x48_118 : XX X d 48 (118, L, st, M) Q = XX X d 48 (119, L, .int (ii 1) :: st, M) Q := G_cst rfl rfl rfl rfl rfl
theorem x48_119 (h : p = 0 ∨ p = 1) : XX X d 48 (119, L, [.int (ii p)], M) Q = Q (.inl (some (.int (ii p)))) M := G_ret rfl ⟨⟨⟨rfl, rfl, rfl, by decide⟩, rfl, rfl⟩, rfl, rfl⟩ (bz_ok h)
theorem x48_120 : XX X d 48 (120, [some (.ref a), l1, l2], st, M) Q = XX X d 48 (121, [some (.ref a), l1, l2], .ref a :: st, M) Q := H_ld rfl rfl rfl rfl rfl
theorem x48_120n : XX X d 48 (120, [some (.null), l1, l2], st, M) Q = XX X d 48 (121, [some (.null), l1, l2], .null :: st, M) Q := H_ld rfl rfl rfl rfl rfl
theorem x48_121 (hd : 0 < d) (hs : stB st = true) : XX X d 48 (121, L, .ref a :: st, M) Q = (mcl M a = some 5 ∧ CC X (d - 1) 53 [.ref a] M (XC X d 48 121 124 L st Q)) := H_virt [] rfl (by decide) rfl rfl rfl rfl rfl hd hs
theorem x48_124 (h : p = 0 ∨ p = 1) : XX X d 48 (124, L, [.int (ii p)], M) Q = Q (.inl (some (.int (ii p)))) M := G_ret rfl ⟨⟨⟨rfl, rfl, rfl, by decide⟩, rfl, rfl⟩, rfl, rfl⟩ (bz_ok h)
theorem x48_125 : XX X d 48 (125, [some (.ref a), l1, l2], st, M) Q = XX X d 48 (126, [some (.ref a), l1, l2], .ref a :: st, M) Q := H_ld rfl rfl rfl rfl rfl
theorem x48_125n : XX X d 48 (125, [some (.null), l1, l2], st, M) Q = XX X d 48 (126, [some (.null), l1, l2], .null :: st, M) Q := H_ld rfl rfl rfl rfl rfl
theorem x48_126 (hd : 0 < d) (hs : stB st = true) : XX X d 48 (126, L, .ref a :: st, M) Q = (mcl M a = some 5 ∧ CC X (d - 1) 54 [.ref a] M (XC X d 48 126 129 L st Q)) := H_virt [] rfl (by decide) rfl rfl rfl rfl rfl hd hs
theorem x48_129 (h : p = 0 ∨ p = 1) : XX X d 48 (129, L, [.int (ii p)], M) Q = Q (.inl (some (.int (ii p)))) M := G_ret rfl ⟨⟨⟨rfl, rfl, rfl, by decide⟩, rfl, rfl⟩, rfl, rfl⟩ (bz_ok h)
theorem x48_130 : XX X d 48 (130, [some (.ref a), l1, l2], st, M) Q = XX X d 48 (131, [some (.ref a), l1, l2], .ref a :: st, M) Q := H_ld rfl rfl rfl rfl rfl
theorem x48_130n : XX X d 48 (130, [some (.null), l1, l2], st, M) Q = XX X d 48 (131, [some (.null), l1, l2], .null :: st, M) Q := H_ld rfl rfl rfl rfl rfl
theorem x48_131 (hd : 0 < d) (hs : stB st = true) : XX X d 48 (131, L, .ref a :: st, M) Q = (mcl M a = some 5 ∧ CC X (d - 1) 55 [.ref a] M (XC X d 48 131 134 L st Q)) := H_virt [] rfl (by decide) rfl rfl rfl rfl rfl hd hs
theorem x48_134 : XX X d 48 (134, L, st, M) Q = XX X d 48 (135, L, .int (ii 1) :: st, M) Q := G_cst rfl rfl rfl rfl rfl
theorem x48_135 (h : p = 0 ∨ p = 1) : XX X d 48 (135, L, [.int (ii p)], M) Q = Q (.inl (some (.int (ii p)))) M := G_ret rfl ⟨⟨⟨rfl, rfl, rfl, by decide⟩, rfl, rfl⟩, rfl, rfl⟩ (bz_ok h)
theorem x48_136 : XX X d 48 (136, [some (.ref a), l1, l2], st, M) Q = XX X d 48 (137, [some (.ref a), l1, l2], .ref a :: st, M) Q := H_ld rfl rfl rfl rfl rfl
theorem x48_136n : XX X d 48 (136, [some (.null), l1, l2], st, M) Q = XX X d 48 (137, [some (.null), l1, l2], .null :: st, M) Q := H_ld rfl rfl rfl rfl rfl
theorem x48_137 : XX X d 48 (137, [l0, some (.int x), l2], st, M) Q = XX X d 48 (138, [l0, some (.int x), l2], .int x :: st, M) Q := H_ld rfl rfl rfl rfl rfl
theorem x48_138 {v1 : Value} (hd : 0 < d) (hs : stB st = true) : XX X d 48 (138, L, v1 :: .ref a :: st, M) Q = (mcl M a = some 5 ∧ CC X (d - 1) 56 [.ref a, v1] M (XC X d 48 138 141 L st Q)) := H_virt [v1] rfl (by decide) rfl rfl rfl rfl rfl hd hs
theorem x48_141 (h : p = 0 ∨ p = 1) : XX X d 48 (141, L, [.int (ii p)], M) Q = Q (.inl (some (.int (ii p)))) M := G_ret rfl ⟨⟨⟨rfl, rfl, rfl, by decide⟩, rfl, rfl⟩, rfl, rfl⟩ (bz_ok h)
theorem x48_142 : XX X d 48 (142, L, st, M) Q = XX X d 48 (143, L, .int (ii 0) :: st, M) Q := G_cst rfl rfl rfl rfl rfl
theorem x48_143 (h : p = 0 ∨ p = 1) : XX X d 48 (143, L, [.int (ii p)], M) Q = Q (.inl (some (.int (ii p)))) M := G_ret rfl ⟨⟨⟨rfl, rfl, rfl, by decide⟩, rfl, rfl⟩, rfl, rfl⟩ (bz_ok h)
theorem e48 : CC X d 48 [.ref a, .int x, .int x2] M Q = XX X d 48 (0, [some (.ref a), some (.int x), some (.int x2)], [], M) Q := H_ent rfl rfl
-- 49 X5_isCharacter (I)Z
theorem x49_0 : XX X d 49 (0, [some (.int x)], st, M) Q = XX X d 49 (1, [some (.int x)], .int x :: st, M) Q := H_ld rfl rfl rfl rfl rfl
theorem x49_1 : XX X d 49 (1, L, st, M) Q = XX X d 49 (3, L, .int (ii 97) :: st, M) Q := G_cst rfl rfl rfl rfl rfl
theorem x49_3 (h : -2147483648 ≤ p ∧ p ≤ 2147483647 ∧ -2147483648 ≤ q ∧ q ≤ 2147483647) : XX X d 49 (3, L, .int (ii q) :: .int (ii p) :: st, M) Q = bq (p < q) X d 49 12 6 L st M Q := H_if2 rfl ⟨rfl, rfl, rfl, by decide⟩ rfl rfl rfl rfl (D_lt h)
theorem x49_6 : XX X d 49 (6, [some (.int x)], st, M) Q = XX X d 49 (7, [some (.int x)], .int x :: st, M) Q := H_ld rfl rfl rfl rfl rfl
theorem x49_7 : XX X d 49 (7, L, st, M) Q = XX X d 49 (9, L, .int (ii 122) :: st, M) Q := G_cst rfl rfl rfl rfl rfl
theorem x49_9 (h : -2147483648 ≤ p ∧ p ≤ 2147483647 ∧ -2147483648 ≤ q ∧ q ≤ 2147483647) : XX X d 49 (9, L, .int (ii q) :: .int (ii p) :: st, M) Q = bq (p ≤ q) X d 49 30 12 L st M Q := H_if2 rfl ⟨rfl, rfl, rfl, by decide⟩ rfl rfl rfl rfl (D_ge h)
theorem x49_12 : XX X d 49 (12, [some (.int x)], st, M) Q = XX X d 49 (13, [some (.int x)], .int x :: st, M) Q := H_ld rfl rfl rfl rfl rfl
theorem x49_13 : XX X d 49 (13, L, st, M) Q = XX X d 49 (15, L, .int (ii 48) :: st, M) Q := G_cst rfl rfl rfl rfl rfl
theorem x49_15 (h : -2147483648 ≤ p ∧ p ≤ 2147483647 ∧ -2147483648 ≤ q ∧ q ≤ 2147483647) : XX X d 49 (15, L, .int (ii q) :: .int (ii p) :: st, M) Q = bq (p < q) X d 49 24 18 L st M Q := H_if2 rfl ⟨rfl, rfl, rfl, by decide⟩ rfl rfl rfl rfl (D_lt h)
theorem x49_18 : XX X d 49 (18, [some (.int x)], st, M) Q = XX X d 49 (19, [some (.int x)], .int x :: st, M) Q := H_ld rfl rfl rfl rfl rfl
theorem x49_19 : XX X d 49 (19, L, st, M) Q = XX X d 49 (21, L, .int (ii 57) :: st, M) Q := G_cst rfl rfl rfl rfl rfl
theorem x49_21 (h : -2147483648 ≤ p ∧ p ≤ 2147483647 ∧ -2147483648 ≤ q ∧ q ≤ 2147483647) : XX X d 49 (21, L, .int (ii q) :: .int (ii p) :: st, M) Q = bq (p ≤ q) X d 49 30 24 L st M Q := H_if2 rfl ⟨rfl, rfl, rfl, by decide⟩ rfl rfl rfl rfl (D_ge h)
theorem x49_24 : XX X d 49 (24, [some (.int x)], st, M) Q = XX X d 49 (25, [some (.int x)], .int x :: st, M) Q := H_ld rfl rfl rfl rfl rfl
theorem x49_25 : XX X d 49 (25, L, st, M) Q = XX X d 49 (27, L, .int (ii 32) :: st, M) Q := G_cst rfl rfl rfl rfl rfl
theorem x49_27 (h : -2147483648 ≤ p ∧ p ≤ 2147483647 ∧ -2147483648 ≤ q ∧ q ≤ 2147483647) : XX X d 49 (27, L, .int (ii q) :: .int (ii p) :: st, M) Q = bq (p ≠ q) X d 49 34 30 L st M Q := H_if2 rfl ⟨rfl, rfl, rfl, by decide⟩ rfl rfl rfl rfl (D_ne h)
theorem x49_30 : XX X d 49 (30, L, st, M) Q = XX X d 49 (31, L, .int (ii 1) :: st, M) Q := G_cst rfl rfl rfl rfl rfl
theorem x49_31 : XX X d 49 (31, L, st, M) Q = XX X d 49 (35, L, st, M) Q := H_jmp rfl (by decide) rfl
theorem x49_34 : XX X d 49 (34, L, st, M) Q = XX X d 49 (35, L, .int (ii 0) :: st, M) Q := G_cst rfl rfl rfl rfl rfl
theorem x49_35 (h : p = 0 ∨ p = 1) : XX X d 49 (35, L, [.int (ii p)], M) Q = Q (.inl (some (.int (ii p)))) M := G_ret rfl ⟨⟨⟨rfl, rfl, rfl, by decide⟩, rfl, rfl⟩, rfl, rfl⟩ (bz_ok h)
theorem e49 : CC X d 49 [.int x] M Q = XX X d 49 (0, [some (.int x)], [], M) Q := H_ent rfl rfl
-- 50 X5_addAtom (III)V
theorem x50_0 : XX X d 50 (0, [some (.ref a), l1, l2, l3], st, M) Q = XX X d 50 (1, [some (.ref a), l1, l2, l3], .ref a :: st, M) Q := H_ld rfl rfl rfl rfl rfl
theorem x50_0n : XX X d 50 (0, [some (.null), l1, l2, l3], st, M) Q = XX X d 50 (1, [some (.null), l1, l2, l3], .null :: st, M) Q := H_ld rfl rfl rfl rfl rfl
theorem x50_1 : XX X d 50 (1, L, .ref a :: st, M) Q = yg (M.2.2 a) 5 2 X d 50 4 L st M Q := G_getf rfl (by decide) rfl rfl rfl
theorem x50_4 : XX X d 50 (4, [some (.ref a), l1, l2, l3], st, M) Q = XX X d 50 (5, [some (.ref a), l1, l2, l3], .ref a :: st, M) Q := H_ld rfl rfl rfl rfl rfl
theorem x50_4n : XX X d 50 (4, [some (.null), l1, l2, l3], st, M) Q = XX X d 50 (5, [some (.null), l1, l2, l3], .null :: st, M) Q := H_ld rfl rfl rfl rfl rfl
theorem x50_5 : XX X d 50 (5, L, .ref a :: st, M) Q = yg (M.2.2 a) 5 1 X d 50 8 L st M Q := G_getf rfl (by decide) rfl rfl rfl
theorem x50_8 (hd : 0 < d) (hs : stB st = true) : XX X d 50 (8, L, .ref a :: st, M) Q = (mcl M a = some 4 ∧ CC X (d - 1) 34 [.ref a] M (XC X d 50 8 11 L st Q)) := H_virt [] rfl (by decide) rfl rfl rfl rfl rfl hd hs
theorem x50_11 : XX X d 50 (11, L, st, M) Q = XX X d 50 (12, L, .int (ii 1) :: st, M) Q := G_cst rfl rfl rfl rfl rfl
theorem x50_12 : XX X d 50 (12, L, st, M) Q = XX X d 50 (13, L, .int (ii 1) :: st, M) Q := G_cst rfl rfl rfl rfl rfl
theorem x50_13 {v1 v2 v3 : Value} (hd : 0 < d) (hs : stB st = true) : XX X d 50 (13, L, v3 :: v2 :: v1 :: .ref a :: st, M) Q = (mcl M a = some 3 ∧ CC X (d - 1) 29 [.ref a, v1, v2, v3] M (XC X d 50 13 16 L st Q)) := H_virt [v1, v2, v3] rfl (by decide) rfl rfl rfl rfl rfl hd hs
theorem x50_16 : XX X d 50 (16, [some (.ref a), l1, l2, l3], st, M) Q = XX X d 50 (17, [some (.ref a), l1, l2, l3], .ref a :: st, M) Q := H_ld rfl rfl rfl rfl rfl
theorem x50_16n : XX X d 50 (16, [some (.null), l1, l2, l3], st, M) Q = XX X d 50 (17, [some (.null), l1, l2, l3], .null :: st, M) Q := H_ld rfl rfl rfl rfl rfl
theorem x50_17 : XX X d 50 (17, L, .ref a :: st, M) Q = yg (M.2.2 a) 5 1 X d 50 20 L st M Q := G_getf rfl (by decide) rfl rfl rfl
theorem x50_20 : XX X d 50 (20, [l0, some (.int x), l2, l3], st, M) Q = XX X d 50 (21, [l0, some (.int x), l2, l3], .int x :: st, M) Q := H_ld rfl rfl rfl rfl rfl
theorem x50_21 : XX X d 50 (21, [l0, l1, some (.int x), l3], st, M) Q = XX X d 50 (22, [l0, l1, some (.int x), l3], .int x :: st, M) Q := H_ld rfl rfl rfl rfl rfl
theorem x50_22 : XX X d 50 (22, [l0, l1, l2, some (.int x)], st, M) Q = XX X d 50 (23, [l0, l1, l2, some (.int x)], .int x :: st, M) Q := H_ld rfl rfl rfl rfl rfl
theorem x50_23 {v1 v2 v3 : Value} (hd : 0 < d) (hs : stB st = true) : XX X d 50 (23, L, v3 :: v2 :: v1 :: .ref a :: st, M) Q = (mcl M a = some 4 ∧ CC X (d - 1) 39 [.ref a, v1, v2, v3] M (XC X d 50 23 26 L st Q)) := H_virt [v1, v2, v3] rfl (by decide) rfl rfl rfl rfl rfl hd hs
theorem x50_26 : XX X d 50 (26, L, [], M) Q = Q (.inl none) M := G_retv rfl (by decide) rfl
theorem e50 : CC X d 50 [.ref a, .int x, .int x2, .int x3] M Q = XX X d 50 (0, [some (.ref a), some (.int x), some (.int x2), some (.int x3)], [], M) Q := H_ent rfl rfl
-- 51 X5_openBrackets (I)V
theorem x51_0 : XX X d 51 (0, [some (.ref a), l1], st, M) Q = XX X d 51 (1, [some (.ref a), l1], .ref a :: st, M) Q := H_ld rfl rfl rfl rfl rfl
theorem x51_0n : XX X d 51 (0, [some (.null), l1], st, M) Q = XX X d 51 (1, [some (.null), l1], .null :: st, M) Q := H_ld rfl rfl rfl rfl rfl
theorem x51_1 : XX X d 51 (1, L, st, M) Q = XX X d 51 (2, L, .int (ii 1) :: st, M) Q := G_cst rfl rfl rfl rfl rfl
theorem x51_2 : XX X d 51 (2, L, v :: .ref a :: st, M) Q = yp (M.2.2 a) a 5 4 v X d 51 5 L st M Q := G_putf rfl (by decide) rfl rfl rfl
theorem x51_5 : XX X d 51 (5, [some (.ref a), l1], st, M) Q = XX X d 51 (6, [some (.ref a), l1], .ref a :: st, M) Q := H_ld rfl rfl rfl rfl rfl
theorem x51_5n : XX X d 51 (5, [some (.null), l1], st, M) Q = XX X d 51 (6, [some (.null), l1], .null :: st, M) Q := H_ld rfl rfl rfl rfl rfl
theorem x51_6 : XX X d 51 (6, L, st, M) Q = XX X d 51 (7, L, .int (ii 1) :: st, M) Q := G_cst rfl rfl rfl rfl rfl
theorem x51_7 : XX X d 51 (7, L, v :: .ref a :: st, M) Q = yp (M.2.2 a) a 5 5 v X d 51 10 L st M Q := G_putf rfl (by decide) rfl rfl rfl
theorem x51_10 : XX X d 51 (10, [some (.ref a), l1], st, M) Q = XX X d 51 (11, [some (.ref a), l1], .ref a :: st, M) Q := H_ld rfl rfl rfl rfl rfl
theorem x51_10n : XX X d 51 (10, [some (.null), l1], st, M) Q = XX X d 51 (11, [some (.null), l1], .null :: st, M) Q := H_ld rfl rfl rfl rfl rfl
theorem x51_11 : XX X d 51 (11, [l0, some (.int x)], st, M) Q = XX X d 51 (12, [l0, some (.int x)], .int x :: st, M) Q := H_ld rfl rfl rfl rfl rfl
theorem x51_12 : XX X d 51 (12, L, st, M) Q = XX X d 51 (13, L, .int (ii 1) :: st, M) Q := G_cst rfl rfl rfl rfl rfl
theorem x51_13 : XX X d 51 (13, L, .int (ii q) :: .int (ii p) :: st, M) Q = XX X d 51 (14, L, .int (ii (p + q)) :: st, M) Q := H_add rfl (by decide) rfl
theorem x51_14 : XX X d 51 (14, L, v :: .ref a :: st, M) Q = yp (M.2.2 a) a 5 6 v X d 51 17 L st M Q := G_putf rfl (by decide) rfl rfl rfl
theorem x51_17 : XX X d 51 (17, L, [], M) Q = Q (.inl none) M := G_retv rfl (by decide) rfl
theorem e51 : CC X d 51 [.ref a, .int x] M Q = XX X d 51 (0, [some (.ref a), some (.int x)], [], M) Q := H_ent rfl rfl
-- 52 X5_acceptsInBrackets (II)Z
theorem x52_0 : XX X d 52 (0, [l0, some (.int x), l2], st, M) Q = XX X d 52 (1, [l0, some (.int x), l2], .int x :: st, M) Q := H_ld rfl rfl rfl rfl rfl
theorem x52_1 {v1 : Value} (hd : 0 < d) (hs : stB st = true) : XX X d 52 (1, L, v1 :: st, M) Q = CC X (d - 1) 49 [v1] M (XC X d 52 1 4 L st Q) := H_static [v1] rfl (by decide) rfl rfl (by decide) rfl rfl hd hs
theorem x52_4 (h : -2147483648 ≤ p ∧ p ≤ 2147483647) : XX X d 52 (4, L, .int (ii p) :: st, M) Q = bq (p = 0) X d 52 14 7 L st M Q := H_if rfl ⟨rfl, rfl, rfl, by decide⟩ rfl rfl rfl rfl (D_eq (b := 0) (by omega))
theorem x52_4b : XX X d 52 (4, L, .int (ii (b2i b)) :: st, M) Q = bq (b = false) X d 52 14 7 L st M Q := (x52_4 (b2i_r b)).trans (by rw [b2i_0])
theorem x52_7 : XX X d 52 (7, [some (.ref a), l1, l2], st, M) Q = XX X d 52 (8, [some (.ref a), l1, l2], .ref a :: st, M) Q := H_ld rfl rfl rfl rfl rfl
theorem x52_7n : XX X d 52 (7, [some (.null), l1, l2], st, M) Q = XX X d 52 (8, [some (.null), l1, l2], .null :: st, M) Q := H_ld rfl rfl rfl rfl rfl
theorem x52_8 : XX X d 52 (8, L, st, M) Q = XX X d 52 (9, L, .int (ii 3) :: st, M) Q := G_cst rfl rfl rfl rfl rfl
theorem x52_9 : XX X d 52 (9, L, v :: .ref a :: st, M) Q = yp (M.2.2 a) a 5 4 v X d 52 12 L st M Q := G_putf rfl (by decide) rfl rfl rfl
theorem x52_12 : XX X d 52 (12, L, st, M) Q = XX X d 52 (13, L, .int (ii 1) :: st, M) Q := G_cst rfl rfl rfl rfl rfl
theorem x52_13 (h : p = 0 ∨ p = 1) : XX X d 52 (13, L, [.int (ii p)], M) Q = Q (.inl (some (.int (ii p)))) M := G_ret rfl ⟨⟨⟨rfl, rfl, rfl, by decide⟩, rfl, rfl⟩, rfl, rfl⟩ (bz_ok h)
theorem x52_14 : XX X d 52 (14, [l0, some (.int x), l2], st, M) Q = XX X d 52 (15, [l0, some (.int x), l2], .int x :: st, M) Q := H_ld rfl rfl rfl rfl rfl
theorem x52_15 : XX X d 52 (15, L, st, M) Q = XX X d 52 (17, L, .int (ii 94) :: st, M) Q := G_cst rfl rfl rfl rfl rfl
theorem x52_17 (h : -2147483648 ≤ p ∧ p ≤ 2147483647 ∧ -2147483648 ≤ q ∧ q ≤ 2147483647) : XX X d 52 (17, L, .int (ii q) :: .int (ii p) :: st, M) Q = bq (p ≠ q) X d 52 47 20 L st M Q := H_if2 rfl ⟨rfl, rfl, rfl, by decide⟩ rfl rfl rfl rfl (D_ne h)
theorem x52_20 : XX X d 52 (20, [some (.ref a), l1, l2], st, M) Q = XX X d 52 (21, [some (.ref a), l1, l2], .ref a :: st, M) Q := H_ld rfl rfl rfl rfl rfl
theorem x52_20n : XX X d 52 (20, [some (.null), l1, l2], st, M) Q = XX X d 52 (21, [some (.null), l1, l2], .null :: st, M) Q := H_ld rfl rfl rfl rfl rfl
theorem x52_21 : XX X d 52 (21, L, .ref a :: st, M) Q = yg (M.2.2 a) 5 4 X d 52 24 L st M Q := G_getf rfl (by decide) rfl rfl rfl
theorem x52_24 : XX X d 52 (24, L, st, M) Q = XX X d 52 (25, L, .int (ii 1) :: st, M) Q := G_cst rfl rfl rfl rfl rfl
theorem x52_25 (h : -2147483648 ≤ p ∧ p ≤ 2147483647 ∧ -2147483648 ≤ q ∧ q ≤ 2147483647) : XX X d 52 (25, L, .int (ii q) :: .int (ii p) :: st, M) Q = bq (p ≠ q) X d 52 47 28 L st M Q := H_if2 rfl ⟨rfl, rfl, rfl, by decide⟩ rfl rfl rfl rfl (D_ne h)
theorem x52_28 : XX X d 52 (28, [some (.ref a), l1, l2], st, M) Q = XX X d 52 (29, [some (.ref a), l1, l2], .ref a :: st, M) Q := H_ld rfl rfl rfl rfl rfl
theorem x52_28n : XX X d 52 (28, [some (.null), l1, l2], st, M) Q = XX X d 52 (29, [some (.null), l1, l2], .null :: st, M) Q := H_ld rfl rfl rfl rfl rfl
theorem x52_29 : XX X d 52 (29, L, st, M) Q = XX X d 52 (30, L, .int (ii 2) :: st, M) Q := G_cst rfl rfl rfl rfl rfl
theorem x52_30 : XX X d 52 (30, L, v :: .ref a :: st, M) Q = yp (M.2.2 a) a 5 4 v X d 52 33 L st M Q := G_putf rfl (by decide) rfl rfl rfl
theorem x52_33 : XX X d 52 (33, [some (.ref a), l1, l2], st, M) Q = XX X d 52 (34, [some (.ref a), l1, l2], .ref a :: st, M) Q := H_ld rfl rfl rfl rfl rfl
theorem x52_33n : XX X d 52 (33, [some (.null), l1, l2], st, M) Q = XX X d 52 (34, [some (.null), l1, l2], .null :: st, M) Q := H_ld rfl rfl rfl rfl rfl
theorem x52_34 : XX X d 52 (34, L, st, M) Q = XX X d 52 (35, L, .int (ii 0) :: st, M) Q := G_cst rfl rfl rfl rfl rfl
theorem x52_35 : XX X d 52 (35, L, v :: .ref a :: st, M) Q = yp (M.2.2 a) a 5 5 v X d 52 38 L st M Q := G_putf rfl (by decide) rfl rfl rfl
theorem x52_38 : XX X d 52 (38, [some (.ref a), l1, l2], st, M) Q = XX X d 52 (39, [some (.ref a), l1, l2], .ref a :: st, M) Q := H_ld rfl rfl rfl rfl rfl
theorem x52_38n : XX X d 52 (38, [some (.null), l1, l2], st, M) Q = XX X d 52 (39, [some (.null), l1, l2], .null :: st, M) Q := H_ld rfl rfl rfl rfl rfl
theorem x52_39 : XX X d 52 (39, [l0, l1, some (.int x)], st, M) Q = XX X d 52 (40, [l0, l1, some (.int x)], .int x :: st, M) Q := H_ld rfl rfl rfl rfl rfl
theorem x52_40 : XX X d 52 (40, L, st, M) Q = XX X d 52 (41, L, .int (ii 1) :: st, M) Q := G_cst rfl rfl rfl rfl rfl
theorem x52_41 : XX X d 52 (41, L, .int (ii q) :: .int (ii p) :: st, M) Q = XX X d 52 (42, L, .int (ii (p + q)) :: st, M) Q := H_add rfl (by decide) rfl
theorem x52_42 : XX X d 52 (42, L, v :: .ref a :: st, M) Q = yp (M.2.2 a) a 5 6 v X d 52 45 L st M Q := G_putf rfl (by decide) rfl rfl rfl
theorem x52_45 : XX X d 52 (45, L, st, M) Q = XX X d 52 (46, L, .int (ii 1) :: st, M) Q := G_cst rfl rfl rfl rfl rfl
theorem x52_46 (h : p = 0 ∨ p = 1) : XX X d 52 (46, L, [.int (ii p)], M) Q = Q (.inl (some (.int (ii p)))) M := G_ret rfl ⟨⟨⟨rfl, rfl, rfl, by decide⟩, rfl, rfl⟩, rfl, rfl⟩ (bz_ok h)
theorem x52_47 : XX X d 52 (47, [l0, some (.int x), l2], st, M) Q = XX X d 52 (48, [l0, some (.int x), l2], .int x :: st, M) Q := H_ld rfl rfl rfl rfl rfl
theorem x52_48 : XX X d 52 (48, L, st, M) Q = XX X d 52 (50, L, .int (ii 93) :: st, M) Q := G_cst rfl rfl rfl rfl rfl
theorem x52_50 (h : -2147483648 ≤ p ∧ p ≤ 2147483647 ∧ -2147483648 ≤ q ∧ q ≤ 2147483647) : XX X d 52 (50, L, .int (ii q) :: .int (ii p) :: st, M) Q = bq (p ≠ q) X d 52 89 53 L st M Q := H_if2 rfl ⟨rfl, rfl, rfl, by decide⟩ rfl rfl rfl rfl (D_ne h)
theorem x52_53 : XX X d 52 (53, [some (.ref a), l1, l2], st, M) Q = XX X d 52 (54, [some (.ref a), l1, l2], .ref a :: st, M) Q := H_ld rfl rfl rfl rfl rfl
theorem x52_53n : XX X d 52 (53, [some (.null), l1, l2], st, M) Q = XX X d 52 (54, [some (.null), l1, l2], .null :: st, M) Q := H_ld rfl rfl rfl rfl rfl
theorem x52_54 : XX X d 52 (54, L, .ref a :: st, M) Q = yg (M.2.2 a) 5 4 X d 52 57 L st M Q := G_getf rfl (by decide) rfl rfl rfl
theorem x52_57 : XX X d 52 (57, L, st, M) Q = XX X d 52 (58, L, .int (ii 3) :: st, M) Q := G_cst rfl rfl rfl rfl rfl
theorem x52_58 (h : -2147483648 ≤ p ∧ p ≤ 2147483647 ∧ -2147483648 ≤ q ∧ q ≤ 2147483647) : XX X d 52 (58, L, .int (ii q) :: .int (ii p) :: st, M) Q = bq (p ≠ q) X d 52 89 61 L st M Q := H_if2 rfl ⟨rfl, rfl, rfl, by decide⟩ rfl rfl rfl rfl (D_ne h)
theorem x52_61 : XX X d 52 (61, [some (.ref a), l1, l2], st, M) Q = XX X d 52 (62, [some (.ref a), l1, l2], .ref a :: st, M) Q := H_ld rfl rfl rfl rfl rfl
theorem x52_61n : XX X d 52 (61, [some (.null), l1, l2], st, M) Q = XX X d 52 (62, [some (.null), l1, l2], .null :: st, M) Q := H_ld rfl rfl rfl rfl rfl
theorem x52_62 : XX X d 52 (62, L, st, M) Q = XX X d 52 (63, L, .int (ii 0) :: st, M) Q := G_cst rfl rfl rfl rfl rfl
theorem x52_63 : XX X d 52 (63, L, v :: .ref a :: st, M) Q = yp (M.2.2 a) a 5 4 v X d 52 66 L st M Q := G_putf rfl (by decide) rfl rfl rfl
theorem x52_66 : XX X d 52 (66, [some (.ref a), l1, l2], st, M) Q = XX X d 52 (67, [some (.ref a), l1, l2], .ref a :: st, M) Q := H_ld rfl rfl rfl rfl rfl
theorem x52_66n : XX X d 52 (66, [some (.null), l1, l2], st, M) Q = XX X d 52 (67, [some (.null), l1, l2], .null :: st, M) Q := H_ld rfl rfl rfl rfl rfl
theorem x52_67 : XX X d 52 (67, [some (.ref a), l1, l2], st, M) Q = XX X d 52 (68, [some (.ref a), l1, l2], .ref a :: st, M) Q := H_ld rfl rfl rfl rfl rfl
theorem x52_67n : XX X d 52 (67, [some (.null), l1, l2], st, M) Q = XX X d 52 (68, [some (.null), l1, l2], .null :: st, M) Q := H_ld rfl rfl rfl rfl rfl
theorem x52_68 : XX X d 52 (68, L, .ref a :: st, M) Q = yg (M.2.2 a) 5 5 X d 52 71 L st M Q := G_getf rfl (by decide) rfl rfl rfl
theorem x52_71 (h : -2147483648 ≤ p ∧ p ≤ 2147483647) : XX X d 52 (71, L, .int (ii p) :: st, M) Q = bq (p = 0) X d 52 78 74 L st M Q := H_if rfl ⟨rfl, rfl, rfl, by decide⟩ rfl rfl rfl rfl (D_eq (b := 0) (by omega))
theorem x52_71b : XX X d 52 (71, L, .int (ii (b2i b)) :: st, M) Q = bq (b = false) X d 52 78 74 L st M Q := (x52_71 (b2i_r b)).trans (by rw [b2i_0])
theorem x52_74 : XX X d 52 (74, L, st, M) Q = XX X d 52 (75, L, .int (ii 3) :: st, M) Q := G_cst rfl rfl rfl rfl rfl
theorem x52_75 : XX X d 52 (75, L, st, M) Q = XX X d 52 (79, L, st, M) Q := H_jmp rfl (by decide) rfl
theorem x52_78 : XX X d 52 (78, L, st, M) Q = XX X d 52 (79, L, .int (ii 4) :: st, M) Q := G_cst rfl rfl rfl rfl rfl
theorem x52_79 : XX X d 52 (79, [some (.ref a), l1, l2], st, M) Q = XX X d 52 (80, [some (.ref a), l1, l2], .ref a :: st, M) Q := H_ld rfl rfl rfl rfl rfl
theorem x52_79n : XX X d 52 (79, [some (.null), l1, l2], st, M) Q = XX X d 52 (80, [some (.null), l1, l2], .null :: st, M) Q := H_ld rfl rfl rfl rfl rfl
theorem x52_80 : XX X d 52 (80, L, .ref a :: st, M) Q = yg (M.2.2 a) 5 6 X d 52 83 L st M Q := G_getf rfl (by decide) rfl rfl rfl
theorem x52_83 : XX X d 52 (83, [l0, l1, some (.int x)], st, M) Q = XX X d 52 (84, [l0, l1, some (.int x)], .int x :: st, M) Q := H_ld rfl rfl rfl rfl rfl
theorem x52_84 {v1 v2 v3 : Value} (hd : 0 < d) (hs : stB st = true) : XX X d 52 (84, L, v3 :: v2 :: v1 :: .ref a :: st, M) Q = (mcl M a = some 5 ∧ CC X (d - 1) 50 [.ref a, v1, v2, v3] M (XC X d 52 84 87 L st Q)) := H_virt [v1, v2, v3] rfl (by decide) rfl rfl rfl rfl rfl hd hs
theorem x52_87 : XX X d 52 (87, L, st, M) Q = XX X d 52 (88, L, .int (ii 1) :: st, M) Q := G_cst rfl rfl rfl rfl rfl
theorem x52_88 (h : p = 0 ∨ p = 1) : XX X d 52 (88, L, [.int (ii p)], M) Q = Q (.inl (some (.int (ii p)))) M := G_ret rfl ⟨⟨⟨rfl, rfl, rfl, by decide⟩, rfl, rfl⟩, rfl, rfl⟩ (bz_ok h)
theorem x52_89 : XX X d 52 (89, L, st, M) Q = XX X d 52 (90, L, .int (ii 0) :: st, M) Q := G_cst rfl rfl rfl rfl rfl
theorem x52_90 (h : p = 0 ∨ p = 1) : XX X d 52 (90, L, [.int (ii p)], M) Q = Q (.inl (some (.int (ii p)))) M := G_ret rfl ⟨⟨⟨rfl, rfl, rfl, by decide⟩, rfl, rfl⟩, rfl, rfl⟩ (bz_ok h)
theorem e52 : CC X d 52 [.ref a, .int x, .int x2] M Q = XX X d 52 (0, [some (.ref a), some (.int x), some (.int x2)], [], M) Q := H_ent rfl rfl
-- 53 X5_opensGroup ()Z
theorem x53_0 : XX X d 53 (0, [some (.ref a)], st, M) Q = XX X d 53 (1, [some (.ref a)], .ref a :: st, M) Q := H_ld rfl rfl rfl rfl rfl
theorem x53_0n : XX X d 53 (0, [some (.null)], st, M) Q = XX X d 53 (1, [some (.null)], .null :: st, M) Q := H_ld rfl rfl rfl rfl rfl
theorem x53_1 : XX X d 53 (1, L, .ref a :: st, M) Q = yg (M.2.2 a) 5 1 X d 53 4 L st M Q := G_getf rfl (by decide) rfl rfl rfl
theorem x53_4 : XX X d 53 (4, L, .ref a :: st, M) Q = yg (M.2.2 a) 4 4 X d 53 7 L st M Q := G_getf rfl (by decide) rfl rfl rfl
theorem x53_7 : XX X d 53 (7, L, st, M) Q = XX X d 53 (8, L, .int (ii 5) :: st, M) Q := G_cst rfl rfl rfl rfl rfl
theorem x53_8 (h : -2147483648 ≤ p ∧ p ≤ 2147483647 ∧ -2147483648 ≤ q ∧ q ≤ 2147483647) : XX X d 53 (8, L, .int (ii q) :: .int (ii p) :: st, M) Q = bq (p < q) X d 53 13 11 L st M Q := H_if2 rfl ⟨rfl, rfl, rfl, by decide⟩ rfl rfl rfl rfl (D_lt h)
theorem x53_11 : XX X d 53 (11, L, st, M) Q = XX X d 53 (12, L, .int (ii 0) :: st, M) Q := G_cst rfl rfl rfl rfl rfl
theorem x53_12 (h : p = 0 ∨ p = 1) : XX X d 53 (12, L, [.int (ii p)], M) Q = Q (.inl (some (.int (ii p)))) M := G_ret rfl ⟨⟨⟨rfl, rfl, rfl, by decide⟩, rfl, rfl⟩, rfl, rfl⟩ (bz_ok h)
theorem x53_13 : XX X d 53 (13, [some (.ref a)], st, M) Q = XX X d 53 (14, [some (.ref a)], .ref a :: st, M) Q := H_ld rfl rfl rfl rfl rfl
theorem x53_13n : XX X d 53 (13, [some (.null)], st, M) Q = XX X d 53 (14, [some (.null)], .null :: st, M) Q := H_ld rfl rfl rfl rfl rfl
theorem x53_14 : XX X d 53 (14, L, .ref a :: st, M) Q = yg (M.2.2 a) 5 1 X d 53 17 L st M Q := G_getf rfl (by decide) rfl rfl rfl
theorem x53_17 (h : v.category = 1) : XX X d 53 (17, L, v :: st, M) Q = XX X d 53 (18, L, v :: v :: st, M) Q := G_sop rfl ⟨rfl, rfl, rfl, by decide⟩ (if_pos h) rfl
theorem x53_18 : XX X d 53 (18, L, .ref a :: st, M) Q = yg (M.2.2 a) 4 4 X d 53 21 L st M Q := G_getf rfl (by decide) rfl rfl rfl
theorem x53_21 : XX X d 53 (21, L, st, M) Q = XX X d 53 (22, L, .int (ii 1) :: st, M) Q := G_cst rfl rfl rfl rfl rfl
theorem x53_22 : XX X d 53 (22, L, .int (ii q) :: .int (ii p) :: st, M) Q = XX X d 53 (23, L, .int (ii (p + q)) :: st, M) Q := H_add rfl (by decide) rfl
theorem x53_23 : XX X d 53 (23, L, v :: .ref a :: st, M) Q = yp (M.2.2 a) a 4 4 v X d 53 26 L st M Q := G_putf rfl (by decide) rfl rfl rfl
theorem x53_26 : XX X d 53 (26, [some (.ref a)], st, M) Q = XX X d 53 (27, [some (.ref a)], .ref a :: st, M) Q := H_ld rfl rfl rfl rfl rfl
theorem x53_26n : XX X d 53 (26, [some (.null)], st, M) Q = XX X d 53 (27, [some (.null)], .null :: st, M) Q := H_ld rfl rfl rfl rfl rfl
theorem x53_27 (h : v.category = 1) : XX X d 53 (27, L, v :: st, M) Q = XX X d 53 (28, L, v :: v :: st, M) Q := G_sop rfl ⟨rfl, rfl, rfl, by decide⟩ (if_pos h) rfl
theorem x53_28 : XX X d 53 (28, L, .ref a :: st, M) Q = yg (M.2.2 a) 5 3 X d 53 31 L st M Q := G_getf rfl (by decide) rfl rfl rfl
theorem x53_31 : XX X d 53 (31, L, st, M) Q = XX X d 53 (32, L, .int (ii 1) :: st, M) Q := G_cst rfl rfl rfl rfl rfl
theorem x53_32 : XX X d 53 (32, L, .int (ii q) :: .int (ii p) :: st, M) Q = XX X d 53 (33, L, .int (ii (p + q)) :: st, M) Q := H_add rfl (by decide) rfl
theorem x53_33 : XX X d 53 (33, L, v :: .ref a :: st, M) Q = yp (M.2.2 a) a 5 3 v X d 53 36 L st M Q := G_putf rfl (by decide) rfl rfl rfl
theorem x53_36 : XX X d 53 (36, [some (.ref a)], st, M) Q = XX X d 53 (37, [some (.ref a)], .ref a :: st, M) Q := H_ld rfl rfl rfl rfl rfl
theorem x53_36n : XX X d 53 (36, [some (.null)], st, M) Q = XX X d 53 (37, [some (.null)], .null :: st, M) Q := H_ld rfl rfl rfl rfl rfl
theorem x53_37 : XX X d 53 (37, L, .ref a :: st, M) Q = yg (M.2.2 a) 5 1 X d 53 40 L st M Q := G_getf rfl (by decide) rfl rfl rfl
theorem x53_40 : XX X d 53 (40, L, st, M) Q = XX X d 53 (42, L, .int (ii 7) :: st, M) Q := G_cst rfl rfl rfl rfl rfl
theorem x53_42 : XX X d 53 (42, L, st, M) Q = XX X d 53 (43, L, .int (ii 2) :: st, M) Q := G_cst rfl rfl rfl rfl rfl
theorem x53_43 : XX X d 53 (43, [some (.ref a)], st, M) Q = XX X d 53 (44, [some (.ref a)], .ref a :: st, M) Q := H_ld rfl rfl rfl rfl rfl
theorem x53_43n : XX X d 53 (43, [some (.null)], st, M) Q = XX X d 53 (44, [some (.null)], .null :: st, M) Q := H_ld rfl rfl rfl rfl rfl
theorem x53_44 : XX X d 53 (44, L, .ref a :: st, M) Q = yg (M.2.2 a) 5 1 X d 53 47 L st M Q := G_getf rfl (by decide) rfl rfl rfl
theorem x53_47 : XX X d 53 (47, L, .ref a :: st, M) Q = yg (M.2.2 a) 4 4 X d 53 50 L st M Q := G_getf rfl (by decide) rfl rfl rfl
theorem x53_50 : XX X d 53 (50, L, .int (ii q) :: .int (ii p) :: st, M) Q = XX X d 53 (51, L, .int (ii (p * q)) :: st, M) Q := H_mul rfl (by decide) rfl
theorem x53_51 : XX X d 53 (51, L, st, M) Q = XX X d 53 (52, L, .int (ii 0) :: st, M) Q := G_cst rfl rfl rfl rfl rfl
theorem x53_52 {v1 v2 v3 : Value} (hd : 0 < d) (hs : stB st = true) : XX X d 53 (52, L, v3 :: v2 :: v1 :: .ref a :: st, M) Q = (mcl M a = some 4 ∧ CC X (d - 1) 39 [.ref a, v1, v2, v3] M (XC X d 53 52 55 L st Q)) := H_virt [v1, v2, v3] rfl (by decide) rfl rfl rfl rfl rfl hd hs
theorem x53_55 : XX X d 53 (55, [some (.ref a)], st, M) Q = XX X d 53 (56, [some (.ref a)], .ref a :: st, M) Q := H_ld rfl rfl rfl rfl rfl
theorem x53_55n : XX X d 53 (55, [some (.null)], st, M) Q = XX X d 53 (56, [some (.null)], .null :: st, M) Q := H_ld rfl rfl rfl rfl rfl
theorem x53_56 : XX X d 53 (56, L, st, M) Q = XX X d 53 (59, L, .ref M.1 :: st, mnew M 12 (.inr (3, [.null, .int (ii 0), .int (ii 0), .int (ii 0), .int (ii 0), .int (ii 0), .int (ii 0), .int (ii 0), .int (ii 0), .int (ii 0), .int (ii 0), .int (ii 0)]))) Q := H_new rfl (by decide) rfl rfl (by decide) rfl rfl
theorem x53_59 (h : v.category = 1) : XX X d 53 (59, L, v :: st, M) Q = XX X d 53 (60, L, v :: v :: st, M) Q := G_sop rfl ⟨rfl, rfl, rfl, by decide⟩ (if_pos h) rfl
theorem x53_60 : XX X d 53 (60, [some (.ref a)], st, M) Q = XX X d 53 (61, [some (.ref a)], .ref a :: st, M) Q := H_ld rfl rfl rfl rfl rfl
theorem x53_60n : XX X d 53 (60, [some (.null)], st, M) Q = XX X d 53 (61, [some (.null)], .null :: st, M) Q := H_ld rfl rfl rfl rfl rfl
theorem x53_61 : XX X d 53 (61, L, .ref a :: st, M) Q = yg (M.2.2 a) 5 2 X d 53 64 L st M Q := G_getf rfl (by decide) rfl rfl rfl
theorem x53_64 : XX X d 53 (64, [some (.ref a)], st, M) Q = XX X d 53 (65, [some (.ref a)], .ref a :: st, M) Q := H_ld rfl rfl rfl rfl rfl
theorem x53_64n : XX X d 53 (64, [some (.null)], st, M) Q = XX X d 53 (65, [some (.null)], .null :: st, M) Q := H_ld rfl rfl rfl rfl rfl
theorem x53_65 : XX X d 53 (65, L, .ref a :: st, M) Q = yg (M.2.2 a) 5 1 X d 53 68 L st M Q := G_getf rfl (by decide) rfl rfl rfl
theorem x53_68 : XX X d 53 (68, L, .ref a :: st, M) Q = yg (M.2.2 a) 4 4 X d 53 71 L st M Q := G_getf rfl (by decide) rfl rfl rfl
theorem x53_71 : XX X d 53 (71, [some (.ref a)], st, M) Q = XX X d 53 (72, [some (.ref a)], .ref a :: st, M) Q := H_ld rfl rfl rfl rfl rfl
theorem x53_71n : XX X d 53 (71, [some (.null)], st, M) Q = XX X d 53 (72, [some (.null)], .null :: st, M) Q := H_ld rfl rfl rfl rfl rfl
theorem x53_72 : XX X d 53 (72, L, .ref a :: st, M) Q = yg (M.2.2 a) 5 1 X d 53 75 L st M Q := G_getf rfl (by decide) rfl rfl rfl
theorem x53_75 (hd : 0 < d) (hs : stB st = true) : XX X d 53 (75, L, .ref a :: st, M) Q = (mcl M a = some 4 ∧ CC X (d - 1) 34 [.ref a] M (XC X d 53 75 78 L st Q)) := H_virt [] rfl (by decide) rfl rfl rfl rfl rfl hd hs
theorem x53_78 {v1 v2 v3 : Value} (hd : 0 < d) (hs : stB st = true) : XX X d 53 (78, L, v3 :: v2 :: v1 :: .ref a :: st, M) Q = CC X (d - 1) 28 [.ref a, v1, v2, v3] M (XC X d 53 78 81 L st Q) := H_spec [v1, v2, v3] rfl (by decide) rfl rfl (by decide) rfl rfl hd hs
theorem x53_81 : XX X d 53 (81, L, v :: .ref a :: st, M) Q = yp (M.2.2 a) a 5 2 v X d 53 84 L st M Q := G_putf rfl (by decide) rfl rfl rfl
theorem x53_84 : XX X d 53 (84, L, st, M) Q = XX X d 53 (85, L, .int (ii 1) :: st, M) Q := G_cst rfl rfl rfl rfl rfl
theorem x53_85 (h : p = 0 ∨ p = 1) : XX X d 53 (85, L, [.int (ii p)], M) Q = Q (.inl (some (.int (ii p)))) M := G_ret rfl ⟨⟨⟨rfl, rfl, rfl, by decide⟩, rfl, rfl⟩, rfl, rfl⟩ (bz_ok h)
theorem e53 : CC X d 53 [.ref a] M Q = XX X d 53 (0, [some (.ref a)], [], M) Q := H_ent rfl rfl
-- 54 X5_closesGroup ()Z
theorem x54_0 : XX X d 54 (0, [some (.ref a), l1, l2], st, M) Q = XX X d 54 (1, [some (.ref a), l1, l2], .ref a :: st, M) Q := H_ld rfl rfl rfl rfl rfl
theorem x54_0n : XX X d 54 (0, [some (.null), l1, l2], st, M) Q = XX X d 54 (1, [some (.null), l1, l2], .null :: st, M) Q := H_ld rfl rfl rfl rfl rfl
theorem x54_1 : XX X d 54 (1, L, .ref a :: st, M) Q = yg (M.2.2 a) 5 2 X d 54 4 L st M Q := G_getf rfl (by decide) rfl rfl rfl
theorem x54_4 (h : wide (some l0) = false) : XX X d 54 (4, [l0, l1, l2], .ref a :: st, M) Q = XX X d 54 (5, [l0, some (.ref a), l2], st, M) Q := H_st rfl rfl rfl rfl rfl rfl rfl rfl (Or.inr h)
theorem x54_4n (h : wide (some l0) = false) : XX X d 54 (4, [l0, l1, l2], .null :: st, M) Q = XX X d 54 (5, [l0, some (.null), l2], st, M) Q := H_st rfl rfl rfl rfl rfl rfl rfl rfl (Or.inr h)
theorem x54_5 : XX X d 54 (5, [l0, some (.ref a), l2], st, M) Q = XX X d 54 (6, [l0, some (.ref a), l2], .ref a :: st, M) Q := H_ld rfl rfl rfl rfl rfl
theorem x54_5n : XX X d 54 (5, [l0, some (.null), l2], st, M) Q = XX X d 54 (6, [l0, some (.null), l2], .null :: st, M) Q := H_ld rfl rfl rfl rfl rfl
theorem x54_6 : XX X d 54 (6, L, .ref a :: st, M) Q = yg (M.2.2 a) 3 0 X d 54 9 L st M Q := G_getf rfl (by decide) rfl rfl rfl
theorem x54_9 (h : wide (some l1) = false) : XX X d 54 (9, [l0, l1, l2], .ref a :: st, M) Q = XX X d 54 (10, [l0, l1, some (.ref a)], st, M) Q := H_st rfl rfl rfl rfl rfl rfl rfl rfl (Or.inr h)
theorem x54_9n (h : wide (some l1) = false) : XX X d 54 (9, [l0, l1, l2], .null :: st, M) Q = XX X d 54 (10, [l0, l1, some (.null)], st, M) Q := H_st rfl rfl rfl rfl rfl rfl rfl rfl (Or.inr h)
theorem x54_10 : XX X d 54 (10, [l0, l1, some (.ref a)], st, M) Q = XX X d 54 (11, [l0, l1, some (.ref a)], .ref a :: st, M) Q := H_ld rfl rfl rfl rfl rfl
theorem x54_10n : XX X d 54 (10, [l0, l1, some (.null)], st, M) Q = XX X d 54 (11, [l0, l1, some (.null)], .null :: st, M) Q := H_ld rfl rfl rfl rfl rfl
theorem x54_11n : XX X d 54 (11, L, .null :: st, M) Q = XX X d 54 (14, L, st, M) Q := G_jmp rfl ⟨rfl, rfl, rfl, by decide⟩ rfl rfl rfl
theorem x54_11 : XX X d 54 (11, L, .ref a :: st, M) Q = XX X d 54 (16, L, st, M) Q := G_jmp rfl ⟨rfl, rfl, rfl, by decide⟩ rfl rfl rfl
theorem x54_14 : XX X d 54 (14, L, st, M) Q = XX X d 54 (15, L, .int (ii 0) :: st, M) Q := G_cst rfl rfl rfl rfl rfl
theorem x54_15 (h : p = 0 ∨ p = 1) : XX X d 54 (15, L, [.int (ii p)], M) Q = Q (.inl (some (.int (ii p)))) M := G_ret rfl ⟨⟨⟨rfl, rfl, rfl, by decide⟩, rfl, rfl⟩, rfl, rfl⟩ (bz_ok h)
theorem x54_16 : XX X d 54 (16, [l0, some (.ref a), l2], st, M) Q = XX X d 54 (17, [l0, some (.ref a), l2], .ref a :: st, M) Q := H_ld rfl rfl rfl rfl rfl
theorem x54_16n : XX X d 54 (16, [l0, some (.null), l2], st, M) Q = XX X d 54 (17, [l0, some (.null), l2], .null :: st, M) Q := H_ld rfl rfl rfl rfl rfl
theorem x54_17 : XX X d 54 (17, [some (.ref a), l1, l2], st, M) Q = XX X d 54 (18, [some (.ref a), l1, l2], .ref a :: st, M) Q := H_ld rfl rfl rfl rfl rfl
theorem x54_17n : XX X d 54 (17, [some (.null), l1, l2], st, M) Q = XX X d 54 (18, [some (.null), l1, l2], .null :: st, M) Q := H_ld rfl rfl rfl rfl rfl
theorem x54_18 : XX X d 54 (18, L, .ref a :: st, M) Q = yg (M.2.2 a) 5 1 X d 54 21 L st M Q := G_getf rfl (by decide) rfl rfl rfl
theorem x54_21 (hd : 0 < d) (hs : stB st = true) : XX X d 54 (21, L, .ref a :: st, M) Q = (mcl M a = some 4 ∧ CC X (d - 1) 34 [.ref a] M (XC X d 54 21 24 L st Q)) := H_virt [] rfl (by decide) rfl rfl rfl rfl rfl hd hs
theorem x54_24 {v1 : Value} (hd : 0 < d) (hs : stB st = true) : XX X d 54 (24, L, v1 :: .ref a :: st, M) Q = (mcl M a = some 3 ∧ CC X (d - 1) 32 [.ref a, v1] M (XC X d 54 24 27 L st Q)) := H_virt [v1] rfl (by decide) rfl rfl rfl rfl rfl hd hs
theorem x54_27 : XX X d 54 (27, [some (.ref a), l1, l2], st, M) Q = XX X d 54 (28, [some (.ref a), l1, l2], .ref a :: st, M) Q := H_ld rfl rfl rfl rfl rfl
theorem x54_27n : XX X d 54 (27, [some (.null), l1, l2], st, M) Q = XX X d 54 (28, [some (.null), l1, l2], .null :: st, M) Q := H_ld rfl rfl rfl rfl rfl
theorem x54_28 : XX X d 54 (28, L, .ref a :: st, M) Q = yg (M.2.2 a) 5 1 X d 54 31 L st M Q := G_getf rfl (by decide) rfl rfl rfl
theorem x54_31 : XX X d 54 (31, [l0, some (.ref a), l2], st, M) Q = XX X d 54 (32, [l0, some (.ref a), l2], .ref a :: st, M) Q := H_ld rfl rfl rfl rfl rfl
theorem x54_31n : XX X d 54 (31, [l0, some (.null), l2], st, M) Q = XX X d 54 (32, [l0, some (.null), l2], .null :: st, M) Q := H_ld rfl rfl rfl rfl rfl
theorem x54_32 : XX X d 54 (32, L, .ref a :: st, M) Q = yg (M.2.2 a) 3 2 X d 54 35 L st M Q := G_getf rfl (by decide) rfl rfl rfl
theorem x54_35 {v1 : Value} (hd : 0 < d) (hs : stB st = true) : XX X d 54 (35, L, v1 :: .ref a :: st, M) Q = (mcl M a = some 4 ∧ CC X (d - 1) 41 [.ref a, v1] M (XC X d 54 35 38 L st Q)) := H_virt [v1] rfl (by decide) rfl rfl rfl rfl rfl hd hs
theorem x54_38 : XX X d 54 (38, [some (.ref a), l1, l2], st, M) Q = XX X d 54 (39, [some (.ref a), l1, l2], .ref a :: st, M) Q := H_ld rfl rfl rfl rfl rfl
theorem x54_38n : XX X d 54 (38, [some (.null), l1, l2], st, M) Q = XX X d 54 (39, [some (.null), l1, l2], .null :: st, M) Q := H_ld rfl rfl rfl rfl rfl
theorem x54_39 : XX X d 54 (39, L, .ref a :: st, M) Q = yg (M.2.2 a) 5 1 X d 54 42 L st M Q := G_getf rfl (by decide) rfl rfl rfl
theorem x54_42 : XX X d 54 (42, L, st, M) Q = XX X d 54 (44, L, .int (ii 7) :: st, M) Q := G_cst rfl rfl rfl rfl rfl
theorem x54_44 : XX X d 54 (44, L, st, M) Q = XX X d 54 (45, L, .int (ii 2) :: st, M) Q := G_cst rfl rfl rfl rfl rfl
theorem x54_45 : XX X d 54 (45, [l0, some (.ref a), l2], st, M) Q = XX X d 54 (46, [l0, some (.ref a), l2], .ref a :: st, M) Q := H_ld rfl rfl rfl rfl rfl
theorem x54_45n : XX X d 54 (45, [l0, some (.null), l2], st, M) Q = XX X d 54 (46, [l0, some (.null), l2], .null :: st, M) Q := H_ld rfl rfl rfl rfl rfl
theorem x54_46 : XX X d 54 (46, L, .ref a :: st, M) Q = yg (M.2.2 a) 3 1 X d 54 49 L st M Q := G_getf rfl (by decide) rfl rfl rfl
theorem x54_49 : XX X d 54 (49, L, .int (ii q) :: .int (ii p) :: st, M) Q = XX X d 54 (50, L, .int (ii (p * q)) :: st, M) Q := H_mul rfl (by decide) rfl
theorem x54_50 : XX X d 54 (50, L, st, M) Q = XX X d 54 (51, L, .int (ii 1) :: st, M) Q := G_cst rfl rfl rfl rfl rfl
theorem x54_51 : XX X d 54 (51, L, .int (ii q) :: .int (ii p) :: st, M) Q = XX X d 54 (52, L, .int (ii (p + q)) :: st, M) Q := H_add rfl (by decide) rfl
theorem x54_52 : XX X d 54 (52, L, st, M) Q = XX X d 54 (53, L, .int (ii 0) :: st, M) Q := G_cst rfl rfl rfl rfl rfl
theorem x54_53 {v1 v2 v3 : Value} (hd : 0 < d) (hs : stB st = true) : XX X d 54 (53, L, v3 :: v2 :: v1 :: .ref a :: st, M) Q = (mcl M a = some 4 ∧ CC X (d - 1) 39 [.ref a, v1, v2, v3] M (XC X d 54 53 56 L st Q)) := H_virt [v1, v2, v3] rfl (by decide) rfl rfl rfl rfl rfl hd hs
theorem x54_56 : XX X d 54 (56, [some (.ref a), l1, l2], st, M) Q = XX X d 54 (57, [some (.ref a), l1, l2], .ref a :: st, M) Q := H_ld rfl rfl rfl rfl rfl
theorem x54_56n : XX X d 54 (56, [some (.null), l1, l2], st, M) Q = XX X d 54 (57, [some (.null), l1, l2], .null :: st, M) Q := H_ld rfl rfl rfl rfl rfl
theorem x54_57 (h : v.category = 1) : XX X d 54 (57, L, v :: st, M) Q = XX X d 54 (58, L, v :: v :: st, M) Q := G_sop rfl ⟨rfl, rfl, rfl, by decide⟩ (if_pos h) rfl
theorem x54_58 : XX X d 54 (58, L, .ref a :: st, M) Q = yg (M.2.2 a) 5 3 X d 54 61 L st M Q := G_getf rfl (by decide) rfl rfl rfl
theorem x54_61 : XX X d 54 (61, L, st, M) Q = XX X d 54 (62, L, .int (ii 1) :: st, M) Q := G_cst rfl rfl rfl rfl rfl
theorem x54_62 : XX X d 54 (62, L, .int (ii q) :: .int (ii p) :: st, M) Q = XX X d 54 (63, L, .int (ii (p - q)) :: st, M) Q := H_sub rfl (by decide) rfl
theorem x54_63 : XX X d 54 (63, L, v :: .ref a :: st, M) Q = yp (M.2.2 a) a 5 3 v X d 54 66 L st M Q := G_putf rfl (by decide) rfl rfl rfl
theorem x54_66 : XX X d 54 (66, [some (.ref a), l1, l2], st, M) Q = XX X d 54 (67, [some (.ref a), l1, l2], .ref a :: st, M) Q := H_ld rfl rfl rfl rfl rfl
theorem x54_66n : XX X d 54 (66, [some (.null), l1, l2], st, M) Q = XX X d 54 (67, [some (.null), l1, l2], .null :: st, M) Q := H_ld rfl rfl rfl rfl rfl
theorem x54_67 : XX X d 54 (67, [l0, l1, some (.ref a)], st, M) Q = XX X d 54 (68, [l0, l1, some (.ref a)], .ref a :: st, M) Q := H_ld rfl rfl rfl rfl rfl
theorem x54_67n : XX X d 54 (67, [l0, l1, some (.null)], st, M) Q = XX X d 54 (68, [l0, l1, some (.null)], .null :: st, M) Q := H_ld rfl rfl rfl rfl rfl
theorem x54_68 : XX X d 54 (68, L, v :: .ref a :: st, M) Q = yp (M.2.2 a) a 5 2 v X d 54 71 L st M Q := G_putf rfl (by decide) rfl rfl rfl
theorem x54_71 : XX X d 54 (71, [some (.ref a), l1, l2], st, M) Q = XX X d 54 (72, [some (.ref a), l1, l2], .ref a :: st, M) Q := H_ld rfl rfl rfl rfl rfl
theorem x54_71n : XX X d 54 (71, [some (.null), l1, l2], st, M) Q = XX X d 54 (72, [some (.null), l1, l2], .null :: st, M) Q := H_ld rfl rfl rfl rfl rfl
theorem x54_72 : XX X d 54 (72, L, .ref a :: st, M) Q = yg (M.2.2 a) 5 2 X d 54 75 L st M Q := G_getf rfl (by decide) rfl rfl rfl
theorem x54_75 : XX X d 54 (75, [l0, some (.ref a), l2], st, M) Q = XX X d 54 (76, [l0, some (.ref a), l2], .ref a :: st, M) Q := H_ld rfl rfl rfl rfl rfl
theorem x54_75n : XX X d 54 (75, [l0, some (.null), l2], st, M) Q = XX X d 54 (76, [l0, some (.null), l2], .null :: st, M) Q := H_ld rfl rfl rfl rfl rfl
theorem x54_76 : XX X d 54 (76, L, .ref a :: st, M) Q = yg (M.2.2 a) 3 2 X d 54 79 L st M Q := G_getf rfl (by decide) rfl rfl rfl
theorem x54_79 : XX X d 54 (79, L, st, M) Q = XX X d 54 (80, L, .int (ii 1) :: st, M) Q := G_cst rfl rfl rfl rfl rfl
theorem x54_80 : XX X d 54 (80, L, .int (ii q) :: .int (ii p) :: st, M) Q = XX X d 54 (81, L, .int (ii (p - q)) :: st, M) Q := H_sub rfl (by decide) rfl
theorem x54_81 : XX X d 54 (81, [l0, some (.ref a), l2], st, M) Q = XX X d 54 (82, [l0, some (.ref a), l2], .ref a :: st, M) Q := H_ld rfl rfl rfl rfl rfl
theorem x54_81n : XX X d 54 (81, [l0, some (.null), l2], st, M) Q = XX X d 54 (82, [l0, some (.null), l2], .null :: st, M) Q := H_ld rfl rfl rfl rfl rfl
theorem x54_82 : XX X d 54 (82, L, .ref a :: st, M) Q = yg (M.2.2 a) 3 10 X d 54 85 L st M Q := G_getf rfl (by decide) rfl rfl rfl
theorem x54_85 : XX X d 54 (85, [l0, some (.ref a), l2], st, M) Q = XX X d 54 (86, [l0, some (.ref a), l2], .ref a :: st, M) Q := H_ld rfl rfl rfl rfl rfl
theorem x54_85n : XX X d 54 (85, [l0, some (.null), l2], st, M) Q = XX X d 54 (86, [l0, some (.null), l2], .null :: st, M) Q := H_ld rfl rfl rfl rfl rfl
theorem x54_86 : XX X d 54 (86, L, .ref a :: st, M) Q = yg (M.2.2 a) 3 11 X d 54 89 L st M Q := G_getf rfl (by decide) rfl rfl rfl
theorem x54_89 {v1 v2 v3 : Value} (hd : 0 < d) (hs : stB st = true) : XX X d 54 (89, L, v3 :: v2 :: v1 :: .ref a :: st, M) Q = (mcl M a = some 3 ∧ CC X (d - 1) 29 [.ref a, v1, v2, v3] M (XC X d 54 89 92 L st Q)) := H_virt [v1, v2, v3] rfl (by decide) rfl rfl rfl rfl rfl hd hs
theorem x54_92 : XX X d 54 (92, L, st, M) Q = XX X d 54 (93, L, .int (ii 1) :: st, M) Q := G_cst rfl rfl rfl rfl rfl
theorem x54_93 (h : p = 0 ∨ p = 1) : XX X d 54 (93, L, [.int (ii p)], M) Q = Q (.inl (some (.int (ii p)))) M := G_ret rfl ⟨⟨⟨rfl, rfl, rfl, by decide⟩, rfl, rfl⟩, rfl, rfl⟩ (bz_ok h)
theorem e54 : CC X d 54 [.ref a] M Q = XX X d 54 (0, [some (.ref a), none, none], [], M) Q := H_ent rfl rfl
-- 55 X5_startBranch ()V
theorem x55_0 : XX X d 55 (0, [some (.ref a), l1], st, M) Q = XX X d 55 (1, [some (.ref a), l1], .ref a :: st, M) Q := H_ld rfl rfl rfl rfl rfl
theorem x55_0n : XX X d 55 (0, [some (.null), l1], st, M) Q = XX X d 55 (1, [some (.null), l1], .null :: st, M) Q := H_ld rfl rfl rfl rfl rfl
theorem x55_1 : XX X d 55 (1, L, .ref a :: st, M) Q = yg (M.2.2 a) 5 2 X d 55 4 L st M Q := G_getf rfl (by decide) rfl rfl rfl
theorem x55_4 : XX X d 55 (4, L, .ref a :: st, M) Q = yg (M.2.2 a) 3 3 X d 55 7 L st M Q := G_getf rfl (by decide) rfl rfl rfl
theorem x55_7 (h : wide (some l0) = false) : XX X d 55 (7, [l0, l1], .int x :: st, M) Q = XX X d 55 (8, [l0, some (.int x)], st, M) Q := H_st rfl rfl rfl rfl rfl rfl rfl rfl (Or.inr h)
theorem x55_8 : XX X d 55 (8, [some (.ref a), l1], st, M) Q = XX X d 55 (9, [some (.ref a), l1], .ref a :: st, M) Q := H_ld rfl rfl rfl rfl rfl
theorem x55_8n : XX X d 55 (8, [some (.null), l1], st, M) Q = XX X d 55 (9, [some (.null), l1], .null :: st, M) Q := H_ld rfl rfl rfl rfl rfl
theorem x55_9 : XX X d 55 (9, L, .ref a :: st, M) Q = yg (M.2.2 a) 5 1 X d 55 12 L st M Q := G_getf rfl (by decide) rfl rfl rfl
theorem x55_12 : XX X d 55 (12, [l0, some (.int x)], st, M) Q = XX X d 55 (13, [l0, some (.int x)], .int x :: st, M) Q := H_ld rfl rfl rfl rfl rfl
theorem x55_13 : XX X d 55 (13, L, st, M) Q = XX X d 55 (14, L, .int (ii 5) :: st, M) Q := G_cst rfl rfl rfl rfl rfl
theorem x55_14 : XX X d 55 (14, L, st, M) Q = XX X d 55 (15, L, .int (ii 1) :: st, M) Q := G_cst rfl rfl rfl rfl rfl
theorem x55_15 : XX X d 55 (15, [some (.ref a), l1], st, M) Q = XX X d 55 (16, [some (.ref a), l1], .ref a :: st, M) Q := H_ld rfl rfl rfl rfl rfl
theorem x55_15n : XX X d 55 (15, [some (.null), l1], st, M) Q = XX X d 55 (16, [some (.null), l1], .null :: st, M) Q := H_ld rfl rfl rfl rfl rfl
theorem x55_16 : XX X d 55 (16, L, .ref a :: st, M) Q = yg (M.2.2 a) 5 1 X d 55 19 L st M Q := G_getf rfl (by decide) rfl rfl rfl
theorem x55_19 (hd : 0 < d) (hs : stB st = true) : XX X d 55 (19, L, .ref a :: st, M) Q = (mcl M a = some 4 ∧ CC X (d - 1) 34 [.ref a] M (XC X d 55 19 22 L st Q)) := H_virt [] rfl (by decide) rfl rfl rfl rfl rfl hd hs
theorem x55_22 : XX X d 55 (22, L, st, M) Q = XX X d 55 (23, L, .int (ii 2) :: st, M) Q := G_cst rfl rfl rfl rfl rfl
theorem x55_23 : XX X d 55 (23, L, .int (ii q) :: .int (ii p) :: st, M) Q = XX X d 55 (24, L, .int (ii (p + q)) :: st, M) Q := H_add rfl (by decide) rfl
theorem x55_24 : XX X d 55 (24, [l0, some (.int x)], st, M) Q = XX X d 55 (25, [l0, some (.int x)], .int x :: st, M) Q := H_ld rfl rfl rfl rfl rfl
theorem x55_25 : XX X d 55 (25, L, .int (ii q) :: .int (ii p) :: st, M) Q = XX X d 55 (26, L, .int (ii (p - q)) :: st, M) Q := H_sub rfl (by decide) rfl
theorem x55_26 {v1 v2 v3 v4 : Value} (hd : 0 < d) (hs : stB st = true) : XX X d 55 (26, L, v4 :: v3 :: v2 :: v1 :: .ref a :: st, M) Q = (mcl M a = some 4 ∧ CC X (d - 1) 40 [.ref a, v1, v2, v3, v4] M (XC X d 55 26 29 L st Q)) := H_virt [v1, v2, v3, v4] rfl (by decide) rfl rfl rfl rfl rfl hd hs
theorem x55_29 : XX X d 55 (29, [some (.ref a), l1], st, M) Q = XX X d 55 (30, [some (.ref a), l1], .ref a :: st, M) Q := H_ld rfl rfl rfl rfl rfl
theorem x55_29n : XX X d 55 (29, [some (.null), l1], st, M) Q = XX X d 55 (30, [some (.null), l1], .null :: st, M) Q := H_ld rfl rfl rfl rfl rfl
theorem x55_30 : XX X d 55 (30, L, .ref a :: st, M) Q = yg (M.2.2 a) 5 1 X d 55 33 L st M Q := G_getf rfl (by decide) rfl rfl rfl
theorem x55_33 : XX X d 55 (33, L, st, M) Q = XX X d 55 (35, L, .int (ii 6) :: st, M) Q := G_cst rfl rfl rfl rfl rfl
theorem x55_35 : XX X d 55 (35, L, st, M) Q = XX X d 55 (36, L, .int (ii 0) :: st, M) Q := G_cst rfl rfl rfl rfl rfl
theorem x55_36 : XX X d 55 (36, L, st, M) Q = XX X d 55 (37, L, .int (ii 0) :: st, M) Q := G_cst rfl rfl rfl rfl rfl
theorem x55_37 {v1 v2 v3 : Value} (hd : 0 < d) (hs : stB st = true) : XX X d 55 (37, L, v3 :: v2 :: v1 :: .ref a :: st, M) Q = (mcl M a = some 4 ∧ CC X (d - 1) 39 [.ref a, v1, v2, v3] M (XC X d 55 37 40 L st Q)) := H_virt [v1, v2, v3] rfl (by decide) rfl rfl rfl rfl rfl hd hs
theorem x55_40 : XX X d 55 (40, [some (.ref a), l1], st, M) Q = XX X d 55 (41, [some (.ref a), l1], .ref a :: st, M) Q := H_ld rfl rfl rfl rfl rfl
theorem x55_40n : XX X d 55 (40, [some (.null), l1], st, M) Q = XX X d 55 (41, [some (.null), l1], .null :: st, M) Q := H_ld rfl rfl rfl rfl rfl
theorem x55_41 : XX X d 55 (41, L, .ref a :: st, M) Q = yg (M.2.2 a) 5 2 X d 55 44 L st M Q := G_getf rfl (by decide) rfl rfl rfl
theorem x55_44 : XX X d 55 (44, [some (.ref a), l1], st, M) Q = XX X d 55 (45, [some (.ref a), l1], .ref a :: st, M) Q := H_ld rfl rfl rfl rfl rfl
theorem x55_44n : XX X d 55 (44, [some (.null), l1], st, M) Q = XX X d 55 (45, [some (.null), l1], .null :: st, M) Q := H_ld rfl rfl rfl rfl rfl
theorem x55_45 : XX X d 55 (45, L, .ref a :: st, M) Q = yg (M.2.2 a) 5 1 X d 55 48 L st M Q := G_getf rfl (by decide) rfl rfl rfl
theorem x55_48 (hd : 0 < d) (hs : stB st = true) : XX X d 55 (48, L, .ref a :: st, M) Q = (mcl M a = some 4 ∧ CC X (d - 1) 34 [.ref a] M (XC X d 55 48 51 L st Q)) := H_virt [] rfl (by decide) rfl rfl rfl rfl rfl hd hs
theorem x55_51 {v1 : Value} (hd : 0 < d) (hs : stB st = true) : XX X d 55 (51, L, v1 :: .ref a :: st, M) Q = (mcl M a = some 3 ∧ CC X (d - 1) 32 [.ref a, v1] M (XC X d 55 51 54 L st Q)) := H_virt [v1] rfl (by decide) rfl rfl rfl rfl rfl hd hs
theorem x55_54 : XX X d 55 (54, L, [], M) Q = Q (.inl none) M := G_retv rfl (by decide) rfl
theorem e55 : CC X d 55 [.ref a] M Q = XX X d 55 (0, [some (.ref a), none], [], M) Q := H_ent rfl rfl
-- 56 X5_repeatsAtom (I)Z
theorem x56_0 : XX X d 56 (0, [some (.ref a), l1, l2, l3], st, M) Q = XX X d 56 (1, [some (.ref a), l1, l2, l3], .ref a :: st, M) Q := H_ld rfl rfl rfl rfl rfl
theorem x56_0n : XX X d 56 (0, [some (.null), l1, l2, l3], st, M) Q = XX X d 56 (1, [some (.null), l1, l2, l3], .null :: st, M) Q := H_ld rfl rfl rfl rfl rfl
theorem x56_1 : XX X d 56 (1, L, .ref a :: st, M) Q = yg (M.2.2 a) 5 2 X d 56 4 L st M Q := G_getf rfl (by decide) rfl rfl rfl
theorem x56_4 : XX X d 56 (4, L, .ref a :: st, M) Q = yg (M.2.2 a) 3 4 X d 56 7 L st M Q := G_getf rfl (by decide) rfl rfl rfl
theorem x56_7 (h : -2147483648 ≤ p ∧ p ≤ 2147483647) : XX X d 56 (7, L, .int (ii p) :: st, M) Q = bq (p = 0) X d 56 26 10 L st M Q := H_if rfl ⟨rfl, rfl, rfl, by decide⟩ rfl rfl rfl rfl (D_eq (b := 0) (by omega))
theorem x56_7b : XX X d 56 (7, L, .int (ii (b2i b)) :: st, M) Q = bq (b = false) X d 56 26 10 L st M Q := (x56_7 (b2i_r b)).trans (by rw [b2i_0])
theorem x56_10 : XX X d 56 (10, [l0, some (.int x), l2, l3], st, M) Q = XX X d 56 (11, [l0, some (.int x), l2, l3], .int x :: st, M) Q := H_ld rfl rfl rfl rfl rfl
theorem x56_11 : XX X d 56 (11, L, st, M) Q = XX X d 56 (13, L, .int (ii 63) :: st, M) Q := G_cst rfl rfl rfl rfl rfl
theorem x56_13 (h : -2147483648 ≤ p ∧ p ≤ 2147483647 ∧ -2147483648 ≤ q ∧ q ≤ 2147483647) : XX X d 56 (13, L, .int (ii q) :: .int (ii p) :: st, M) Q = bq (p = q) X d 56 28 16 L st M Q := H_if2 rfl ⟨rfl, rfl, rfl, by decide⟩ rfl rfl rfl rfl (D_eq h)
theorem x56_16 : XX X d 56 (16, [some (.ref a), l1, l2, l3], st, M) Q = XX X d 56 (17, [some (.ref a), l1, l2, l3], .ref a :: st, M) Q := H_ld rfl rfl rfl rfl rfl
theorem x56_16n : XX X d 56 (16, [some (.null), l1, l2, l3], st, M) Q = XX X d 56 (17, [some (.null), l1, l2, l3], .null :: st, M) Q := H_ld rfl rfl rfl rfl rfl
theorem x56_17 : XX X d 56 (17, L, .ref a :: st, M) Q = yg (M.2.2 a) 5 2 X d 56 20 L st M Q := G_getf rfl (by decide) rfl rfl rfl
theorem x56_20 : XX X d 56 (20, L, .ref a :: st, M) Q = yg (M.2.2 a) 3 6 X d 56 23 L st M Q := G_getf rfl (by decide) rfl rfl rfl
theorem x56_23 (h : -2147483648 ≤ p ∧ p ≤ 2147483647) : XX X d 56 (23, L, .int (ii p) :: st, M) Q = bq (p ≠ 0) X d 56 28 26 L st M Q := H_if rfl ⟨rfl, rfl, rfl, by decide⟩ rfl rfl rfl rfl (D_ne (b := 0) (by omega))
theorem x56_23b : XX X d 56 (23, L, .int (ii (b2i b)) :: st, M) Q = bq (b = true) X d 56 28 26 L st M Q := (x56_23 (b2i_r b)).trans (by rw [b2i_n0])
theorem x56_26 : XX X d 56 (26, L, st, M) Q = XX X d 56 (27, L, .int (ii 0) :: st, M) Q := G_cst rfl rfl rfl rfl rfl
theorem x56_27 (h : p = 0 ∨ p = 1) : XX X d 56 (27, L, [.int (ii p)], M) Q = Q (.inl (some (.int (ii p)))) M := G_ret rfl ⟨⟨⟨rfl, rfl, rfl, by decide⟩, rfl, rfl⟩, rfl, rfl⟩ (bz_ok h)
theorem x56_28 : XX X d 56 (28, [some (.ref a), l1, l2, l3], st, M) Q = XX X d 56 (29, [some (.ref a), l1, l2, l3], .ref a :: st, M) Q := H_ld rfl rfl rfl rfl rfl
theorem x56_28n : XX X d 56 (28, [some (.null), l1, l2, l3], st, M) Q = XX X d 56 (29, [some (.null), l1, l2, l3], .null :: st, M) Q := H_ld rfl rfl rfl rfl rfl
theorem x56_29 : XX X d 56 (29, L, .ref a :: st, M) Q = yg (M.2.2 a) 5 2 X d 56 32 L st M Q := G_getf rfl (by decide) rfl rfl rfl
theorem x56_32 : XX X d 56 (32, L, .ref a :: st, M) Q = yg (M.2.2 a) 3 5 X d 56 35 L st M Q := G_getf rfl (by decide) rfl rfl rfl
theorem x56_35 (h : wide (some l1) = false) : XX X d 56 (35, [l0, l1, l2, l3], .int x :: st, M) Q = XX X d 56 (36, [l0, l1, some (.int x), l3], st, M) Q := H_st rfl rfl rfl rfl rfl rfl rfl rfl (Or.inr h)
theorem x56_36 : XX X d 56 (36, [some (.ref a), l1, l2, l3], st, M) Q = XX X d 56 (37, [some (.ref a), l1, l2, l3], .ref a :: st, M) Q := H_ld rfl rfl rfl rfl rfl
theorem x56_36n : XX X d 56 (36, [some (.null), l1, l2, l3], st, M) Q = XX X d 56 (37, [some (.null), l1, l2, l3], .null :: st, M) Q := H_ld rfl rfl rfl rfl rfl
theorem x56_37 : XX X d 56 (37, L, .ref a :: st, M) Q = yg (M.2.2 a) 5 1 X d 56 40 L st M Q := G_getf rfl (by decide) rfl rfl rfl
theorem x56_40 (hd : 0 < d) (hs : stB st = true) : XX X d 56 (40, L, .ref a :: st, M) Q = (mcl M a = some 4 ∧ CC X (d - 1) 34 [.ref a] M (XC X d 56 40 43 L st Q)) := H_virt [] rfl (by decide) rfl rfl rfl rfl rfl hd hs
theorem x56_43 (h : wide (some l2) = false) : XX X d 56 (43, [l0, l1, l2, l3], .int x :: st, M) Q = XX X d 56 (44, [l0, l1, l2, some (.int x)], st, M) Q := H_st rfl rfl rfl rfl rfl rfl rfl rfl (Or.inr h)
theorem x56_44 : XX X d 56 (44, [l0, some (.int x), l2, l3], st, M) Q = XX X d 56 (45, [l0, some (.int x), l2, l3], .int x :: st, M) Q := H_ld rfl rfl rfl rfl rfl
theorem x56_45 : XX X d 56 (45, L, st, M) Q = XX X d 56 (47, L, .int (ii 43) :: st, M) Q := G_cst rfl rfl rfl rfl rfl
theorem x56_47 (h : -2147483648 ≤ p ∧ p ≤ 2147483647 ∧ -2147483648 ≤ q ∧ q ≤ 2147483647) : XX X d 56 (47, L, .int (ii q) :: .int (ii p) :: st, M) Q = bq (p ≠ q) X d 56 65 50 L st M Q := H_if2 rfl ⟨rfl, rfl, rfl, by decide⟩ rfl rfl rfl rfl (D_ne h)
theorem x56_50 : XX X d 56 (50, [some (.ref a), l1, l2, l3], st, M) Q = XX X d 56 (51, [some (.ref a), l1, l2, l3], .ref a :: st, M) Q := H_ld rfl rfl rfl rfl rfl
theorem x56_50n : XX X d 56 (50, [some (.null), l1, l2, l3], st, M) Q = XX X d 56 (51, [some (.null), l1, l2, l3], .null :: st, M) Q := H_ld rfl rfl rfl rfl rfl
theorem x56_51 : XX X d 56 (51, L, .ref a :: st, M) Q = yg (M.2.2 a) 5 1 X d 56 54 L st M Q := G_getf rfl (by decide) rfl rfl rfl
theorem x56_54 : XX X d 56 (54, L, st, M) Q = XX X d 56 (55, L, .int (ii 5) :: st, M) Q := G_cst rfl rfl rfl rfl rfl
theorem x56_55 : XX X d 56 (55, [l0, l1, some (.int x), l3], st, M) Q = XX X d 56 (56, [l0, l1, some (.int x), l3], .int x :: st, M) Q := H_ld rfl rfl rfl rfl rfl
theorem x56_56 : XX X d 56 (56, [l0, l1, l2, some (.int x)], st, M) Q = XX X d 56 (57, [l0, l1, l2, some (.int x)], .int x :: st, M) Q := H_ld rfl rfl rfl rfl rfl
theorem x56_57 : XX X d 56 (57, L, .int (ii q) :: .int (ii p) :: st, M) Q = XX X d 56 (58, L, .int (ii (p - q)) :: st, M) Q := H_sub rfl (by decide) rfl
theorem x56_58 : XX X d 56 (58, L, st, M) Q = XX X d 56 (59, L, .int (ii 1) :: st, M) Q := G_cst rfl rfl rfl rfl rfl
theorem x56_59 {v1 v2 v3 : Value} (hd : 0 < d) (hs : stB st = true) : XX X d 56 (59, L, v3 :: v2 :: v1 :: .ref a :: st, M) Q = (mcl M a = some 4 ∧ CC X (d - 1) 39 [.ref a, v1, v2, v3] M (XC X d 56 59 62 L st Q)) := H_virt [v1, v2, v3] rfl (by decide) rfl rfl rfl rfl rfl hd hs
theorem x56_62 : XX X d 56 (62, L, st, M) Q = XX X d 56 (119, L, st, M) Q := H_jmp rfl (by decide) rfl
theorem x56_65 : XX X d 56 (65, [l0, some (.int x), l2, l3], st, M) Q = XX X d 56 (66, [l0, some (.int x), l2, l3], .int x :: st, M) Q := H_ld rfl rfl rfl rfl rfl
theorem x56_66 : XX X d 56 (66, L, st, M) Q = XX X d 56 (68, L, .int (ii 42) :: st, M) Q := G_cst rfl rfl rfl rfl rfl
theorem x56_68 (h : -2147483648 ≤ p ∧ p ≤ 2147483647 ∧ -2147483648 ≤ q ∧ q ≤ 2147483647) : XX X d 56 (68, L, .int (ii q) :: .int (ii p) :: st, M) Q = bq (p ≠ q) X d 56 104 71 L st M Q := H_if2 rfl ⟨rfl, rfl, rfl, by decide⟩ rfl rfl rfl rfl (D_ne h)
theorem x56_71 : XX X d 56 (71, [some (.ref a), l1, l2, l3], st, M) Q = XX X d 56 (72, [some (.ref a), l1, l2, l3], .ref a :: st, M) Q := H_ld rfl rfl rfl rfl rfl
theorem x56_71n : XX X d 56 (71, [some (.null), l1, l2, l3], st, M) Q = XX X d 56 (72, [some (.null), l1, l2, l3], .null :: st, M) Q := H_ld rfl rfl rfl rfl rfl
theorem x56_72 : XX X d 56 (72, L, .ref a :: st, M) Q = yg (M.2.2 a) 5 1 X d 56 75 L st M Q := G_getf rfl (by decide) rfl rfl rfl
theorem x56_75 : XX X d 56 (75, [l0, l1, some (.int x), l3], st, M) Q = XX X d 56 (76, [l0, l1, some (.int x), l3], .int x :: st, M) Q := H_ld rfl rfl rfl rfl rfl
theorem x56_76 : XX X d 56 (76, L, st, M) Q = XX X d 56 (77, L, .int (ii 5) :: st, M) Q := G_cst rfl rfl rfl rfl rfl
theorem x56_77 : XX X d 56 (77, L, st, M) Q = XX X d 56 (78, L, .int (ii 1) :: st, M) Q := G_cst rfl rfl rfl rfl rfl
theorem x56_78 : XX X d 56 (78, [l0, l1, l2, some (.int x)], st, M) Q = XX X d 56 (79, [l0, l1, l2, some (.int x)], .int x :: st, M) Q := H_ld rfl rfl rfl rfl rfl
theorem x56_79 : XX X d 56 (79, L, st, M) Q = XX X d 56 (80, L, .int (ii 2) :: st, M) Q := G_cst rfl rfl rfl rfl rfl
theorem x56_80 : XX X d 56 (80, L, .int (ii q) :: .int (ii p) :: st, M) Q = XX X d 56 (81, L, .int (ii (p + q)) :: st, M) Q := H_add rfl (by decide) rfl
theorem x56_81 : XX X d 56 (81, [l0, l1, some (.int x), l3], st, M) Q = XX X d 56 (82, [l0, l1, some (.int x), l3], .int x :: st, M) Q := H_ld rfl rfl rfl rfl rfl
theorem x56_82 : XX X d 56 (82, L, .int (ii q) :: .int (ii p) :: st, M) Q = XX X d 56 (83, L, .int (ii (p - q)) :: st, M) Q := H_sub rfl (by decide) rfl
theorem x56_83 {v1 v2 v3 v4 : Value} (hd : 0 < d) (hs : stB st = true) : XX X d 56 (83, L, v4 :: v3 :: v2 :: v1 :: .ref a :: st, M) Q = (mcl M a = some 4 ∧ CC X (d - 1) 40 [.ref a, v1, v2, v3, v4] M (XC X d 56 83 86 L st Q)) := H_virt [v1, v2, v3, v4] rfl (by decide) rfl rfl rfl rfl rfl hd hs
theorem x56_86 : XX X d 56 (86, [some (.ref a), l1, l2, l3], st, M) Q = XX X d 56 (87, [some (.ref a), l1, l2, l3], .ref a :: st, M) Q := H_ld rfl rfl rfl rfl rfl
theorem x56_86n : XX X d 56 (86, [some (.null), l1, l2, l3], st, M) Q = XX X d 56 (87, [some (.null), l1, l2, l3], .null :: st, M) Q := H_ld rfl rfl rfl rfl rfl
theorem x56_87 : XX X d 56 (87, L, .ref a :: st, M) Q = yg (M.2.2 a) 5 1 X d 56 90 L st M Q := G_getf rfl (by decide) rfl rfl rfl
theorem x56_90 : XX X d 56 (90, L, st, M) Q = XX X d 56 (92, L, .int (ii 6) :: st, M) Q := G_cst rfl rfl rfl rfl rfl
theorem x56_92 : XX X d 56 (92, [l0, l1, some (.int x), l3], st, M) Q = XX X d 56 (93, [l0, l1, some (.int x), l3], .int x :: st, M) Q := H_ld rfl rfl rfl rfl rfl
theorem x56_93 : XX X d 56 (93, [l0, l1, l2, some (.int x)], st, M) Q = XX X d 56 (94, [l0, l1, l2, some (.int x)], .int x :: st, M) Q := H_ld rfl rfl rfl rfl rfl
theorem x56_94 : XX X d 56 (94, L, .int (ii q) :: .int (ii p) :: st, M) Q = XX X d 56 (95, L, .int (ii (p - q)) :: st, M) Q := H_sub rfl (by decide) rfl
theorem x56_95 : XX X d 56 (95, L, st, M) Q = XX X d 56 (96, L, .int (ii 1) :: st, M) Q := G_cst rfl rfl rfl rfl rfl
theorem x56_96 : XX X d 56 (96, L, .int (ii q) :: .int (ii p) :: st, M) Q = XX X d 56 (97, L, .int (ii (p - q)) :: st, M) Q := H_sub rfl (by decide) rfl
theorem x56_97 : XX X d 56 (97, L, st, M) Q = XX X d 56 (98, L, .int (ii 0) :: st, M) Q := G_cst rfl rfl rfl rfl rfl
theorem x56_98 {v1 v2 v3 : Value} (hd : 0 < d) (hs : stB st = true) : XX X d 56 (98, L, v3 :: v2 :: v1 :: .ref a :: st, M) Q = (mcl M a = some 4 ∧ CC X (d - 1) 39 [.ref a, v1, v2, v3] M (XC X d 56 98 101 L st Q)) := H_virt [v1, v2, v3] rfl (by decide) rfl rfl rfl rfl rfl hd hs
theorem x56_101 : XX X d 56 (101, L, st, M) Q = XX X d 56 (119, L, st, M) Q := H_jmp rfl (by decide) rfl
theorem x56_104 : XX X d 56 (104, [some (.ref a), l1, l2, l3], st, M) Q = XX X d 56 (105, [some (.ref a), l1, l2, l3], .ref a :: st, M) Q := H_ld rfl rfl rfl rfl rfl
theorem x56_104n : XX X d 56 (104, [some (.null), l1, l2, l3], st, M) Q = XX X d 56 (105, [some (.null), l1, l2, l3], .null :: st, M) Q := H_ld rfl rfl rfl rfl rfl
theorem x56_105 : XX X d 56 (105, L, .ref a :: st, M) Q = yg (M.2.2 a) 5 1 X d 56 108 L st M Q := G_getf rfl (by decide) rfl rfl rfl
theorem x56_108 : XX X d 56 (108, [l0, l1, some (.int x), l3], st, M) Q = XX X d 56 (109, [l0, l1, some (.int x), l3], .int x :: st, M) Q := H_ld rfl rfl rfl rfl rfl
theorem x56_109 : XX X d 56 (109, L, st, M) Q = XX X d 56 (110, L, .int (ii 5) :: st, M) Q := G_cst rfl rfl rfl rfl rfl
theorem x56_110 : XX X d 56 (110, L, st, M) Q = XX X d 56 (111, L, .int (ii 1) :: st, M) Q := G_cst rfl rfl rfl rfl rfl
theorem x56_111 : XX X d 56 (111, [l0, l1, l2, some (.int x)], st, M) Q = XX X d 56 (112, [l0, l1, l2, some (.int x)], .int x :: st, M) Q := H_ld rfl rfl rfl rfl rfl
theorem x56_112 : XX X d 56 (112, L, st, M) Q = XX X d 56 (113, L, .int (ii 1) :: st, M) Q := G_cst rfl rfl rfl rfl rfl
theorem x56_113 : XX X d 56 (113, L, .int (ii q) :: .int (ii p) :: st, M) Q = XX X d 56 (114, L, .int (ii (p + q)) :: st, M) Q := H_add rfl (by decide) rfl
theorem x56_114 : XX X d 56 (114, [l0, l1, some (.int x), l3], st, M) Q = XX X d 56 (115, [l0, l1, some (.int x), l3], .int x :: st, M) Q := H_ld rfl rfl rfl rfl rfl
theorem x56_115 : XX X d 56 (115, L, .int (ii q) :: .int (ii p) :: st, M) Q = XX X d 56 (116, L, .int (ii (p - q)) :: st, M) Q := H_sub rfl (by decide) rfl
theorem x56_116 {v1 v2 v3 v4 : Value} (hd : 0 < d) (hs : stB st = true) : XX X d 56 (116, L, v4 :: v3 :: v2 :: v1 :: .ref a :: st, M) Q = (mcl M a = some 4 ∧ CC X (d - 1) 40 [.ref a, v1, v2, v3, v4] M (XC X d 56 116 119 L st Q)) := H_virt [v1, v2, v3, v4] rfl (by decide) rfl rfl rfl rfl rfl hd hs
theorem x56_119 : XX X d 56 (119, [some (.ref a), l1, l2, l3], st, M) Q = XX X d 56 (120, [some (.ref a), l1, l2, l3], .ref a :: st, M) Q := H_ld rfl rfl rfl rfl rfl
theorem x56_119n : XX X d 56 (119, [some (.null), l1, l2, l3], st, M) Q = XX X d 56 (120, [some (.null), l1, l2, l3], .null :: st, M) Q := H_ld rfl rfl rfl rfl rfl
theorem x56_120 : XX X d 56 (120, L, .ref a :: st, M) Q = yg (M.2.2 a) 5 2 X d 56 123 L st M Q := G_getf rfl (by decide) rfl rfl rfl
theorem x56_123 : XX X d 56 (123, [l0, some (.int x), l2, l3], st, M) Q = XX X d 56 (124, [l0, some (.int x), l2, l3], .int x :: st, M) Q := H_ld rfl rfl rfl rfl rfl
theorem x56_124 : XX X d 56 (124, L, st, M) Q = XX X d 56 (126, L, .int (ii 43) :: st, M) Q := G_cst rfl rfl rfl rfl rfl
theorem x56_126 (h : -2147483648 ≤ p ∧ p ≤ 2147483647 ∧ -2147483648 ≤ q ∧ q ≤ 2147483647) : XX X d 56 (126, L, .int (ii q) :: .int (ii p) :: st, M) Q = bq (p = q) X d 56 133 129 L st M Q := H_if2 rfl ⟨rfl, rfl, rfl, by decide⟩ rfl rfl rfl rfl (D_eq h)
theorem x56_129 : XX X d 56 (129, L, st, M) Q = XX X d 56 (130, L, .int (ii 1) :: st, M) Q := G_cst rfl rfl rfl rfl rfl
theorem x56_130 : XX X d 56 (130, L, st, M) Q = XX X d 56 (134, L, st, M) Q := H_jmp rfl (by decide) rfl
theorem x56_133 : XX X d 56 (133, L, st, M) Q = XX X d 56 (134, L, .int (ii 0) :: st, M) Q := G_cst rfl rfl rfl rfl rfl
theorem x56_134 : XX X d 56 (134, [l0, some (.int x), l2, l3], st, M) Q = XX X d 56 (135, [l0, some (.int x), l2, l3], .int x :: st, M) Q := H_ld rfl rfl rfl rfl rfl
theorem x56_135 : XX X d 56 (135, L, st, M) Q = XX X d 56 (137, L, .int (ii 63) :: st, M) Q := G_cst rfl rfl rfl rfl rfl
theorem x56_137 (h : -2147483648 ≤ p ∧ p ≤ 2147483647 ∧ -2147483648 ≤ q ∧ q ≤ 2147483647) : XX X d 56 (137, L, .int (ii q) :: .int (ii p) :: st, M) Q = bq (p = q) X d 56 144 140 L st M Q := H_if2 rfl ⟨rfl, rfl, rfl, by decide⟩ rfl rfl rfl rfl (D_eq h)
theorem x56_140 : XX X d 56 (140, L, st, M) Q = XX X d 56 (141, L, .int (ii 1) :: st, M) Q := G_cst rfl rfl rfl rfl rfl
theorem x56_141 : XX X d 56 (141, L, st, M) Q = XX X d 56 (145, L, st, M) Q := H_jmp rfl (by decide) rfl
theorem x56_144 : XX X d 56 (144, L, st, M) Q = XX X d 56 (145, L, .int (ii 0) :: st, M) Q := G_cst rfl rfl rfl rfl rfl
theorem x56_145 {v1 v2 : Value} (hd : 0 < d) (hs : stB st = true) : XX X d 56 (145, L, v2 :: v1 :: .ref a :: st, M) Q = (mcl M a = some 3 ∧ CC X (d - 1) 30 [.ref a, v1, v2] M (XC X d 56 145 148 L st Q)) := H_virt [v1, v2] rfl (by decide) rfl rfl rfl rfl rfl hd hs
theorem x56_148 : XX X d 56 (148, L, st, M) Q = XX X d 56 (149, L, .int (ii 1) :: st, M) Q := G_cst rfl rfl rfl rfl rfl
theorem x56_149 (h : p = 0 ∨ p = 1) : XX X d 56 (149, L, [.int (ii p)], M) Q = Q (.inl (some (.int (ii p)))) M := G_ret rfl ⟨⟨⟨rfl, rfl, rfl, by decide⟩, rfl, rfl⟩, rfl, rfl⟩ (bz_ok h)
theorem e56 : CC X d 56 [.ref a, .int x] M Q = XX X d 56 (0, [some (.ref a), some (.int x), none, none], [], M) Q := H_ent rfl rfl
end PX23pxreader
