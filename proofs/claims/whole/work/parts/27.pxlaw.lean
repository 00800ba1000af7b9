/-! law wrappers: each row at its place, printed by wip/whole/genx.py -/
section PX27pxlaw
variable {X : JX} {d a a1 a2 a3 a4 : Nat} {L : List (Option Value)} {st : List Value} {M : JM} {Q : JR → JM → Prop} {p q : Int} {b : Bool} {x x2 x3 x4 x5 x6 : Int32} {y y2 : Int64} {z z2 : UInt32} {w w2 : UInt64} {v v2 : Value} {l0 l1 l2 l3 l4 l5 l6 l7 l8 l9 l10 l11 l12 l13 l14 : Option Value}
-- 233 L_typePattern (LRegexTracer;C[J)I
theorem x233_0 : XX X d 233 (0, [l0, l1, some (.ref a), l3], st, M) Q = XX X d 233 (1, [l0, l1, some (.ref a), l3], .ref a :: st, M) Q := H_ld rfl rfl rfl rfl rfl
theorem x233_0n : XX X d 233 (0, [l0, l1, some (.null), l3], st, M) Q = XX X d 233 (1, [l0, l1, some (.null), l3], .null :: st, M) Q := H_ld rfl rfl rfl rfl rfl
theorem x233_1 : XX X d 233 (1, L, st, M) Q = XX X d 233 (2, L, .int (ii 0) :: st, M) Q := G_cst rfl rfl rfl rfl rfl
theorem x233_2 : XX X d 233 (2, [some (.ref a), l1, l2, l3], st, M) Q = XX X d 233 (3, [some (.ref a), l1, l2, l3], .ref a :: st, M) Q := H_ld rfl rfl rfl rfl rfl
theorem x233_2n : XX X d 233 (2, [some (.null), l1, l2, l3], st, M) Q = XX X d 233 (3, [some (.null), l1, l2, l3], .null :: st, M) Q := H_ld rfl rfl rfl rfl rfl
theorem x233_3 : XX X d 233 (3, [l0, some (.int x), l2, l3], st, M) Q = XX X d 233 (4, [l0, some (.int x), l2, l3], .int x :: st, M) Q := H_ld rfl rfl rfl rfl rfl
theorem x233_4 {v1 : Value} (hd : 0 < d) (hs : stB st = true) : XX X d 233 (4, L, v1 :: .ref a :: st, M) Q = (mcl M a = some 8 ∧ CC X (d - 1) 79 [.ref a, v1] M (XC X d 233 4 7 L st Q)) := H_virt [v1] rfl (by decide) rfl rfl rfl rfl rfl hd hs
theorem x233_7 : XX X d 233 (7, L, .int x :: st, M) Q = XX X d 233 (8, L, .long x.toInt64 :: st, M) Q := G_sop rfl ⟨rfl, rfl, rfl, by decide⟩ rfl rfl
theorem x233_8 : XX X d 233 (8, L, v :: .int x :: .ref a :: st, M) Q = yw (M.2.2 a) a .lastore v x X d 233 9 L st M Q := G_ast rfl ⟨⟨rfl, rfl, rfl, by decide⟩, rfl, rfl⟩ rfl rfl rfl
theorem x233_9 : XX X d 233 (9, L, st, M) Q = XX X d 233 (15, L, st, M) Q := H_jmp rfl (by decide) rfl
theorem x233_12 (h : wide (some l2) = false) : XX X d 233 (12, [l0, l1, l2, l3], .ref a :: st, M) Q = XX X d 233 (13, [l0, l1, l2, some (.ref a)], st, M) Q := H_st rfl rfl rfl rfl rfl rfl rfl rfl (Or.inr h)
theorem x233_12n (h : wide (some l2) = false) : XX X d 233 (12, [l0, l1, l2, l3], .null :: st, M) Q = XX X d 233 (13, [l0, l1, l2, some (.null)], st, M) Q := H_st rfl rfl rfl rfl rfl rfl rfl rfl (Or.inr h)
theorem x233_13 : XX X d 233 (13, L, st, M) Q = XX X d 233 (14, L, .int (ii 1) :: st, M) Q := G_cst rfl rfl rfl rfl rfl
theorem x233_14 : XX X d 233 (14, L, [.int (ii p)], M) Q = Q (.inl (some (.int (ii p)))) M := G_ret rfl ⟨⟨⟨rfl, rfl, rfl, by decide⟩, rfl, rfl⟩, rfl, rfl⟩ rfl
theorem x233_15 : XX X d 233 (15, L, st, M) Q = XX X d 233 (16, L, .int (ii 0) :: st, M) Q := G_cst rfl rfl rfl rfl rfl
theorem x233_16 : XX X d 233 (16, L, [.int (ii p)], M) Q = Q (.inl (some (.int (ii p)))) M := G_ret rfl ⟨⟨⟨rfl, rfl, rfl, by decide⟩, rfl, rfl⟩, rfl, rfl⟩ rfl
theorem e233 : CC X d 233 [.ref a1, .int x, .ref a2] M Q = XX X d 233 (0, [some (.ref a1), some (.int x), some (.ref a2), none], [], M) Q := H_ent rfl rfl
-- 234 L_compile (LRegexTracer;[J)I
theorem x234_0 : XX X d 234 (0, [l0, some (.ref a), l2], st, M) Q = XX X d 234 (1, [l0, some (.ref a), l2], .ref a :: st, M) Q := H_ld rfl rfl rfl rfl rfl
theorem x234_0n : XX X d 234 (0, [l0, some (.null), l2], st, M) Q = XX X d 234 (1, [l0, some (.null), l2], .null :: st, M) Q := H_ld rfl rfl rfl rfl rfl
theorem x234_1 : XX X d 234 (1, L, st, M) Q = XX X d 234 (2, L, .int (ii 0) :: st, M) Q := G_cst rfl rfl rfl rfl rfl
theorem x234_2 : XX X d 234 (2, [some (.ref a), l1, l2], st, M) Q = XX X d 234 (3, [some (.ref a), l1, l2], .ref a :: st, M) Q := H_ld rfl rfl rfl rfl rfl
theorem x234_2n : XX X d 234 (2, [some (.null), l1, l2], st, M) Q = XX X d 234 (3, [some (.null), l1, l2], .null :: st, M) Q := H_ld rfl rfl rfl rfl rfl
theorem x234_3 (hd : 0 < d) (hs : stB st = true) : XX X d 234 (3, L, .ref a :: st, M) Q = (mcl M a = some 8 ∧ CC X (d - 1) 80 [.ref a] M (XC X d 234 3 6 L st Q)) := H_virt [] rfl (by decide) rfl rfl rfl rfl rfl hd hs
theorem x234_6 : XX X d 234 (6, L, .int x :: st, M) Q = XX X d 234 (7, L, .long x.toInt64 :: st, M) Q := G_sop rfl ⟨rfl, rfl, rfl, by decide⟩ rfl rfl
theorem x234_7 : XX X d 234 (7, L, v :: .int x :: .ref a :: st, M) Q = yw (M.2.2 a) a .lastore v x X d 234 8 L st M Q := G_ast rfl ⟨⟨rfl, rfl, rfl, by decide⟩, rfl, rfl⟩ rfl rfl rfl
theorem x234_8 : XX X d 234 (8, L, st, M) Q = XX X d 234 (17, L, st, M) Q := H_jmp rfl (by decide) rfl
theorem x234_11 (h : wide (some l1) = false) : XX X d 234 (11, [l0, l1, l2], .ref a :: st, M) Q = XX X d 234 (12, [l0, l1, some (.ref a)], st, M) Q := H_st rfl rfl rfl rfl rfl rfl rfl rfl (Or.inr h)
theorem x234_11n (h : wide (some l1) = false) : XX X d 234 (11, [l0, l1, l2], .null :: st, M) Q = XX X d 234 (12, [l0, l1, some (.null)], st, M) Q := H_st rfl rfl rfl rfl rfl rfl rfl rfl (Or.inr h)
theorem x234_12 : XX X d 234 (12, L, st, M) Q = XX X d 234 (13, L, .int (ii 1) :: st, M) Q := G_cst rfl rfl rfl rfl rfl
theorem x234_13 : XX X d 234 (13, L, [.int (ii p)], M) Q = Q (.inl (some (.int (ii p)))) M := G_ret rfl ⟨⟨⟨rfl, rfl, rfl, by decide⟩, rfl, rfl⟩, rfl, rfl⟩ rfl
theorem x234_14 (h : wide (some l1) = false) : XX X d 234 (14, [l0, l1, l2], .ref a :: st, M) Q = XX X d 234 (15, [l0, l1, some (.ref a)], st, M) Q := H_st rfl rfl rfl rfl rfl rfl rfl rfl (Or.inr h)
theorem x234_14n (h : wide (some l1) = false) : XX X d 234 (14, [l0, l1, l2], .null :: st, M) Q = XX X d 234 (15, [l0, l1, some (.null)], st, M) Q := H_st rfl rfl rfl rfl rfl rfl rfl rfl (Or.inr h)
theorem x234_15 : XX X d 234 (15, L, st, M) Q = XX X d 234 (16, L, .int (ii 2) :: st, M) Q := G_cst rfl rfl rfl rfl rfl
theorem x234_16 : XX X d 234 (16, L, [.int (ii p)], M) Q = Q (.inl (some (.int (ii p)))) M := G_ret rfl ⟨⟨⟨rfl, rfl, rfl, by decide⟩, rfl, rfl⟩, rfl, rfl⟩ rfl
theorem x234_17 : XX X d 234 (17, L, st, M) Q = XX X d 234 (18, L, .int (ii 0) :: st, M) Q := G_cst rfl rfl rfl rfl rfl
theorem x234_18 : XX X d 234 (18, L, [.int (ii p)], M) Q = Q (.inl (some (.int (ii p)))) M := G_ret rfl ⟨⟨⟨rfl, rfl, rfl, by decide⟩, rfl, rfl⟩, rfl, rfl⟩ rfl
theorem e234 : CC X d 234 [.ref a1, .ref a2] M Q = XX X d 234 (0, [some (.ref a1), some (.ref a2), none], [], M) Q := H_ent rfl rfl
-- 235 L_removePattern (LRegexTracer;I[J)I
theorem x235_0 : XX X d 235 (0, [l0, l1, some (.ref a), l3], st, M) Q = XX X d 235 (1, [l0, l1, some (.ref a), l3], .ref a :: st, M) Q := H_ld rfl rfl rfl rfl rfl
theorem x235_0n : XX X d 235 (0, [l0, l1, some (.null), l3], st, M) Q = XX X d 235 (1, [l0, l1, some (.null), l3], .null :: st, M) Q := H_ld rfl rfl rfl rfl rfl
theorem x235_1 : XX X d 235 (1, L, st, M) Q = XX X d 235 (2, L, .int (ii 0) :: st, M) Q := G_cst rfl rfl rfl rfl rfl
theorem x235_2 : XX X d 235 (2, [some (.ref a), l1, l2, l3], st, M) Q = XX X d 235 (3, [some (.ref a), l1, l2, l3], .ref a :: st, M) Q := H_ld rfl rfl rfl rfl rfl
theorem x235_2n : XX X d 235 (2, [some (.null), l1, l2, l3], st, M) Q = XX X d 235 (3, [some (.null), l1, l2, l3], .null :: st, M) Q := H_ld rfl rfl rfl rfl rfl
theorem x235_3 : XX X d 235 (3, [l0, some (.int x), l2, l3], st, M) Q = XX X d 235 (4, [l0, some (.int x), l2, l3], .int x :: st, M) Q := H_ld rfl rfl rfl rfl rfl
theorem x235_4 {v1 : Value} (hd : 0 < d) (hs : stB st = true) : XX X d 235 (4, L, v1 :: .ref a :: st, M) Q = (mcl M a = some 8 ∧ CC X (d - 1) 81 [.ref a, v1] M (XC X d 235 4 7 L st Q)) := H_virt [v1] rfl (by decide) rfl rfl rfl rfl rfl hd hs
theorem x235_7 : XX X d 235 (7, L, .int x :: st, M) Q = XX X d 235 (8, L, .long x.toInt64 :: st, M) Q := G_sop rfl ⟨rfl, rfl, rfl, by decide⟩ rfl rfl
theorem x235_8 : XX X d 235 (8, L, v :: .int x :: .ref a :: st, M) Q = yw (M.2.2 a) a .lastore v x X d 235 9 L st M Q := G_ast rfl ⟨⟨rfl, rfl, rfl, by decide⟩, rfl, rfl⟩ rfl rfl rfl
theorem x235_9 : XX X d 235 (9, L, st, M) Q = XX X d 235 (15, L, st, M) Q := H_jmp rfl (by decide) rfl
theorem x235_12 (h : wide (some l2) = false) : XX X d 235 (12, [l0, l1, l2, l3], .ref a :: st, M) Q = XX X d 235 (13, [l0, l1, l2, some (.ref a)], st, M) Q := H_st rfl rfl rfl rfl rfl rfl rfl rfl (Or.inr h)
theorem x235_12n (h : wide (some l2) = false) : XX X d 235 (12, [l0, l1, l2, l3], .null :: st, M) Q = XX X d 235 (13, [l0, l1, l2, some (.null)], st, M) Q := H_st rfl rfl rfl rfl rfl rfl rfl rfl (Or.inr h)
theorem x235_13 : XX X d 235 (13, L, st, M) Q = XX X d 235 (14, L, .int (ii 1) :: st, M) Q := G_cst rfl rfl rfl rfl rfl
theorem x235_14 : XX X d 235 (14, L, [.int (ii p)], M) Q = Q (.inl (some (.int (ii p)))) M := G_ret rfl ⟨⟨⟨rfl, rfl, rfl, by decide⟩, rfl, rfl⟩, rfl, rfl⟩ rfl
theorem x235_15 : XX X d 235 (15, L, st, M) Q = XX X d 235 (16, L, .int (ii 0) :: st, M) Q := G_cst rfl rfl rfl rfl rfl
theorem x235_16 : XX X d 235 (16, L, [.int (ii p)], M) Q = Q (.inl (some (.int (ii p)))) M := G_ret rfl ⟨⟨⟨rfl, rfl, rfl, by decide⟩, rfl, rfl⟩, rfl, rfl⟩ rfl
theorem e235 : CC X d 235 [.ref a1, .int x, .ref a2] M Q = XX X d 235 (0, [some (.ref a1), some (.int x), some (.ref a2), none], [], M) Q := H_ent rfl rfl
-- 236 L_patternLength (LRegexTracer;I[J)I
theorem x236_0 : XX X d 236 (0, [l0, l1, some (.ref a), l3], st, M) Q = XX X d 236 (1, [l0, l1, some (.ref a), l3], .ref a :: st, M) Q := H_ld rfl rfl rfl rfl rfl
theorem x236_0n : XX X d 236 (0, [l0, l1, some (.null), l3], st, M) Q = XX X d 236 (1, [l0, l1, some (.null), l3], .null :: st, M) Q := H_ld rfl rfl rfl rfl rfl
theorem x236_1 : XX X d 236 (1, L, st, M) Q = XX X d 236 (2, L, .int (ii 0) :: st, M) Q := G_cst rfl rfl rfl rfl rfl
theorem x236_2 : XX X d 236 (2, [some (.ref a), l1, l2, l3], st, M) Q = XX X d 236 (3, [some (.ref a), l1, l2, l3], .ref a :: st, M) Q := H_ld rfl rfl rfl rfl rfl
theorem x236_2n : XX X d 236 (2, [some (.null), l1, l2, l3], st, M) Q = XX X d 236 (3, [some (.null), l1, l2, l3], .null :: st, M) Q := H_ld rfl rfl rfl rfl rfl
theorem x236_3 : XX X d 236 (3, [l0, some (.int x), l2, l3], st, M) Q = XX X d 236 (4, [l0, some (.int x), l2, l3], .int x :: st, M) Q := H_ld rfl rfl rfl rfl rfl
theorem x236_4 {v1 : Value} (hd : 0 < d) (hs : stB st = true) : XX X d 236 (4, L, v1 :: .ref a :: st, M) Q = (mcl M a = some 8 ∧ CC X (d - 1) 83 [.ref a, v1] M (XC X d 236 4 7 L st Q)) := H_virt [v1] rfl (by decide) rfl rfl rfl rfl rfl hd hs
theorem x236_7 : XX X d 236 (7, L, .int x :: st, M) Q = XX X d 236 (8, L, .long x.toInt64 :: st, M) Q := G_sop rfl ⟨rfl, rfl, rfl, by decide⟩ rfl rfl
theorem x236_8 : XX X d 236 (8, L, v :: .int x :: .ref a :: st, M) Q = yw (M.2.2 a) a .lastore v x X d 236 9 L st M Q := G_ast rfl ⟨⟨rfl, rfl, rfl, by decide⟩, rfl, rfl⟩ rfl rfl rfl
theorem x236_9 : XX X d 236 (9, L, st, M) Q = XX X d 236 (15, L, st, M) Q := H_jmp rfl (by decide) rfl
theorem x236_12 (h : wide (some l2) = false) : XX X d 236 (12, [l0, l1, l2, l3], .ref a :: st, M) Q = XX X d 236 (13, [l0, l1, l2, some (.ref a)], st, M) Q := H_st rfl rfl rfl rfl rfl rfl rfl rfl (Or.inr h)
theorem x236_12n (h : wide (some l2) = false) : XX X d 236 (12, [l0, l1, l2, l3], .null :: st, M) Q = XX X d 236 (13, [l0, l1, l2, some (.null)], st, M) Q := H_st rfl rfl rfl rfl rfl rfl rfl rfl (Or.inr h)
theorem x236_13 : XX X d 236 (13, L, st, M) Q = XX X d 236 (14, L, .int (ii 1) :: st, M) Q := G_cst rfl rfl rfl rfl rfl
theorem x236_14 : XX X d 236 (14, L, [.int (ii p)], M) Q = Q (.inl (some (.int (ii p)))) M := G_ret rfl ⟨⟨⟨rfl, rfl, rfl, by decide⟩, rfl, rfl⟩, rfl, rfl⟩ rfl
theorem x236_15 : XX X d 236 (15, L, st, M) Q = XX X d 236 (16, L, .int (ii 0) :: st, M) Q := G_cst rfl rfl rfl rfl rfl
theorem x236_16 : XX X d 236 (16, L, [.int (ii p)], M) Q = Q (.inl (some (.int (ii p)))) M := G_ret rfl ⟨⟨⟨rfl, rfl, rfl, by decide⟩, rfl, rfl⟩, rfl, rfl⟩ rfl
theorem e236 : CC X d 236 [.ref a1, .int x, .ref a2] M Q = XX X d 236 (0, [some (.ref a1), some (.int x), some (.ref a2), none], [], M) Q := H_ent rfl rfl
-- 237 L_patternCharacter (LRegexTracer;II[J)I
theorem x237_0 : XX X d 237 (0, [l0, l1, l2, some (.ref a), l4], st, M) Q = XX X d 237 (1, [l0, l1, l2, some (.ref a), l4], .ref a :: st, M) Q := H_ld rfl rfl rfl rfl rfl
theorem x237_0n : XX X d 237 (0, [l0, l1, l2, some (.null), l4], st, M) Q = XX X d 237 (1, [l0, l1, l2, some (.null), l4], .null :: st, M) Q := H_ld rfl rfl rfl rfl rfl
theorem x237_1 : XX X d 237 (1, L, st, M) Q = XX X d 237 (2, L, .int (ii 0) :: st, M) Q := G_cst rfl rfl rfl rfl rfl
theorem x237_2 : XX X d 237 (2, [some (.ref a), l1, l2, l3, l4], st, M) Q = XX X d 237 (3, [some (.ref a), l1, l2, l3, l4], .ref a :: st, M) Q := H_ld rfl rfl rfl rfl rfl
theorem x237_2n : XX X d 237 (2, [some (.null), l1, l2, l3, l4], st, M) Q = XX X d 237 (3, [some (.null), l1, l2, l3, l4], .null :: st, M) Q := H_ld rfl rfl rfl rfl rfl
theorem x237_3 : XX X d 237 (3, [l0, some (.int x), l2, l3, l4], st, M) Q = XX X d 237 (4, [l0, some (.int x), l2, l3, l4], .int x :: st, M) Q := H_ld rfl rfl rfl rfl rfl
theorem x237_4 : XX X d 237 (4, [l0, l1, some (.int x), l3, l4], st, M) Q = XX X d 237 (5, [l0, l1, some (.int x), l3, l4], .int x :: st, M) Q := H_ld rfl rfl rfl rfl rfl
theorem x237_5 {v1 v2 : Value} (hd : 0 < d) (hs : stB st = true) : XX X d 237 (5, L, v2 :: v1 :: .ref a :: st, M) Q = (mcl M a = some 8 ∧ CC X (d - 1) 84 [.ref a, v1, v2] M (XC X d 237 5 8 L st Q)) := H_virt [v1, v2] rfl (by decide) rfl rfl rfl rfl rfl hd hs
theorem x237_8 : XX X d 237 (8, L, .int x :: st, M) Q = XX X d 237 (9, L, .long x.toInt64 :: st, M) Q := G_sop rfl ⟨rfl, rfl, rfl, by decide⟩ rfl rfl
theorem x237_9 : XX X d 237 (9, L, v :: .int x :: .ref a :: st, M) Q = yw (M.2.2 a) a .lastore v x X d 237 10 L st M Q := G_ast rfl ⟨⟨rfl, rfl, rfl, by decide⟩, rfl, rfl⟩ rfl rfl rfl
theorem x237_10 : XX X d 237 (10, L, st, M) Q = XX X d 237 (17, L, st, M) Q := H_jmp rfl (by decide) rfl
theorem x237_13 (h : wide (some l3) = false) : XX X d 237 (13, [l0, l1, l2, l3, l4], .ref a :: st, M) Q = XX X d 237 (15, [l0, l1, l2, l3, some (.ref a)], st, M) Q := H_st rfl rfl rfl rfl rfl rfl rfl rfl (Or.inr h)
theorem x237_13n (h : wide (some l3) = false) : XX X d 237 (13, [l0, l1, l2, l3, l4], .null :: st, M) Q = XX X d 237 (15, [l0, l1, l2, l3, some (.null)], st, M) Q := H_st rfl rfl rfl rfl rfl rfl rfl rfl (Or.inr h)
theorem x237_15 : XX X d 237 (15, L, st, M) Q = XX X d 237 (16, L, .int (ii 1) :: st, M) Q := G_cst rfl rfl rfl rfl rfl
theorem x237_16 : XX X d 237 (16, L, [.int (ii p)], M) Q = Q (.inl (some (.int (ii p)))) M := G_ret rfl ⟨⟨⟨rfl, rfl, rfl, by decide⟩, rfl, rfl⟩, rfl, rfl⟩ rfl
theorem x237_17 : XX X d 237 (17, L, st, M) Q = XX X d 237 (18, L, .int (ii 0) :: st, M) Q := G_cst rfl rfl rfl rfl rfl
theorem x237_18 : XX X d 237 (18, L, [.int (ii p)], M) Q = Q (.inl (some (.int (ii p)))) M := G_ret rfl ⟨⟨⟨rfl, rfl, rfl, by decide⟩, rfl, rfl⟩, rfl, rfl⟩ rfl
theorem e237 : CC X d 237 [.ref a1, .int x, .int x2, .ref a2] M Q = XX X d 237 (0, [some (.ref a1), some (.int x), some (.int x2), some (.ref a2), none], [], M) Q := H_ent rfl rfl
-- 238 L_groupCount (LRegexTracer;I[J)I
theorem x238_0 : XX X d 238 (0, [l0, l1, some (.ref a), l3], st, M) Q = XX X d 238 (1, [l0, l1, some (.ref a), l3], .ref a :: st, M) Q := H_ld rfl rfl rfl rfl rfl
theorem x238_0n : XX X d 238 (0, [l0, l1, some (.null), l3], st, M) Q = XX X d 238 (1, [l0, l1, some (.null), l3], .null :: st, M) Q := H_ld rfl rfl rfl rfl rfl
theorem x238_1 : XX X d 238 (1, L, st, M) Q = XX X d 238 (2, L, .int (ii 0) :: st, M) Q := G_cst rfl rfl rfl rfl rfl
theorem x238_2 : XX X d 238 (2, [some (.ref a), l1, l2, l3], st, M) Q = XX X d 238 (3, [some (.ref a), l1, l2, l3], .ref a :: st, M) Q := H_ld rfl rfl rfl rfl rfl
theorem x238_2n : XX X d 238 (2, [some (.null), l1, l2, l3], st, M) Q = XX X d 238 (3, [some (.null), l1, l2, l3], .null :: st, M) Q := H_ld rfl rfl rfl rfl rfl
theorem x238_3 : XX X d 238 (3, [l0, some (.int x), l2, l3], st, M) Q = XX X d 238 (4, [l0, some (.int x), l2, l3], .int x :: st, M) Q := H_ld rfl rfl rfl rfl rfl
theorem x238_4 {v1 : Value} (hd : 0 < d) (hs : stB st = true) : XX X d 238 (4, L, v1 :: .ref a :: st, M) Q = (mcl M a = some 8 ∧ CC X (d - 1) 85 [.ref a, v1] M (XC X d 238 4 7 L st Q)) := H_virt [v1] rfl (by decide) rfl rfl rfl rfl rfl hd hs
theorem x238_7 : XX X d 238 (7, L, .int x :: st, M) Q = XX X d 238 (8, L, .long x.toInt64 :: st, M) Q := G_sop rfl ⟨rfl, rfl, rfl, by decide⟩ rfl rfl
theorem x238_8 : XX X d 238 (8, L, v :: .int x :: .ref a :: st, M) Q = yw (M.2.2 a) a .lastore v x X d 238 9 L st M Q := G_ast rfl ⟨⟨rfl, rfl, rfl, by decide⟩, rfl, rfl⟩ rfl rfl rfl
theorem x238_9 : XX X d 238 (9, L, st, M) Q = XX X d 238 (15, L, st, M) Q := H_jmp rfl (by decide) rfl
theorem x238_12 (h : wide (some l2) = false) : XX X d 238 (12, [l0, l1, l2, l3], .ref a :: st, M) Q = XX X d 238 (13, [l0, l1, l2, some (.ref a)], st, M) Q := H_st rfl rfl rfl rfl rfl rfl rfl rfl (Or.inr h)
theorem x238_12n (h : wide (some l2) = false) : XX X d 238 (12, [l0, l1, l2, l3], .null :: st, M) Q = XX X d 238 (13, [l0, l1, l2, some (.null)], st, M) Q := H_st rfl rfl rfl rfl rfl rfl rfl rfl (Or.inr h)
theorem x238_13 : XX X d 238 (13, L, st, M) Q = XX X d 238 (14, L, .int (ii 1) :: st, M) Q := G_cst rfl rfl rfl rfl rfl
theorem x238_14 : XX X d 238 (14, L, [.int (ii p)], M) Q = Q (.inl (some (.int (ii p)))) M := G_ret rfl ⟨⟨⟨rfl, rfl, rfl, by decide⟩, rfl, rfl⟩, rfl, rfl⟩ rfl
theorem x238_15 : XX X d 238 (15, L, st, M) Q = XX X d 238 (16, L, .int (ii 0) :: st, M) Q := G_cst rfl rfl rfl rfl rfl
theorem x238_16 : XX X d 238 (16, L, [.int (ii p)], M) Q = Q (.inl (some (.int (ii p)))) M := G_ret rfl ⟨⟨⟨rfl, rfl, rfl, by decide⟩, rfl, rfl⟩, rfl, rfl⟩ rfl
theorem e238 : CC X d 238 [.ref a1, .int x, .ref a2] M Q = XX X d 238 (0, [some (.ref a1), some (.int x), some (.ref a2), none], [], M) Q := H_ent rfl rfl
-- 239 L_minimumLength (LRegexTracer;I[J)I
theorem x239_0 : XX X d 239 (0, [l0, l1, some (.ref a), l3], st, M) Q = XX X d 239 (1, [l0, l1, some (.ref a), l3], .ref a :: st, M) Q := H_ld rfl rfl rfl rfl rfl
theorem x239_0n : XX X d 239 (0, [l0, l1, some (.null), l3], st, M) Q = XX X d 239 (1, [l0, l1, some (.null), l3], .null :: st, M) Q := H_ld rfl rfl rfl rfl rfl
theorem x239_1 : XX X d 239 (1, L, st, M) Q = XX X d 239 (2, L, .int (ii 0) :: st, M) Q := G_cst rfl rfl rfl rfl rfl
theorem x239_2 : XX X d 239 (2, [some (.ref a), l1, l2, l3], st, M) Q = XX X d 239 (3, [some (.ref a), l1, l2, l3], .ref a :: st, M) Q := H_ld rfl rfl rfl rfl rfl
theorem x239_2n : XX X d 239 (2, [some (.null), l1, l2, l3], st, M) Q = XX X d 239 (3, [some (.null), l1, l2, l3], .null :: st, M) Q := H_ld rfl rfl rfl rfl rfl
theorem x239_3 : XX X d 239 (3, [l0, some (.int x), l2, l3], st, M) Q = XX X d 239 (4, [l0, some (.int x), l2, l3], .int x :: st, M) Q := H_ld rfl rfl rfl rfl rfl
theorem x239_4 {v1 : Value} (hd : 0 < d) (hs : stB st = true) : XX X d 239 (4, L, v1 :: .ref a :: st, M) Q = (mcl M a = some 8 ∧ CC X (d - 1) 86 [.ref a, v1] M (XC X d 239 4 7 L st Q)) := H_virt [v1] rfl (by decide) rfl rfl rfl rfl rfl hd hs
theorem x239_7 : XX X d 239 (7, L, .int x :: st, M) Q = XX X d 239 (8, L, .long x.toInt64 :: st, M) Q := G_sop rfl ⟨rfl, rfl, rfl, by decide⟩ rfl rfl
theorem x239_8 : XX X d 239 (8, L, v :: .int x :: .ref a :: st, M) Q = yw (M.2.2 a) a .lastore v x X d 239 9 L st M Q := G_ast rfl ⟨⟨rfl, rfl, rfl, by decide⟩, rfl, rfl⟩ rfl rfl rfl
theorem x239_9 : XX X d 239 (9, L, st, M) Q = XX X d 239 (15, L, st, M) Q := H_jmp rfl (by decide) rfl
theorem x239_12 (h : wide (some l2) = false) : XX X d 239 (12, [l0, l1, l2, l3], .ref a :: st, M) Q = XX X d 239 (13, [l0, l1, l2, some (.ref a)], st, M) Q := H_st rfl rfl rfl rfl rfl rfl rfl rfl (Or.inr h)
theorem x239_12n (h : wide (some l2) = false) : XX X d 239 (12, [l0, l1, l2, l3], .null :: st, M) Q = XX X d 239 (13, [l0, l1, l2, some (.null)], st, M) Q := H_st rfl rfl rfl rfl rfl rfl rfl rfl (Or.inr h)
theorem x239_13 : XX X d 239 (13, L, st, M) Q = XX X d 239 (14, L, .int (ii 1) :: st, M) Q := G_cst rfl rfl rfl rfl rfl
theorem x239_14 : XX X d 239 (14, L, [.int (ii p)], M) Q = Q (.inl (some (.int (ii p)))) M := G_ret rfl ⟨⟨⟨rfl, rfl, rfl, by decide⟩, rfl, rfl⟩, rfl, rfl⟩ rfl
theorem x239_15 : XX X d 239 (15, L, st, M) Q = XX X d 239 (16, L, .int (ii 0) :: st, M) Q := G_cst rfl rfl rfl rfl rfl
theorem x239_16 : XX X d 239 (16, L, [.int (ii p)], M) Q = Q (.inl (some (.int (ii p)))) M := G_ret rfl ⟨⟨⟨rfl, rfl, rfl, by decide⟩, rfl, rfl⟩, rfl, rfl⟩ rfl
theorem e239 : CC X d 239 [.ref a1, .int x, .ref a2] M Q = XX X d 239 (0, [some (.ref a1), some (.int x), some (.ref a2), none], [], M) Q := H_ent rfl rfl
-- 240 L_maximumLength (LRegexTracer;I[J)I
theorem x240_0 : XX X d 240 (0, [l0, l1, some (.ref a), l3], st, M) Q = XX X d 240 (1, [l0, l1, some (.ref a), l3], .ref a :: st, M) Q := H_ld rfl rfl rfl rfl rfl
theorem x240_0n : XX X d 240 (0, [l0, l1, some (.null), l3], st, M) Q = XX X d 240 (1, [l0, l1, some (.null), l3], .null :: st, M) Q := H_ld rfl rfl rfl rfl rfl
theorem x240_1 : XX X d 240 (1, L, st, M) Q = XX X d 240 (2, L, .int (ii 0) :: st, M) Q := G_cst rfl rfl rfl rfl rfl
theorem x240_2 : XX X d 240 (2, [some (.ref a), l1, l2, l3], st, M) Q = XX X d 240 (3, [some (.ref a), l1, l2, l3], .ref a :: st, M) Q := H_ld rfl rfl rfl rfl rfl
theorem x240_2n : XX X d 240 (2, [some (.null), l1, l2, l3], st, M) Q = XX X d 240 (3, [some (.null), l1, l2, l3], .null :: st, M) Q := H_ld rfl rfl rfl rfl rfl
theorem x240_3 : XX X d 240 (3, [l0, some (.int x), l2, l3], st, M) Q = XX X d 240 (4, [l0, some (.int x), l2, l3], .int x :: st, M) Q := H_ld rfl rfl rfl rfl rfl
theorem x240_4 {v1 : Value} (hd : 0 < d) (hs : stB st = true) : XX X d 240 (4, L, v1 :: .ref a :: st, M) Q = (mcl M a = some 8 ∧ CC X (d - 1) 87 [.ref a, v1] M (XC X d 240 4 7 L st Q)) := H_virt [v1] rfl (by decide) rfl rfl rfl rfl rfl hd hs
theorem x240_7 : XX X d 240 (7, L, .int x :: st, M) Q = XX X d 240 (8, L, .long x.toInt64 :: st, M) Q := G_sop rfl ⟨rfl, rfl, rfl, by decide⟩ rfl rfl
theorem x240_8 : XX X d 240 (8, L, v :: .int x :: .ref a :: st, M) Q = yw (M.2.2 a) a .lastore v x X d 240 9 L st M Q := G_ast rfl ⟨⟨rfl, rfl, rfl, by decide⟩, rfl, rfl⟩ rfl rfl rfl
theorem x240_9 : XX X d 240 (9, L, st, M) Q = XX X d 240 (18, L, st, M) Q := H_jmp rfl (by decide) rfl
theorem x240_12 (h : wide (some l2) = false) : XX X d 240 (12, [l0, l1, l2, l3], .ref a :: st, M) Q = XX X d 240 (13, [l0, l1, l2, some (.ref a)], st, M) Q := H_st rfl rfl rfl rfl rfl rfl rfl rfl (Or.inr h)
theorem x240_12n (h : wide (some l2) = false) : XX X d 240 (12, [l0, l1, l2, l3], .null :: st, M) Q = XX X d 240 (13, [l0, l1, l2, some (.null)], st, M) Q := H_st rfl rfl rfl rfl rfl rfl rfl rfl (Or.inr h)
theorem x240_13 : XX X d 240 (13, L, st, M) Q = XX X d 240 (14, L, .int (ii 1) :: st, M) Q := G_cst rfl rfl rfl rfl rfl
theorem x240_14 : XX X d 240 (14, L, [.int (ii p)], M) Q = Q (.inl (some (.int (ii p)))) M := G_ret rfl ⟨⟨⟨rfl, rfl, rfl, by decide⟩, rfl, rfl⟩, rfl, rfl⟩ rfl
theorem x240_15 (h : wide (some l2) = false) : XX X d 240 (15, [l0, l1, l2, l3], .ref a :: st, M) Q = XX X d 240 (16, [l0, l1, l2, some (.ref a)], st, M) Q := H_st rfl rfl rfl rfl rfl rfl rfl rfl (Or.inr h)
theorem x240_15n (h : wide (some l2) = false) : XX X d 240 (15, [l0, l1, l2, l3], .null :: st, M) Q = XX X d 240 (16, [l0, l1, l2, some (.null)], st, M) Q := H_st rfl rfl rfl rfl rfl rfl rfl rfl (Or.inr h)
theorem x240_16 : XX X d 240 (16, L, st, M) Q = XX X d 240 (17, L, .int (ii 2) :: st, M) Q := G_cst rfl rfl rfl rfl rfl
theorem x240_17 : XX X d 240 (17, L, [.int (ii p)], M) Q = Q (.inl (some (.int (ii p)))) M := G_ret rfl ⟨⟨⟨rfl, rfl, rfl, by decide⟩, rfl, rfl⟩, rfl, rfl⟩ rfl
theorem x240_18 : XX X d 240 (18, L, st, M) Q = XX X d 240 (19, L, .int (ii 0) :: st, M) Q := G_cst rfl rfl rfl rfl rfl
theorem x240_19 : XX X d 240 (19, L, [.int (ii p)], M) Q = Q (.inl (some (.int (ii p)))) M := G_ret rfl ⟨⟨⟨rfl, rfl, rfl, by decide⟩, rfl, rfl⟩, rfl, rfl⟩ rfl
theorem e240 : CC X d 240 [.ref a1, .int x, .ref a2] M Q = XX X d 240 (0, [some (.ref a1), some (.int x), some (.ref a2), none], [], M) Q := H_ent rfl rfl
-- 241 L_faultPosition (LRegexTracer;[J)I
theorem x241_0 : XX X d 241 (0, [l0, some (.ref a), l2], st, M) Q = XX X d 241 (1, [l0, some (.ref a), l2], .ref a :: st, M) Q := H_ld rfl rfl rfl rfl rfl
theorem x241_0n : XX X d 241 (0, [l0, some (.null), l2], st, M) Q = XX X d 241 (1, [l0, some (.null), l2], .null :: st, M) Q := H_ld rfl rfl rfl rfl rfl
theorem x241_1 : XX X d 241 (1, L, st, M) Q = XX X d 241 (2, L, .int (ii 0) :: st, M) Q := G_cst rfl rfl rfl rfl rfl
theorem x241_2 : XX X d 241 (2, [some (.ref a), l1, l2], st, M) Q = XX X d 241 (3, [some (.ref a), l1, l2], .ref a :: st, M) Q := H_ld rfl rfl rfl rfl rfl
theorem x241_2n : XX X d 241 (2, [some (.null), l1, l2], st, M) Q = XX X d 241 (3, [some (.null), l1, l2], .null :: st, M) Q := H_ld rfl rfl rfl rfl rfl
theorem x241_3 (hd : 0 < d) (hs : stB st = true) : XX X d 241 (3, L, .ref a :: st, M) Q = (mcl M a = some 8 ∧ CC X (d - 1) 88 [.ref a] M (XC X d 241 3 6 L st Q)) := H_virt [] rfl (by decide) rfl rfl rfl rfl rfl hd hs
theorem x241_6 : XX X d 241 (6, L, .int x :: st, M) Q = XX X d 241 (7, L, .long x.toInt64 :: st, M) Q := G_sop rfl ⟨rfl, rfl, rfl, by decide⟩ rfl rfl
theorem x241_7 : XX X d 241 (7, L, v :: .int x :: .ref a :: st, M) Q = yw (M.2.2 a) a .lastore v x X d 241 8 L st M Q := G_ast rfl ⟨⟨rfl, rfl, rfl, by decide⟩, rfl, rfl⟩ rfl rfl rfl
theorem x241_8 : XX X d 241 (8, L, st, M) Q = XX X d 241 (14, L, st, M) Q := H_jmp rfl (by decide) rfl
theorem x241_11 (h : wide (some l1) = false) : XX X d 241 (11, [l0, l1, l2], .ref a :: st, M) Q = XX X d 241 (12, [l0, l1, some (.ref a)], st, M) Q := H_st rfl rfl rfl rfl rfl rfl rfl rfl (Or.inr h)
theorem x241_11n (h : wide (some l1) = false) : XX X d 241 (11, [l0, l1, l2], .null :: st, M) Q = XX X d 241 (12, [l0, l1, some (.null)], st, M) Q := H_st rfl rfl rfl rfl rfl rfl rfl rfl (Or.inr h)
theorem x241_12 : XX X d 241 (12, L, st, M) Q = XX X d 241 (13, L, .int (ii 1) :: st, M) Q := G_cst rfl rfl rfl rfl rfl
theorem x241_13 : XX X d 241 (13, L, [.int (ii p)], M) Q = Q (.inl (some (.int (ii p)))) M := G_ret rfl ⟨⟨⟨rfl, rfl, rfl, by decide⟩, rfl, rfl⟩, rfl, rfl⟩ rfl
theorem x241_14 : XX X d 241 (14, L, st, M) Q = XX X d 241 (15, L, .int (ii 0) :: st, M) Q := G_cst rfl rfl rfl rfl rfl
theorem x241_15 : XX X d 241 (15, L, [.int (ii p)], M) Q = Q (.inl (some (.int (ii p)))) M := G_ret rfl ⟨⟨⟨rfl, rfl, rfl, by decide⟩, rfl, rfl⟩, rfl, rfl⟩ rfl
theorem e241 : CC X d 241 [.ref a1, .ref a2] M Q = XX X d 241 (0, [some (.ref a1), some (.ref a2), none], [], M) Q := H_ent rfl rfl
-- 242 L_faultKind (LRegexTracer;[J)I
theorem x242_0 : XX X d 242 (0, [l0, some (.ref a), l2], st, M) Q = XX X d 242 (1, [l0, some (.ref a), l2], .ref a :: st, M) Q := H_ld rfl rfl rfl rfl rfl
theorem x242_0n : XX X d 242 (0, [l0, some (.null), l2], st, M) Q = XX X d 242 (1, [l0, some (.null), l2], .null :: st, M) Q := H_ld rfl rfl rfl rfl rfl
theorem x242_1 : XX X d 242 (1, L, st, M) Q = XX X d 242 (2, L, .int (ii 0) :: st, M) Q := G_cst rfl rfl rfl rfl rfl
theorem x242_2 : XX X d 242 (2, [some (.ref a), l1, l2], st, M) Q = XX X d 242 (3, [some (.ref a), l1, l2], .ref a :: st, M) Q := H_ld rfl rfl rfl rfl rfl
theorem x242_2n : XX X d 242 (2, [some (.null), l1, l2], st, M) Q = XX X d 242 (3, [some (.null), l1, l2], .null :: st, M) Q := H_ld rfl rfl rfl rfl rfl
theorem x242_3 (hd : 0 < d) (hs : stB st = true) : XX X d 242 (3, L, .ref a :: st, M) Q = (mcl M a = some 8 ∧ CC X (d - 1) 89 [.ref a] M (XC X d 242 3 6 L st Q)) := H_virt [] rfl (by decide) rfl rfl rfl rfl rfl hd hs
theorem x242_6 : XX X d 242 (6, L, .int x :: st, M) Q = XX X d 242 (7, L, .long x.toInt64 :: st, M) Q := G_sop rfl ⟨rfl, rfl, rfl, by decide⟩ rfl rfl
theorem x242_7 : XX X d 242 (7, L, v :: .int x :: .ref a :: st, M) Q = yw (M.2.2 a) a .lastore v x X d 242 8 L st M Q := G_ast rfl ⟨⟨rfl, rfl, rfl, by decide⟩, rfl, rfl⟩ rfl rfl rfl
theorem x242_8 : XX X d 242 (8, L, st, M) Q = XX X d 242 (14, L, st, M) Q := H_jmp rfl (by decide) rfl
theorem x242_11 (h : wide (some l1) = false) : XX X d 242 (11, [l0, l1, l2], .ref a :: st, M) Q = XX X d 242 (12, [l0, l1, some (.ref a)], st, M) Q := H_st rfl rfl rfl rfl rfl rfl rfl rfl (Or.inr h)
theorem x242_11n (h : wide (some l1) = false) : XX X d 242 (11, [l0, l1, l2], .null :: st, M) Q = XX X d 242 (12, [l0, l1, some (.null)], st, M) Q := H_st rfl rfl rfl rfl rfl rfl rfl rfl (Or.inr h)
theorem x242_12 : XX X d 242 (12, L, st, M) Q = XX X d 242 (13, L, .int (ii 1) :: st, M) Q := G_cst rfl rfl rfl rfl rfl
theorem x242_13 : XX X d 242 (13, L, [.int (ii p)], M) Q = Q (.inl (some (.int (ii p)))) M := G_ret rfl ⟨⟨⟨rfl, rfl, rfl, by decide⟩, rfl, rfl⟩, rfl, rfl⟩ rfl
theorem x242_14 : XX X d 242 (14, L, st, M) Q = XX X d 242 (15, L, .int (ii 0) :: st, M) Q := G_cst rfl rfl rfl rfl rfl
theorem x242_15 : XX X d 242 (15, L, [.int (ii p)], M) Q = Q (.inl (some (.int (ii p)))) M := G_ret rfl ⟨⟨⟨rfl, rfl, rfl, by decide⟩, rfl, rfl⟩, rfl, rfl⟩ rfl
theorem e242 : CC X d 242 [.ref a1, .ref a2] M Q = XX X d 242 (0, [some (.ref a1), some (.ref a2), none], [], M) Q := H_ent rfl rfl
-- 243 L_faultDepth (LRegexTracer;[J)I
theorem x243_0 : XX X d 243 (0, [l0, some (.ref a), l2], st, M) Q = XX X d 243 (1, [l0, some (.ref a), l2], .ref a :: st, M) Q := H_ld rfl rfl rfl rfl rfl
theorem x243_0n : XX X d 243 (0, [l0, some (.null), l2], st, M) Q = XX X d 243 (1, [l0, some (.null), l2], .null :: st, M) Q := H_ld rfl rfl rfl rfl rfl
theorem x243_1 : XX X d 243 (1, L, st, M) Q = XX X d 243 (2, L, .int (ii 0) :: st, M) Q := G_cst rfl rfl rfl rfl rfl
theorem x243_2 : XX X d 243 (2, [some (.ref a), l1, l2], st, M) Q = XX X d 243 (3, [some (.ref a), l1, l2], .ref a :: st, M) Q := H_ld rfl rfl rfl rfl rfl
theorem x243_2n : XX X d 243 (2, [some (.null), l1, l2], st, M) Q = XX X d 243 (3, [some (.null), l1, l2], .null :: st, M) Q := H_ld rfl rfl rfl rfl rfl
theorem x243_3 (hd : 0 < d) (hs : stB st = true) : XX X d 243 (3, L, .ref a :: st, M) Q = (mcl M a = some 8 ∧ CC X (d - 1) 90 [.ref a] M (XC X d 243 3 6 L st Q)) := H_virt [] rfl (by decide) rfl rfl rfl rfl rfl hd hs
theorem x243_6 : XX X d 243 (6, L, .int x :: st, M) Q = XX X d 243 (7, L, .long x.toInt64 :: st, M) Q := G_sop rfl ⟨rfl, rfl, rfl, by decide⟩ rfl rfl
theorem x243_7 : XX X d 243 (7, L, v :: .int x :: .ref a :: st, M) Q = yw (M.2.2 a) a .lastore v x X d 243 8 L st M Q := G_ast rfl ⟨⟨rfl, rfl, rfl, by decide⟩, rfl, rfl⟩ rfl rfl rfl
theorem x243_8 : XX X d 243 (8, L, st, M) Q = XX X d 243 (14, L, st, M) Q := H_jmp rfl (by decide) rfl
theorem x243_11 (h : wide (some l1) = false) : XX X d 243 (11, [l0, l1, l2], .ref a :: st, M) Q = XX X d 243 (12, [l0, l1, some (.ref a)], st, M) Q := H_st rfl rfl rfl rfl rfl rfl rfl rfl (Or.inr h)
theorem x243_11n (h : wide (some l1) = false) : XX X d 243 (11, [l0, l1, l2], .null :: st, M) Q = XX X d 243 (12, [l0, l1, some (.null)], st, M) Q := H_st rfl rfl rfl rfl rfl rfl rfl rfl (Or.inr h)
theorem x243_12 : XX X d 243 (12, L, st, M) Q = XX X d 243 (13, L, .int (ii 1) :: st, M) Q := G_cst rfl rfl rfl rfl rfl
theorem x243_13 : XX X d 243 (13, L, [.int (ii p)], M) Q = Q (.inl (some (.int (ii p)))) M := G_ret rfl ⟨⟨⟨rfl, rfl, rfl, by decide⟩, rfl, rfl⟩, rfl, rfl⟩ rfl
theorem x243_14 : XX X d 243 (14, L, st, M) Q = XX X d 243 (15, L, .int (ii 0) :: st, M) Q := G_cst rfl rfl rfl rfl rfl
theorem x243_15 : XX X d 243 (15, L, [.int (ii p)], M) Q = Q (.inl (some (.int (ii p)))) M := G_ret rfl ⟨⟨⟨rfl, rfl, rfl, by decide⟩, rfl, rfl⟩, rfl, rfl⟩ rfl
theorem e243 : CC X d 243 [.ref a1, .ref a2] M Q = XX X d 243 (0, [some (.ref a1), some (.ref a2), none], [], M) Q := H_ent rfl rfl
-- 244 L_typeText (LRegexTracer;C[J)I
theorem x244_0 : XX X d 244 (0, [l0, l1, some (.ref a), l3], st, M) Q = XX X d 244 (1, [l0, l1, some (.ref a), l3], .ref a :: st, M) Q := H_ld rfl rfl rfl rfl rfl
theorem x244_0n : XX X d 244 (0, [l0, l1, some (.null), l3], st, M) Q = XX X d 244 (1, [l0, l1, some (.null), l3], .null :: st, M) Q := H_ld rfl rfl rfl rfl rfl
theorem x244_1 : XX X d 244 (1, L, st, M) Q = XX X d 244 (2, L, .int (ii 0) :: st, M) Q := G_cst rfl rfl rfl rfl rfl
theorem x244_2 : XX X d 244 (2, [some (.ref a), l1, l2, l3], st, M) Q = XX X d 244 (3, [some (.ref a), l1, l2, l3], .ref a :: st, M) Q := H_ld rfl rfl rfl rfl rfl
theorem x244_2n : XX X d 244 (2, [some (.null), l1, l2, l3], st, M) Q = XX X d 244 (3, [some (.null), l1, l2, l3], .null :: st, M) Q := H_ld rfl rfl rfl rfl rfl
theorem x244_3 : XX X d 244 (3, [l0, some (.int x), l2, l3], st, M) Q = XX X d 244 (4, [l0, some (.int x), l2, l3], .int x :: st, M) Q := H_ld rfl rfl rfl rfl rfl
theorem x244_4 {v1 : Value} (hd : 0 < d) (hs : stB st = true) : XX X d 244 (4, L, v1 :: .ref a :: st, M) Q = (mcl M a = some 8 ∧ CC X (d - 1) 91 [.ref a, v1] M (XC X d 244 4 7 L st Q)) := H_virt [v1] rfl (by decide) rfl rfl rfl rfl rfl hd hs
theorem x244_7 : XX X d 244 (7, L, .int x :: st, M) Q = XX X d 244 (8, L, .long x.toInt64 :: st, M) Q := G_sop rfl ⟨rfl, rfl, rfl, by decide⟩ rfl rfl
theorem x244_8 : XX X d 244 (8, L, v :: .int x :: .ref a :: st, M) Q = yw (M.2.2 a) a .lastore v x X d 244 9 L st M Q := G_ast rfl ⟨⟨rfl, rfl, rfl, by decide⟩, rfl, rfl⟩ rfl rfl rfl
theorem x244_9 : XX X d 244 (9, L, st, M) Q = XX X d 244 (18, L, st, M) Q := H_jmp rfl (by decide) rfl
theorem x244_12 (h : wide (some l2) = false) : XX X d 244 (12, [l0, l1, l2, l3], .ref a :: st, M) Q = XX X d 244 (13, [l0, l1, l2, some (.ref a)], st, M) Q := H_st rfl rfl rfl rfl rfl rfl rfl rfl (Or.inr h)
theorem x244_12n (h : wide (some l2) = false) : XX X d 244 (12, [l0, l1, l2, l3], .null :: st, M) Q = XX X d 244 (13, [l0, l1, l2, some (.null)], st, M) Q := H_st rfl rfl rfl rfl rfl rfl rfl rfl (Or.inr h)
theorem x244_13 : XX X d 244 (13, L, st, M) Q = XX X d 244 (14, L, .int (ii 1) :: st, M) Q := G_cst rfl rfl rfl rfl rfl
theorem x244_14 : XX X d 244 (14, L, [.int (ii p)], M) Q = Q (.inl (some (.int (ii p)))) M := G_ret rfl ⟨⟨⟨rfl, rfl, rfl, by decide⟩, rfl, rfl⟩, rfl, rfl⟩ rfl
theorem x244_15 (h : wide (some l2) = false) : XX X d 244 (15, [l0, l1, l2, l3], .ref a :: st, M) Q = XX X d 244 (16, [l0, l1, l2, some (.ref a)], st, M) Q := H_st rfl rfl rfl rfl rfl rfl rfl rfl (Or.inr h)
theorem x244_15n (h : wide (some l2) = false) : XX X d 244 (15, [l0, l1, l2, l3], .null :: st, M) Q = XX X d 244 (16, [l0, l1, l2, some (.null)], st, M) Q := H_st rfl rfl rfl rfl rfl rfl rfl rfl (Or.inr h)
theorem x244_16 : XX X d 244 (16, L, st, M) Q = XX X d 244 (17, L, .int (ii 2) :: st, M) Q := G_cst rfl rfl rfl rfl rfl
theorem x244_17 : XX X d 244 (17, L, [.int (ii p)], M) Q = Q (.inl (some (.int (ii p)))) M := G_ret rfl ⟨⟨⟨rfl, rfl, rfl, by decide⟩, rfl, rfl⟩, rfl, rfl⟩ rfl
theorem x244_18 : XX X d 244 (18, L, st, M) Q = XX X d 244 (19, L, .int (ii 0) :: st, M) Q := G_cst rfl rfl rfl rfl rfl
theorem x244_19 : XX X d 244 (19, L, [.int (ii p)], M) Q = Q (.inl (some (.int (ii p)))) M := G_ret rfl ⟨⟨⟨rfl, rfl, rfl, by decide⟩, rfl, rfl⟩, rfl, rfl⟩ rfl
theorem e244 : CC X d 244 [.ref a1, .int x, .ref a2] M Q = XX X d 244 (0, [some (.ref a1), some (.int x), some (.ref a2), none], [], M) Q := H_ent rfl rfl
-- 245 L_insertText (LRegexTracer;I[J)I
theorem x245_0 : XX X d 245 (0, [l0, l1, some (.ref a), l3], st, M) Q = XX X d 245 (1, [l0, l1, some (.ref a), l3], .ref a :: st, M) Q := H_ld rfl rfl rfl rfl rfl
theorem x245_0n : XX X d 245 (0, [l0, l1, some (.null), l3], st, M) Q = XX X d 245 (1, [l0, l1, some (.null), l3], .null :: st, M) Q := H_ld rfl rfl rfl rfl rfl
theorem x245_1 : XX X d 245 (1, L, st, M) Q = XX X d 245 (2, L, .int (ii 0) :: st, M) Q := G_cst rfl rfl rfl rfl rfl
theorem x245_2 : XX X d 245 (2, [some (.ref a), l1, l2, l3], st, M) Q = XX X d 245 (3, [some (.ref a), l1, l2, l3], .ref a :: st, M) Q := H_ld rfl rfl rfl rfl rfl
theorem x245_2n : XX X d 245 (2, [some (.null), l1, l2, l3], st, M) Q = XX X d 245 (3, [some (.null), l1, l2, l3], .null :: st, M) Q := H_ld rfl rfl rfl rfl rfl
theorem x245_3 : XX X d 245 (3, [l0, some (.int x), l2, l3], st, M) Q = XX X d 245 (4, [l0, some (.int x), l2, l3], .int x :: st, M) Q := H_ld rfl rfl rfl rfl rfl
theorem x245_4 {v1 : Value} (hd : 0 < d) (hs : stB st = true) : XX X d 245 (4, L, v1 :: .ref a :: st, M) Q = (mcl M a = some 8 ∧ CC X (d - 1) 93 [.ref a, v1] M (XC X d 245 4 7 L st Q)) := H_virt [v1] rfl (by decide) rfl rfl rfl rfl rfl hd hs
theorem x245_7 : XX X d 245 (7, L, .int x :: st, M) Q = XX X d 245 (8, L, .long x.toInt64 :: st, M) Q := G_sop rfl ⟨rfl, rfl, rfl, by decide⟩ rfl rfl
theorem x245_8 : XX X d 245 (8, L, v :: .int x :: .ref a :: st, M) Q = yw (M.2.2 a) a .lastore v x X d 245 9 L st M Q := G_ast rfl ⟨⟨rfl, rfl, rfl, by decide⟩, rfl, rfl⟩ rfl rfl rfl
theorem x245_9 : XX X d 245 (9, L, st, M) Q = XX X d 245 (18, L, st, M) Q := H_jmp rfl (by decide) rfl
theorem x245_12 (h : wide (some l2) = false) : XX X d 245 (12, [l0, l1, l2, l3], .ref a :: st, M) Q = XX X d 245 (13, [l0, l1, l2, some (.ref a)], st, M) Q := H_st rfl rfl rfl rfl rfl rfl rfl rfl (Or.inr h)
theorem x245_12n (h : wide (some l2) = false) : XX X d 245 (12, [l0, l1, l2, l3], .null :: st, M) Q = XX X d 245 (13, [l0, l1, l2, some (.null)], st, M) Q := H_st rfl rfl rfl rfl rfl rfl rfl rfl (Or.inr h)
theorem x245_13 : XX X d 245 (13, L, st, M) Q = XX X d 245 (14, L, .int (ii 1) :: st, M) Q := G_cst rfl rfl rfl rfl rfl
theorem x245_14 : XX X d 245 (14, L, [.int (ii p)], M) Q = Q (.inl (some (.int (ii p)))) M := G_ret rfl ⟨⟨⟨rfl, rfl, rfl, by decide⟩, rfl, rfl⟩, rfl, rfl⟩ rfl
theorem x245_15 (h : wide (some l2) = false) : XX X d 245 (15, [l0, l1, l2, l3], .ref a :: st, M) Q = XX X d 245 (16, [l0, l1, l2, some (.ref a)], st, M) Q := H_st rfl rfl rfl rfl rfl rfl rfl rfl (Or.inr h)
theorem x245_15n (h : wide (some l2) = false) : XX X d 245 (15, [l0, l1, l2, l3], .null :: st, M) Q = XX X d 245 (16, [l0, l1, l2, some (.null)], st, M) Q := H_st rfl rfl rfl rfl rfl rfl rfl rfl (Or.inr h)
theorem x245_16 : XX X d 245 (16, L, st, M) Q = XX X d 245 (17, L, .int (ii 2) :: st, M) Q := G_cst rfl rfl rfl rfl rfl
theorem x245_17 : XX X d 245 (17, L, [.int (ii p)], M) Q = Q (.inl (some (.int (ii p)))) M := G_ret rfl ⟨⟨⟨rfl, rfl, rfl, by decide⟩, rfl, rfl⟩, rfl, rfl⟩ rfl
theorem x245_18 : XX X d 245 (18, L, st, M) Q = XX X d 245 (19, L, .int (ii 0) :: st, M) Q := G_cst rfl rfl rfl rfl rfl
theorem x245_19 : XX X d 245 (19, L, [.int (ii p)], M) Q = Q (.inl (some (.int (ii p)))) M := G_ret rfl ⟨⟨⟨rfl, rfl, rfl, by decide⟩, rfl, rfl⟩, rfl, rfl⟩ rfl
theorem e245 : CC X d 245 [.ref a1, .int x, .ref a2] M Q = XX X d 245 (0, [some (.ref a1), some (.int x), some (.ref a2), none], [], M) Q := H_ent rfl rfl
-- 246 L_deleteText (LRegexTracer;II[J)I
theorem x246_0 : XX X d 246 (0, [l0, l1, l2, some (.ref a), l4], st, M) Q = XX X d 246 (1, [l0, l1, l2, some (.ref a), l4], .ref a :: st, M) Q := H_ld rfl rfl rfl rfl rfl
theorem x246_0n : XX X d 246 (0, [l0, l1, l2, some (.null), l4], st, M) Q = XX X d 246 (1, [l0, l1, l2, some (.null), l4], .null :: st, M) Q := H_ld rfl rfl rfl rfl rfl
theorem x246_1 : XX X d 246 (1, L, st, M) Q = XX X d 246 (2, L, .int (ii 0) :: st, M) Q := G_cst rfl rfl rfl rfl rfl
theorem x246_2 : XX X d 246 (2, [some (.ref a), l1, l2, l3, l4], st, M) Q = XX X d 246 (3, [some (.ref a), l1, l2, l3, l4], .ref a :: st, M) Q := H_ld rfl rfl rfl rfl rfl
theorem x246_2n : XX X d 246 (2, [some (.null), l1, l2, l3, l4], st, M) Q = XX X d 246 (3, [some (.null), l1, l2, l3, l4], .null :: st, M) Q := H_ld rfl rfl rfl rfl rfl
theorem x246_3 : XX X d 246 (3, [l0, some (.int x), l2, l3, l4], st, M) Q = XX X d 246 (4, [l0, some (.int x), l2, l3, l4], .int x :: st, M) Q := H_ld rfl rfl rfl rfl rfl
theorem x246_4 : XX X d 246 (4, [l0, l1, some (.int x), l3, l4], st, M) Q = XX X d 246 (5, [l0, l1, some (.int x), l3, l4], .int x :: st, M) Q := H_ld rfl rfl rfl rfl rfl
theorem x246_5 {v1 v2 : Value} (hd : 0 < d) (hs : stB st = true) : XX X d 246 (5, L, v2 :: v1 :: .ref a :: st, M) Q = (mcl M a = some 8 ∧ CC X (d - 1) 94 [.ref a, v1, v2] M (XC X d 246 5 8 L st Q)) := H_virt [v1, v2] rfl (by decide) rfl rfl rfl rfl rfl hd hs
theorem x246_8 : XX X d 246 (8, L, .int x :: st, M) Q = XX X d 246 (9, L, .long x.toInt64 :: st, M) Q := G_sop rfl ⟨rfl, rfl, rfl, by decide⟩ rfl rfl
theorem x246_9 : XX X d 246 (9, L, v :: .int x :: .ref a :: st, M) Q = yw (M.2.2 a) a .lastore v x X d 246 10 L st M Q := G_ast rfl ⟨⟨rfl, rfl, rfl, by decide⟩, rfl, rfl⟩ rfl rfl rfl
theorem x246_10 : XX X d 246 (10, L, st, M) Q = XX X d 246 (17, L, st, M) Q := H_jmp rfl (by decide) rfl
theorem x246_13 (h : wide (some l3) = false) : XX X d 246 (13, [l0, l1, l2, l3, l4], .ref a :: st, M) Q = XX X d 246 (15, [l0, l1, l2, l3, some (.ref a)], st, M) Q := H_st rfl rfl rfl rfl rfl rfl rfl rfl (Or.inr h)
theorem x246_13n (h : wide (some l3) = false) : XX X d 246 (13, [l0, l1, l2, l3, l4], .null :: st, M) Q = XX X d 246 (15, [l0, l1, l2, l3, some (.null)], st, M) Q := H_st rfl rfl rfl rfl rfl rfl rfl rfl (Or.inr h)
theorem x246_15 : XX X d 246 (15, L, st, M) Q = XX X d 246 (16, L, .int (ii 1) :: st, M) Q := G_cst rfl rfl rfl rfl rfl
theorem x246_16 : XX X d 246 (16, L, [.int (ii p)], M) Q = Q (.inl (some (.int (ii p)))) M := G_ret rfl ⟨⟨⟨rfl, rfl, rfl, by decide⟩, rfl, rfl⟩, rfl, rfl⟩ rfl
theorem x246_17 : XX X d 246 (17, L, st, M) Q = XX X d 246 (18, L, .int (ii 0) :: st, M) Q := G_cst rfl rfl rfl rfl rfl
theorem x246_18 : XX X d 246 (18, L, [.int (ii p)], M) Q = Q (.inl (some (.int (ii p)))) M := G_ret rfl ⟨⟨⟨rfl, rfl, rfl, by decide⟩, rfl, rfl⟩, rfl, rfl⟩ rfl
theorem e246 : CC X d 246 [.ref a1, .int x, .int x2, .ref a2] M Q = XX X d 246 (0, [some (.ref a1), some (.int x), some (.int x2), some (.ref a2), none], [], M) Q := H_ent rfl rfl
-- 247 L_replaceMatches (LRegexTracer;IC[J)I
theorem x247_0 : XX X d 247 (0, [l0, l1, l2, some (.ref a), l4], st, M) Q = XX X d 247 (1, [l0, l1, l2, some (.ref a), l4], .ref a :: st, M) Q := H_ld rfl rfl rfl rfl rfl
theorem x247_0n : XX X d 247 (0, [l0, l1, l2, some (.null), l4], st, M) Q = XX X d 247 (1, [l0, l1, l2, some (.null), l4], .null :: st, M) Q := H_ld rfl rfl rfl rfl rfl
theorem x247_1 : XX X d 247 (1, L, st, M) Q = XX X d 247 (2, L, .int (ii 0) :: st, M) Q := G_cst rfl rfl rfl rfl rfl
theorem x247_2 : XX X d 247 (2, [some (.ref a), l1, l2, l3, l4], st, M) Q = XX X d 247 (3, [some (.ref a), l1, l2, l3, l4], .ref a :: st, M) Q := H_ld rfl rfl rfl rfl rfl
theorem x247_2n : XX X d 247 (2, [some (.null), l1, l2, l3, l4], st, M) Q = XX X d 247 (3, [some (.null), l1, l2, l3, l4], .null :: st, M) Q := H_ld rfl rfl rfl rfl rfl
theorem x247_3 : XX X d 247 (3, [l0, some (.int x), l2, l3, l4], st, M) Q = XX X d 247 (4, [l0, some (.int x), l2, l3, l4], .int x :: st, M) Q := H_ld rfl rfl rfl rfl rfl
theorem x247_4 : XX X d 247 (4, [l0, l1, some (.int x), l3, l4], st, M) Q = XX X d 247 (5, [l0, l1, some (.int x), l3, l4], .int x :: st, M) Q := H_ld rfl rfl rfl rfl rfl
theorem x247_5 {v1 v2 : Value} (hd : 0 < d) (hs : stB st = true) : XX X d 247 (5, L, v2 :: v1 :: .ref a :: st, M) Q = (mcl M a = some 8 ∧ CC X (d - 1) 95 [.ref a, v1, v2] M (XC X d 247 5 8 L st Q)) := H_virt [v1, v2] rfl (by decide) rfl rfl rfl rfl rfl hd hs
theorem x247_8 : XX X d 247 (8, L, .int x :: st, M) Q = XX X d 247 (9, L, .long x.toInt64 :: st, M) Q := G_sop rfl ⟨rfl, rfl, rfl, by decide⟩ rfl rfl
theorem x247_9 : XX X d 247 (9, L, v :: .int x :: .ref a :: st, M) Q = yw (M.2.2 a) a .lastore v x X d 247 10 L st M Q := G_ast rfl ⟨⟨rfl, rfl, rfl, by decide⟩, rfl, rfl⟩ rfl rfl rfl
theorem x247_10 : XX X d 247 (10, L, st, M) Q = XX X d 247 (25, L, st, M) Q := H_jmp rfl (by decide) rfl
theorem x247_13 (h : wide (some l3) = false) : XX X d 247 (13, [l0, l1, l2, l3, l4], .ref a :: st, M) Q = XX X d 247 (15, [l0, l1, l2, l3, some (.ref a)], st, M) Q := H_st rfl rfl rfl rfl rfl rfl rfl rfl (Or.inr h)
theorem x247_13n (h : wide (some l3) = false) : XX X d 247 (13, [l0, l1, l2, l3, l4], .null :: st, M) Q = XX X d 247 (15, [l0, l1, l2, l3, some (.null)], st, M) Q := H_st rfl rfl rfl rfl rfl rfl rfl rfl (Or.inr h)
theorem x247_15 : XX X d 247 (15, L, st, M) Q = XX X d 247 (16, L, .int (ii 1) :: st, M) Q := G_cst rfl rfl rfl rfl rfl
theorem x247_16 : XX X d 247 (16, L, [.int (ii p)], M) Q = Q (.inl (some (.int (ii p)))) M := G_ret rfl ⟨⟨⟨rfl, rfl, rfl, by decide⟩, rfl, rfl⟩, rfl, rfl⟩ rfl
theorem x247_17 (h : wide (some l3) = false) : XX X d 247 (17, [l0, l1, l2, l3, l4], .ref a :: st, M) Q = XX X d 247 (19, [l0, l1, l2, l3, some (.ref a)], st, M) Q := H_st rfl rfl rfl rfl rfl rfl rfl rfl (Or.inr h)
theorem x247_17n (h : wide (some l3) = false) : XX X d 247 (17, [l0, l1, l2, l3, l4], .null :: st, M) Q = XX X d 247 (19, [l0, l1, l2, l3, some (.null)], st, M) Q := H_st rfl rfl rfl rfl rfl rfl rfl rfl (Or.inr h)
theorem x247_19 : XX X d 247 (19, L, st, M) Q = XX X d 247 (20, L, .int (ii 2) :: st, M) Q := G_cst rfl rfl rfl rfl rfl
theorem x247_20 : XX X d 247 (20, L, [.int (ii p)], M) Q = Q (.inl (some (.int (ii p)))) M := G_ret rfl ⟨⟨⟨rfl, rfl, rfl, by decide⟩, rfl, rfl⟩, rfl, rfl⟩ rfl
theorem x247_21 (h : wide (some l3) = false) : XX X d 247 (21, [l0, l1, l2, l3, l4], .ref a :: st, M) Q = XX X d 247 (23, [l0, l1, l2, l3, some (.ref a)], st, M) Q := H_st rfl rfl rfl rfl rfl rfl rfl rfl (Or.inr h)
theorem x247_21n (h : wide (some l3) = false) : XX X d 247 (21, [l0, l1, l2, l3, l4], .null :: st, M) Q = XX X d 247 (23, [l0, l1, l2, l3, some (.null)], st, M) Q := H_st rfl rfl rfl rfl rfl rfl rfl rfl (Or.inr h)
theorem x247_23 : XX X d 247 (23, L, st, M) Q = XX X d 247 (24, L, .int (ii 3) :: st, M) Q := G_cst rfl rfl rfl rfl rfl
theorem x247_24 : XX X d 247 (24, L, [.int (ii p)], M) Q = Q (.inl (some (.int (ii p)))) M := G_ret rfl ⟨⟨⟨rfl, rfl, rfl, by decide⟩, rfl, rfl⟩, rfl, rfl⟩ rfl
theorem x247_25 : XX X d 247 (25, L, st, M) Q = XX X d 247 (26, L, .int (ii 0) :: st, M) Q := G_cst rfl rfl rfl rfl rfl
theorem x247_26 : XX X d 247 (26, L, [.int (ii p)], M) Q = Q (.inl (some (.int (ii p)))) M := G_ret rfl ⟨⟨⟨rfl, rfl, rfl, by decide⟩, rfl, rfl⟩, rfl, rfl⟩ rfl
theorem e247 : CC X d 247 [.ref a1, .int x, .int x2, .ref a2] M Q = XX X d 247 (0, [some (.ref a1), some (.int x), some (.int x2), some (.ref a2), none], [], M) Q := H_ent rfl rfl
-- 248 L_textCharacter (LRegexTracer;I[J)I
theorem x248_0 : XX X d 248 (0, [l0, l1, some (.ref a), l3], st, M) Q = XX X d 248 (1, [l0, l1, some (.ref a), l3], .ref a :: st, M) Q := H_ld rfl rfl rfl rfl rfl
theorem x248_0n : XX X d 248 (0, [l0, l1, some (.null), l3], st, M) Q = XX X d 248 (1, [l0, l1, some (.null), l3], .null :: st, M) Q := H_ld rfl rfl rfl rfl rfl
theorem x248_1 : XX X d 248 (1, L, st, M) Q = XX X d 248 (2, L, .int (ii 0) :: st, M) Q := G_cst rfl rfl rfl rfl rfl
theorem x248_2 : XX X d 248 (2, [some (.ref a), l1, l2, l3], st, M) Q = XX X d 248 (3, [some (.ref a), l1, l2, l3], .ref a :: st, M) Q := H_ld rfl rfl rfl rfl rfl
theorem x248_2n : XX X d 248 (2, [some (.null), l1, l2, l3], st, M) Q = XX X d 248 (3, [some (.null), l1, l2, l3], .null :: st, M) Q := H_ld rfl rfl rfl rfl rfl
theorem x248_3 : XX X d 248 (3, [l0, some (.int x), l2, l3], st, M) Q = XX X d 248 (4, [l0, some (.int x), l2, l3], .int x :: st, M) Q := H_ld rfl rfl rfl rfl rfl
theorem x248_4 {v1 : Value} (hd : 0 < d) (hs : stB st = true) : XX X d 248 (4, L, v1 :: .ref a :: st, M) Q = (mcl M a = some 8 ∧ CC X (d - 1) 97 [.ref a, v1] M (XC X d 248 4 7 L st Q)) := H_virt [v1] rfl (by decide) rfl rfl rfl rfl rfl hd hs
theorem x248_7 : XX X d 248 (7, L, .int x :: st, M) Q = XX X d 248 (8, L, .long x.toInt64 :: st, M) Q := G_sop rfl ⟨rfl, rfl, rfl, by decide⟩ rfl rfl
theorem x248_8 : XX X d 248 (8, L, v :: .int x :: .ref a :: st, M) Q = yw (M.2.2 a) a .lastore v x X d 248 9 L st M Q := G_ast rfl ⟨⟨rfl, rfl, rfl, by decide⟩, rfl, rfl⟩ rfl rfl rfl
theorem x248_9 : XX X d 248 (9, L, st, M) Q = XX X d 248 (15, L, st, M) Q := H_jmp rfl (by decide) rfl
theorem x248_12 (h : wide (some l2) = false) : XX X d 248 (12, [l0, l1, l2, l3], .ref a :: st, M) Q = XX X d 248 (13, [l0, l1, l2, some (.ref a)], st, M) Q := H_st rfl rfl rfl rfl rfl rfl rfl rfl (Or.inr h)
theorem x248_12n (h : wide (some l2) = false) : XX X d 248 (12, [l0, l1, l2, l3], .null :: st, M) Q = XX X d 248 (13, [l0, l1, l2, some (.null)], st, M) Q := H_st rfl rfl rfl rfl rfl rfl rfl rfl (Or.inr h)
theorem x248_13 : XX X d 248 (13, L, st, M) Q = XX X d 248 (14, L, .int (ii 1) :: st, M) Q := G_cst rfl rfl rfl rfl rfl
theorem x248_14 : XX X d 248 (14, L, [.int (ii p)], M) Q = Q (.inl (some (.int (ii p)))) M := G_ret rfl ⟨⟨⟨rfl, rfl, rfl, by decide⟩, rfl, rfl⟩, rfl, rfl⟩ rfl
theorem x248_15 : XX X d 248 (15, L, st, M) Q = XX X d 248 (16, L, .int (ii 0) :: st, M) Q := G_cst rfl rfl rfl rfl rfl
theorem x248_16 : XX X d 248 (16, L, [.int (ii p)], M) Q = Q (.inl (some (.int (ii p)))) M := G_ret rfl ⟨⟨⟨rfl, rfl, rfl, by decide⟩, rfl, rfl⟩, rfl, rfl⟩ rfl
theorem e248 : CC X d 248 [.ref a1, .int x, .ref a2] M Q = XX X d 248 (0, [some (.ref a1), some (.int x), some (.ref a2), none], [], M) Q := H_ent rfl rfl
-- 249 L_matchesAll (LRegexTracer;I[J)I
theorem x249_0 : XX X d 249 (0, [l0, l1, some (.ref a), l3], st, M) Q = XX X d 249 (1, [l0, l1, some (.ref a), l3], .ref a :: st, M) Q := H_ld rfl rfl rfl rfl rfl
theorem x249_0n : XX X d 249 (0, [l0, l1, some (.null), l3], st, M) Q = XX X d 249 (1, [l0, l1, some (.null), l3], .null :: st, M) Q := H_ld rfl rfl rfl rfl rfl
theorem x249_1 : XX X d 249 (1, L, st, M) Q = XX X d 249 (2, L, .int (ii 0) :: st, M) Q := G_cst rfl rfl rfl rfl rfl
theorem x249_2 : XX X d 249 (2, [some (.ref a), l1, l2, l3], st, M) Q = XX X d 249 (3, [some (.ref a), l1, l2, l3], .ref a :: st, M) Q := H_ld rfl rfl rfl rfl rfl
theorem x249_2n : XX X d 249 (2, [some (.null), l1, l2, l3], st, M) Q = XX X d 249 (3, [some (.null), l1, l2, l3], .null :: st, M) Q := H_ld rfl rfl rfl rfl rfl
theorem x249_3 : XX X d 249 (3, [l0, some (.int x), l2, l3], st, M) Q = XX X d 249 (4, [l0, some (.int x), l2, l3], .int x :: st, M) Q := H_ld rfl rfl rfl rfl rfl
theorem x249_4 {v1 : Value} (hd : 0 < d) (hs : stB st = true) : XX X d 249 (4, L, v1 :: .ref a :: st, M) Q = (mcl M a = some 8 ∧ CC X (d - 1) 98 [.ref a, v1] M (XC X d 249 4 7 L st Q)) := H_virt [v1] rfl (by decide) rfl rfl rfl rfl rfl hd hs
theorem x249_7 (h : -2147483648 ≤ p ∧ p ≤ 2147483647) : XX X d 249 (7, L, .int (ii p) :: st, M) Q = bq (p = 0) X d 249 14 10 L st M Q := H_if rfl ⟨rfl, rfl, rfl, by decide⟩ rfl rfl rfl rfl (D_eq (b := 0) (by omega))
theorem x249_7b : XX X d 249 (7, L, .int (ii (b2i b)) :: st, M) Q = bq (b = false) X d 249 14 10 L st M Q := (x249_7 (b2i_r b)).trans (by rw [b2i_0])
theorem x249_10 : XX X d 249 (10, L, st, M) Q = XX X d 249 (11, L, .long (Int64.ofInt 1) :: st, M) Q := G_cst rfl rfl rfl rfl rfl
theorem x249_11 : XX X d 249 (11, L, st, M) Q = XX X d 249 (15, L, st, M) Q := H_jmp rfl (by decide) rfl
theorem x249_14 : XX X d 249 (14, L, st, M) Q = XX X d 249 (15, L, .long (Int64.ofInt 0) :: st, M) Q := G_cst rfl rfl rfl rfl rfl
theorem x249_15 : XX X d 249 (15, L, v :: .int x :: .ref a :: st, M) Q = yw (M.2.2 a) a .lastore v x X d 249 16 L st M Q := G_ast rfl ⟨⟨rfl, rfl, rfl, by decide⟩, rfl, rfl⟩ rfl rfl rfl
theorem x249_16 : XX X d 249 (16, L, st, M) Q = XX X d 249 (22, L, st, M) Q := H_jmp rfl (by decide) rfl
theorem x249_19 (h : wide (some l2) = false) : XX X d 249 (19, [l0, l1, l2, l3], .ref a :: st, M) Q = XX X d 249 (20, [l0, l1, l2, some (.ref a)], st, M) Q := H_st rfl rfl rfl rfl rfl rfl rfl rfl (Or.inr h)
theorem x249_19n (h : wide (some l2) = false) : XX X d 249 (19, [l0, l1, l2, l3], .null :: st, M) Q = XX X d 249 (20, [l0, l1, l2, some (.null)], st, M) Q := H_st rfl rfl rfl rfl rfl rfl rfl rfl (Or.inr h)
theorem x249_20 : XX X d 249 (20, L, st, M) Q = XX X d 249 (21, L, .int (ii 1) :: st, M) Q := G_cst rfl rfl rfl rfl rfl
theorem x249_21 : XX X d 249 (21, L, [.int (ii p)], M) Q = Q (.inl (some (.int (ii p)))) M := G_ret rfl ⟨⟨⟨rfl, rfl, rfl, by decide⟩, rfl, rfl⟩, rfl, rfl⟩ rfl
theorem x249_22 : XX X d 249 (22, L, st, M) Q = XX X d 249 (23, L, .int (ii 0) :: st, M) Q := G_cst rfl rfl rfl rfl rfl
theorem x249_23 : XX X d 249 (23, L, [.int (ii p)], M) Q = Q (.inl (some (.int (ii p)))) M := G_ret rfl ⟨⟨⟨rfl, rfl, rfl, by decide⟩, rfl, rfl⟩, rfl, rfl⟩ rfl
theorem e249 : CC X d 249 [.ref a1, .int x, .ref a2] M Q = XX X d 249 (0, [some (.ref a1), some (.int x), some (.ref a2), none], [], M) Q := H_ent rfl rfl
-- 250 L_matchesAllByThreads (LRegexTracer;I[J)I
theorem x250_0 : XX X d 250 (0, [l0, l1, some (.ref a), l3], st, M) Q = XX X d 250 (1, [l0, l1, some (.ref a), l3], .ref a :: st, M) Q := H_ld rfl rfl rfl rfl rfl
theorem x250_0n : XX X d 250 (0, [l0, l1, some (.null), l3], st, M) Q = XX X d 250 (1, [l0, l1, some (.null), l3], .null :: st, M) Q := H_ld rfl rfl rfl rfl rfl
theorem x250_1 : XX X d 250 (1, L, st, M) Q = XX X d 250 (2, L, .int (ii 0) :: st, M) Q := G_cst rfl rfl rfl rfl rfl
theorem x250_2 : XX X d 250 (2, [some (.ref a), l1, l2, l3], st, M) Q = XX X d 250 (3, [some (.ref a), l1, l2, l3], .ref a :: st, M) Q := H_ld rfl rfl rfl rfl rfl
theorem x250_2n : XX X d 250 (2, [some (.null), l1, l2, l3], st, M) Q = XX X d 250 (3, [some (.null), l1, l2, l3], .null :: st, M) Q := H_ld rfl rfl rfl rfl rfl
theorem x250_3 : XX X d 250 (3, [l0, some (.int x), l2, l3], st, M) Q = XX X d 250 (4, [l0, some (.int x), l2, l3], .int x :: st, M) Q := H_ld rfl rfl rfl rfl rfl
theorem x250_4 {v1 : Value} (hd : 0 < d) (hs : stB st = true) : XX X d 250 (4, L, v1 :: .ref a :: st, M) Q = (mcl M a = some 8 ∧ CC X (d - 1) 99 [.ref a, v1] M (XC X d 250 4 7 L st Q)) := H_virt [v1] rfl (by decide) rfl rfl rfl rfl rfl hd hs
theorem x250_7 (h : -2147483648 ≤ p ∧ p ≤ 2147483647) : XX X d 250 (7, L, .int (ii p) :: st, M) Q = bq (p = 0) X d 250 14 10 L st M Q := H_if rfl ⟨rfl, rfl, rfl, by decide⟩ rfl rfl rfl rfl (D_eq (b := 0) (by omega))
theorem x250_7b : XX X d 250 (7, L, .int (ii (b2i b)) :: st, M) Q = bq (b = false) X d 250 14 10 L st M Q := (x250_7 (b2i_r b)).trans (by rw [b2i_0])
theorem x250_10 : XX X d 250 (10, L, st, M) Q = XX X d 250 (11, L, .long (Int64.ofInt 1) :: st, M) Q := G_cst rfl rfl rfl rfl rfl
theorem x250_11 : XX X d 250 (11, L, st, M) Q = XX X d 250 (15, L, st, M) Q := H_jmp rfl (by decide) rfl
theorem x250_14 : XX X d 250 (14, L, st, M) Q = XX X d 250 (15, L, .long (Int64.ofInt 0) :: st, M) Q := G_cst rfl rfl rfl rfl rfl
theorem x250_15 : XX X d 250 (15, L, v :: .int x :: .ref a :: st, M) Q = yw (M.2.2 a) a .lastore v x X d 250 16 L st M Q := G_ast rfl ⟨⟨rfl, rfl, rfl, by decide⟩, rfl, rfl⟩ rfl rfl rfl
theorem x250_16 : XX X d 250 (16, L, st, M) Q = XX X d 250 (22, L, st, M) Q := H_jmp rfl (by decide) rfl
theorem x250_19 (h : wide (some l2) = false) : XX X d 250 (19, [l0, l1, l2, l3], .ref a :: st, M) Q = XX X d 250 (20, [l0, l1, l2, some (.ref a)], st, M) Q := H_st rfl rfl rfl rfl rfl rfl rfl rfl (Or.inr h)
theorem x250_19n (h : wide (some l2) = false) : XX X d 250 (19, [l0, l1, l2, l3], .null :: st, M) Q = XX X d 250 (20, [l0, l1, l2, some (.null)], st, M) Q := H_st rfl rfl rfl rfl rfl rfl rfl rfl (Or.inr h)
theorem x250_20 : XX X d 250 (20, L, st, M) Q = XX X d 250 (21, L, .int (ii 1) :: st, M) Q := G_cst rfl rfl rfl rfl rfl
theorem x250_21 : XX X d 250 (21, L, [.int (ii p)], M) Q = Q (.inl (some (.int (ii p)))) M := G_ret rfl ⟨⟨⟨rfl, rfl, rfl, by decide⟩, rfl, rfl⟩, rfl, rfl⟩ rfl
theorem x250_22 : XX X d 250 (22, L, st, M) Q = XX X d 250 (23, L, .int (ii 0) :: st, M) Q := G_cst rfl rfl rfl rfl rfl
theorem x250_23 : XX X d 250 (23, L, [.int (ii p)], M) Q = Q (.inl (some (.int (ii p)))) M := G_ret rfl ⟨⟨⟨rfl, rfl, rfl, by decide⟩, rfl, rfl⟩, rfl, rfl⟩ rfl
theorem e250 : CC X d 250 [.ref a1, .int x, .ref a2] M Q = XX X d 250 (0, [some (.ref a1), some (.int x), some (.ref a2), none], [], M) Q := H_ent rfl rfl
-- 251 L_find (LRegexTracer;II[J)I
theorem x251_0 : XX X d 251 (0, [l0, l1, l2, some (.ref a), l4], st, M) Q = XX X d 251 (1, [l0, l1, l2, some (.ref a), l4], .ref a :: st, M) Q := H_ld rfl rfl rfl rfl rfl
theorem x251_0n : XX X d 251 (0, [l0, l1, l2, some (.null), l4], st, M) Q = XX X d 251 (1, [l0, l1, l2, some (.null), l4], .null :: st, M) Q := H_ld rfl rfl rfl rfl rfl
theorem x251_1 : XX X d 251 (1, L, st, M) Q = XX X d 251 (2, L, .int (ii 0) :: st, M) Q := G_cst rfl rfl rfl rfl rfl
theorem x251_2 : XX X d 251 (2, [some (.ref a), l1, l2, l3, l4], st, M) Q = XX X d 251 (3, [some (.ref a), l1, l2, l3, l4], .ref a :: st, M) Q := H_ld rfl rfl rfl rfl rfl
theorem x251_2n : XX X d 251 (2, [some (.null), l1, l2, l3, l4], st, M) Q = XX X d 251 (3, [some (.null), l1, l2, l3, l4], .null :: st, M) Q := H_ld rfl rfl rfl rfl rfl
theorem x251_3 : XX X d 251 (3, [l0, some (.int x), l2, l3, l4], st, M) Q = XX X d 251 (4, [l0, some (.int x), l2, l3, l4], .int x :: st, M) Q := H_ld rfl rfl rfl rfl rfl
theorem x251_4 : XX X d 251 (4, [l0, l1, some (.int x), l3, l4], st, M) Q = XX X d 251 (5, [l0, l1, some (.int x), l3, l4], .int x :: st, M) Q := H_ld rfl rfl rfl rfl rfl
theorem x251_5 {v1 v2 : Value} (hd : 0 < d) (hs : stB st = true) : XX X d 251 (5, L, v2 :: v1 :: .ref a :: st, M) Q = (mcl M a = some 8 ∧ CC X (d - 1) 100 [.ref a, v1, v2] M (XC X d 251 5 8 L st Q)) := H_virt [v1, v2] rfl (by decide) rfl rfl rfl rfl rfl hd hs
theorem x251_8 : XX X d 251 (8, L, .int x :: st, M) Q = XX X d 251 (9, L, .long x.toInt64 :: st, M) Q := G_sop rfl ⟨rfl, rfl, rfl, by decide⟩ rfl rfl
theorem x251_9 : XX X d 251 (9, L, v :: .int x :: .ref a :: st, M) Q = yw (M.2.2 a) a .lastore v x X d 251 10 L st M Q := G_ast rfl ⟨⟨rfl, rfl, rfl, by decide⟩, rfl, rfl⟩ rfl rfl rfl
theorem x251_10 : XX X d 251 (10, L, st, M) Q = XX X d 251 (21, L, st, M) Q := H_jmp rfl (by decide) rfl
theorem x251_13 (h : wide (some l3) = false) : XX X d 251 (13, [l0, l1, l2, l3, l4], .ref a :: st, M) Q = XX X d 251 (15, [l0, l1, l2, l3, some (.ref a)], st, M) Q := H_st rfl rfl rfl rfl rfl rfl rfl rfl (Or.inr h)
theorem x251_13n (h : wide (some l3) = false) : XX X d 251 (13, [l0, l1, l2, l3, l4], .null :: st, M) Q = XX X d 251 (15, [l0, l1, l2, l3, some (.null)], st, M) Q := H_st rfl rfl rfl rfl rfl rfl rfl rfl (Or.inr h)
theorem x251_15 : XX X d 251 (15, L, st, M) Q = XX X d 251 (16, L, .int (ii 1) :: st, M) Q := G_cst rfl rfl rfl rfl rfl
theorem x251_16 : XX X d 251 (16, L, [.int (ii p)], M) Q = Q (.inl (some (.int (ii p)))) M := G_ret rfl ⟨⟨⟨rfl, rfl, rfl, by decide⟩, rfl, rfl⟩, rfl, rfl⟩ rfl
theorem x251_17 (h : wide (some l3) = false) : XX X d 251 (17, [l0, l1, l2, l3, l4], .ref a :: st, M) Q = XX X d 251 (19, [l0, l1, l2, l3, some (.ref a)], st, M) Q := H_st rfl rfl rfl rfl rfl rfl rfl rfl (Or.inr h)
theorem x251_17n (h : wide (some l3) = false) : XX X d 251 (17, [l0, l1, l2, l3, l4], .null :: st, M) Q = XX X d 251 (19, [l0, l1, l2, l3, some (.null)], st, M) Q := H_st rfl rfl rfl rfl rfl rfl rfl rfl (Or.inr h)
theorem x251_19 : XX X d 251 (19, L, st, M) Q = XX X d 251 (20, L, .int (ii 2) :: st, M) Q := G_cst rfl rfl rfl rfl rfl
theorem x251_20 : XX X d 251 (20, L, [.int (ii p)], M) Q = Q (.inl (some (.int (ii p)))) M := G_ret rfl ⟨⟨⟨rfl, rfl, rfl, by decide⟩, rfl, rfl⟩, rfl, rfl⟩ rfl
theorem x251_21 : XX X d 251 (21, L, st, M) Q = XX X d 251 (22, L, .int (ii 0) :: st, M) Q := G_cst rfl rfl rfl rfl rfl
theorem x251_22 : XX X d 251 (22, L, [.int (ii p)], M) Q = Q (.inl (some (.int (ii p)))) M := G_ret rfl ⟨⟨⟨rfl, rfl, rfl, by decide⟩, rfl, rfl⟩, rfl, rfl⟩ rfl
theorem e251 : CC X d 251 [.ref a1, .int x, .int x2, .ref a2] M Q = XX X d 251 (0, [some (.ref a1), some (.int x), some (.int x2), some (.ref a2), none], [], M) Q := H_ent rfl rfl
-- 252 L_findEnd (LRegexTracer;II[J)I
theorem x252_0 : XX X d 252 (0, [l0, l1, l2, some (.ref a), l4], st, M) Q = XX X d 252 (1, [l0, l1, l2, some (.ref a), l4], .ref a :: st, M) Q := H_ld rfl rfl rfl rfl rfl
theorem x252_0n : XX X d 252 (0, [l0, l1, l2, some (.null), l4], st, M) Q = XX X d 252 (1, [l0, l1, l2, some (.null), l4], .null :: st, M) Q := H_ld rfl rfl rfl rfl rfl
theorem x252_1 : XX X d 252 (1, L, st, M) Q = XX X d 252 (2, L, .int (ii 0) :: st, M) Q := G_cst rfl rfl rfl rfl rfl
theorem x252_2 : XX X d 252 (2, [some (.ref a), l1, l2, l3, l4], st, M) Q = XX X d 252 (3, [some (.ref a), l1, l2, l3, l4], .ref a :: st, M) Q := H_ld rfl rfl rfl rfl rfl
theorem x252_2n : XX X d 252 (2, [some (.null), l1, l2, l3, l4], st, M) Q = XX X d 252 (3, [some (.null), l1, l2, l3, l4], .null :: st, M) Q := H_ld rfl rfl rfl rfl rfl
theorem x252_3 : XX X d 252 (3, [l0, some (.int x), l2, l3, l4], st, M) Q = XX X d 252 (4, [l0, some (.int x), l2, l3, l4], .int x :: st, M) Q := H_ld rfl rfl rfl rfl rfl
theorem x252_4 : XX X d 252 (4, [l0, l1, some (.int x), l3, l4], st, M) Q = XX X d 252 (5, [l0, l1, some (.int x), l3, l4], .int x :: st, M) Q := H_ld rfl rfl rfl rfl rfl
theorem x252_5 {v1 v2 : Value} (hd : 0 < d) (hs : stB st = true) : XX X d 252 (5, L, v2 :: v1 :: .ref a :: st, M) Q = (mcl M a = some 8 ∧ CC X (d - 1) 101 [.ref a, v1, v2] M (XC X d 252 5 8 L st Q)) := H_virt [v1, v2] rfl (by decide) rfl rfl rfl rfl rfl hd hs
theorem x252_8 : XX X d 252 (8, L, .int x :: st, M) Q = XX X d 252 (9, L, .long x.toInt64 :: st, M) Q := G_sop rfl ⟨rfl, rfl, rfl, by decide⟩ rfl rfl
theorem x252_9 : XX X d 252 (9, L, v :: .int x :: .ref a :: st, M) Q = yw (M.2.2 a) a .lastore v x X d 252 10 L st M Q := G_ast rfl ⟨⟨rfl, rfl, rfl, by decide⟩, rfl, rfl⟩ rfl rfl rfl
theorem x252_10 : XX X d 252 (10, L, st, M) Q = XX X d 252 (21, L, st, M) Q := H_jmp rfl (by decide) rfl
theorem x252_13 (h : wide (some l3) = false) : XX X d 252 (13, [l0, l1, l2, l3, l4], .ref a :: st, M) Q = XX X d 252 (15, [l0, l1, l2, l3, some (.ref a)], st, M) Q := H_st rfl rfl rfl rfl rfl rfl rfl rfl (Or.inr h)
theorem x252_13n (h : wide (some l3) = false) : XX X d 252 (13, [l0, l1, l2, l3, l4], .null :: st, M) Q = XX X d 252 (15, [l0, l1, l2, l3, some (.null)], st, M) Q := H_st rfl rfl rfl rfl rfl rfl rfl rfl (Or.inr h)
theorem x252_15 : XX X d 252 (15, L, st, M) Q = XX X d 252 (16, L, .int (ii 1) :: st, M) Q := G_cst rfl rfl rfl rfl rfl
theorem x252_16 : XX X d 252 (16, L, [.int (ii p)], M) Q = Q (.inl (some (.int (ii p)))) M := G_ret rfl ⟨⟨⟨rfl, rfl, rfl, by decide⟩, rfl, rfl⟩, rfl, rfl⟩ rfl
theorem x252_17 (h : wide (some l3) = false) : XX X d 252 (17, [l0, l1, l2, l3, l4], .ref a :: st, M) Q = XX X d 252 (19, [l0, l1, l2, l3, some (.ref a)], st, M) Q := H_st rfl rfl rfl rfl rfl rfl rfl rfl (Or.inr h)
theorem x252_17n (h : wide (some l3) = false) : XX X d 252 (17, [l0, l1, l2, l3, l4], .null :: st, M) Q = XX X d 252 (19, [l0, l1, l2, l3, some (.null)], st, M) Q := H_st rfl rfl rfl rfl rfl rfl rfl rfl (Or.inr h)
theorem x252_19 : XX X d 252 (19, L, st, M) Q = XX X d 252 (20, L, .int (ii 2) :: st, M) Q := G_cst rfl rfl rfl rfl rfl
theorem x252_20 : XX X d 252 (20, L, [.int (ii p)], M) Q = Q (.inl (some (.int (ii p)))) M := G_ret rfl ⟨⟨⟨rfl, rfl, rfl, by decide⟩, rfl, rfl⟩, rfl, rfl⟩ rfl
theorem x252_21 : XX X d 252 (21, L, st, M) Q = XX X d 252 (22, L, .int (ii 0) :: st, M) Q := G_cst rfl rfl rfl rfl rfl
theorem x252_22 : XX X d 252 (22, L, [.int (ii p)], M) Q = Q (.inl (some (.int (ii p)))) M := G_ret rfl ⟨⟨⟨rfl, rfl, rfl, by decide⟩, rfl, rfl⟩, rfl, rfl⟩ rfl
theorem e252 : CC X d 252 [.ref a1, .int x, .int x2, .ref a2] M Q = XX X d 252 (0, [some (.ref a1), some (.int x), some (.int x2), some (.ref a2), none], [], M) Q := H_ent rfl rfl
-- 253 L_findByThreads (LRegexTracer;II[J)I
theorem x253_0 : XX X d 253 (0, [l0, l1, l2, some (.ref a), l4], st, M) Q = XX X d 253 (1, [l0, l1, l2, some (.ref a), l4], .ref a :: st, M) Q := H_ld rfl rfl rfl rfl rfl
theorem x253_0n : XX X d 253 (0, [l0, l1, l2, some (.null), l4], st, M) Q = XX X d 253 (1, [l0, l1, l2, some (.null), l4], .null :: st, M) Q := H_ld rfl rfl rfl rfl rfl
theorem x253_1 : XX X d 253 (1, L, st, M) Q = XX X d 253 (2, L, .int (ii 0) :: st, M) Q := G_cst rfl rfl rfl rfl rfl
theorem x253_2 : XX X d 253 (2, [some (.ref a), l1, l2, l3, l4], st, M) Q = XX X d 253 (3, [some (.ref a), l1, l2, l3, l4], .ref a :: st, M) Q := H_ld rfl rfl rfl rfl rfl
theorem x253_2n : XX X d 253 (2, [some (.null), l1, l2, l3, l4], st, M) Q = XX X d 253 (3, [some (.null), l1, l2, l3, l4], .null :: st, M) Q := H_ld rfl rfl rfl rfl rfl
theorem x253_3 : XX X d 253 (3, [l0, some (.int x), l2, l3, l4], st, M) Q = XX X d 253 (4, [l0, some (.int x), l2, l3, l4], .int x :: st, M) Q := H_ld rfl rfl rfl rfl rfl
theorem x253_4 : XX X d 253 (4, [l0, l1, some (.int x), l3, l4], st, M) Q = XX X d 253 (5, [l0, l1, some (.int x), l3, l4], .int x :: st, M) Q := H_ld rfl rfl rfl rfl rfl
theorem x253_5 {v1 v2 : Value} (hd : 0 < d) (hs : stB st = true) : XX X d 253 (5, L, v2 :: v1 :: .ref a :: st, M) Q = (mcl M a = some 8 ∧ CC X (d - 1) 102 [.ref a, v1, v2] M (XC X d 253 5 8 L st Q)) := H_virt [v1, v2] rfl (by decide) rfl rfl rfl rfl rfl hd hs
theorem x253_8 : XX X d 253 (8, L, .int x :: st, M) Q = XX X d 253 (9, L, .long x.toInt64 :: st, M) Q := G_sop rfl ⟨rfl, rfl, rfl, by decide⟩ rfl rfl
theorem x253_9 : XX X d 253 (9, L, v :: .int x :: .ref a :: st, M) Q = yw (M.2.2 a) a .lastore v x X d 253 10 L st M Q := G_ast rfl ⟨⟨rfl, rfl, rfl, by decide⟩, rfl, rfl⟩ rfl rfl rfl
theorem x253_10 : XX X d 253 (10, L, st, M) Q = XX X d 253 (21, L, st, M) Q := H_jmp rfl (by decide) rfl
theorem x253_13 (h : wide (some l3) = false) : XX X d 253 (13, [l0, l1, l2, l3, l4], .ref a :: st, M) Q = XX X d 253 (15, [l0, l1, l2, l3, some (.ref a)], st, M) Q := H_st rfl rfl rfl rfl rfl rfl rfl rfl (Or.inr h)
theorem x253_13n (h : wide (some l3) = false) : XX X d 253 (13, [l0, l1, l2, l3, l4], .null :: st, M) Q = XX X d 253 (15, [l0, l1, l2, l3, some (.null)], st, M) Q := H_st rfl rfl rfl rfl rfl rfl rfl rfl (Or.inr h)
theorem x253_15 : XX X d 253 (15, L, st, M) Q = XX X d 253 (16, L, .int (ii 1) :: st, M) Q := G_cst rfl rfl rfl rfl rfl
theorem x253_16 : XX X d 253 (16, L, [.int (ii p)], M) Q = Q (.inl (some (.int (ii p)))) M := G_ret rfl ⟨⟨⟨rfl, rfl, rfl, by decide⟩, rfl, rfl⟩, rfl, rfl⟩ rfl
theorem x253_17 (h : wide (some l3) = false) : XX X d 253 (17, [l0, l1, l2, l3, l4], .ref a :: st, M) Q = XX X d 253 (19, [l0, l1, l2, l3, some (.ref a)], st, M) Q := H_st rfl rfl rfl rfl rfl rfl rfl rfl (Or.inr h)
theorem x253_17n (h : wide (some l3) = false) : XX X d 253 (17, [l0, l1, l2, l3, l4], .null :: st, M) Q = XX X d 253 (19, [l0, l1, l2, l3, some (.null)], st, M) Q := H_st rfl rfl rfl rfl rfl rfl rfl rfl (Or.inr h)
theorem x253_19 : XX X d 253 (19, L, st, M) Q = XX X d 253 (20, L, .int (ii 2) :: st, M) Q := G_cst rfl rfl rfl rfl rfl
theorem x253_20 : XX X d 253 (20, L, [.int (ii p)], M) Q = Q (.inl (some (.int (ii p)))) M := G_ret rfl ⟨⟨⟨rfl, rfl, rfl, by decide⟩, rfl, rfl⟩, rfl, rfl⟩ rfl
theorem x253_21 : XX X d 253 (21, L, st, M) Q = XX X d 253 (22, L, .int (ii 0) :: st, M) Q := G_cst rfl rfl rfl rfl rfl
theorem x253_22 : XX X d 253 (22, L, [.int (ii p)], M) Q = Q (.inl (some (.int (ii p)))) M := G_ret rfl ⟨⟨⟨rfl, rfl, rfl, by decide⟩, rfl, rfl⟩, rfl, rfl⟩ rfl
theorem e253 : CC X d 253 [.ref a1, .int x, .int x2, .ref a2] M Q = XX X d 253 (0, [some (.ref a1), some (.int x), some (.int x2), some (.ref a2), none], [], M) Q := H_ent rfl rfl
-- 254 L_findEndByThreads (LRegexTracer;II[J)I
theorem x254_0 : XX X d 254 (0, [l0, l1, l2, some (.ref a), l4], st, M) Q = XX X d 254 (1, [l0, l1, l2, some (.ref a), l4], .ref a :: st, M) Q := H_ld rfl rfl rfl rfl rfl
theorem x254_0n : XX X d 254 (0, [l0, l1, l2, some (.null), l4], st, M) Q = XX X d 254 (1, [l0, l1, l2, some (.null), l4], .null :: st, M) Q := H_ld rfl rfl rfl rfl rfl
theorem x254_1 : XX X d 254 (1, L, st, M) Q = XX X d 254 (2, L, .int (ii 0) :: st, M) Q := G_cst rfl rfl rfl rfl rfl
theorem x254_2 : XX X d 254 (2, [some (.ref a), l1, l2, l3, l4], st, M) Q = XX X d 254 (3, [some (.ref a), l1, l2, l3, l4], .ref a :: st, M) Q := H_ld rfl rfl rfl rfl rfl
theorem x254_2n : XX X d 254 (2, [some (.null), l1, l2, l3, l4], st, M) Q = XX X d 254 (3, [some (.null), l1, l2, l3, l4], .null :: st, M) Q := H_ld rfl rfl rfl rfl rfl
theorem x254_3 : XX X d 254 (3, [l0, some (.int x), l2, l3, l4], st, M) Q = XX X d 254 (4, [l0, some (.int x), l2, l3, l4], .int x :: st, M) Q := H_ld rfl rfl rfl rfl rfl
theorem x254_4 : XX X d 254 (4, [l0, l1, some (.int x), l3, l4], st, M) Q = XX X d 254 (5, [l0, l1, some (.int x), l3, l4], .int x :: st, M) Q := H_ld rfl rfl rfl rfl rfl
theorem x254_5 {v1 v2 : Value} (hd : 0 < d) (hs : stB st = true) : XX X d 254 (5, L, v2 :: v1 :: .ref a :: st, M) Q = (mcl M a = some 8 ∧ CC X (d - 1) 103 [.ref a, v1, v2] M (XC X d 254 5 8 L st Q)) := H_virt [v1, v2] rfl (by decide) rfl rfl rfl rfl rfl hd hs
theorem x254_8 : XX X d 254 (8, L, .int x :: st, M) Q = XX X d 254 (9, L, .long x.toInt64 :: st, M) Q := G_sop rfl ⟨rfl, rfl, rfl, by decide⟩ rfl rfl
theorem x254_9 : XX X d 254 (9, L, v :: .int x :: .ref a :: st, M) Q = yw (M.2.2 a) a .lastore v x X d 254 10 L st M Q := G_ast rfl ⟨⟨rfl, rfl, rfl, by decide⟩, rfl, rfl⟩ rfl rfl rfl
theorem x254_10 : XX X d 254 (10, L, st, M) Q = XX X d 254 (21, L, st, M) Q := H_jmp rfl (by decide) rfl
theorem x254_13 (h : wide (some l3) = false) : XX X d 254 (13, [l0, l1, l2, l3, l4], .ref a :: st, M) Q = XX X d 254 (15, [l0, l1, l2, l3, some (.ref a)], st, M) Q := H_st rfl rfl rfl rfl rfl rfl rfl rfl (Or.inr h)
theorem x254_13n (h : wide (some l3) = false) : XX X d 254 (13, [l0, l1, l2, l3, l4], .null :: st, M) Q = XX X d 254 (15, [l0, l1, l2, l3, some (.null)], st, M) Q := H_st rfl rfl rfl rfl rfl rfl rfl rfl (Or.inr h)
theorem x254_15 : XX X d 254 (15, L, st, M) Q = XX X d 254 (16, L, .int (ii 1) :: st, M) Q := G_cst rfl rfl rfl rfl rfl
theorem x254_16 : XX X d 254 (16, L, [.int (ii p)], M) Q = Q (.inl (some (.int (ii p)))) M := G_ret rfl ⟨⟨⟨rfl, rfl, rfl, by decide⟩, rfl, rfl⟩, rfl, rfl⟩ rfl
theorem x254_17 (h : wide (some l3) = false) : XX X d 254 (17, [l0, l1, l2, l3, l4], .ref a :: st, M) Q = XX X d 254 (19, [l0, l1, l2, l3, some (.ref a)], st, M) Q := H_st rfl rfl rfl rfl rfl rfl rfl rfl (Or.inr h)
theorem x254_17n (h : wide (some l3) = false) : XX X d 254 (17, [l0, l1, l2, l3, l4], .null :: st, M) Q = XX X d 254 (19, [l0, l1, l2, l3, some (.null)], st, M) Q := H_st rfl rfl rfl rfl rfl rfl rfl rfl (Or.inr h)
theorem x254_19 : XX X d 254 (19, L, st, M) Q = XX X d 254 (20, L, .int (ii 2) :: st, M) Q := G_cst rfl rfl rfl rfl rfl
theorem x254_20 : XX X d 254 (20, L, [.int (ii p)], M) Q = Q (.inl (some (.int (ii p)))) M := G_ret rfl ⟨⟨⟨rfl, rfl, rfl, by decide⟩, rfl, rfl⟩, rfl, rfl⟩ rfl
theorem x254_21 : XX X d 254 (21, L, st, M) Q = XX X d 254 (22, L, .int (ii 0) :: st, M) Q := G_cst rfl rfl rfl rfl rfl
theorem x254_22 : XX X d 254 (22, L, [.int (ii p)], M) Q = Q (.inl (some (.int (ii p)))) M := G_ret rfl ⟨⟨⟨rfl, rfl, rfl, by decide⟩, rfl, rfl⟩, rfl, rfl⟩ rfl
theorem e254 : CC X d 254 [.ref a1, .int x, .int x2, .ref a2] M Q = XX X d 254 (0, [some (.ref a1), some (.int x), some (.int x2), some (.ref a2), none], [], M) Q := H_ent rfl rfl
-- 255 L_isGroupSet (LRegexTracer;III[J)I
theorem x255_0 : XX X d 255 (0, [l0, l1, l2, l3, some (.ref a), l5], st, M) Q = XX X d 255 (2, [l0, l1, l2, l3, some (.ref a), l5], .ref a :: st, M) Q := H_ld rfl rfl rfl rfl rfl
theorem x255_0n : XX X d 255 (0, [l0, l1, l2, l3, some (.null), l5], st, M) Q = XX X d 255 (2, [l0, l1, l2, l3, some (.null), l5], .null :: st, M) Q := H_ld rfl rfl rfl rfl rfl
theorem x255_2 : XX X d 255 (2, L, st, M) Q = XX X d 255 (3, L, .int (ii 0) :: st, M) Q := G_cst rfl rfl rfl rfl rfl
theorem x255_3 : XX X d 255 (3, [some (.ref a), l1, l2, l3, l4, l5], st, M) Q = XX X d 255 (4, [some (.ref a), l1, l2, l3, l4, l5], .ref a :: st, M) Q := H_ld rfl rfl rfl rfl rfl
theorem x255_3n : XX X d 255 (3, [some (.null), l1, l2, l3, l4, l5], st, M) Q = XX X d 255 (4, [some (.null), l1, l2, l3, l4, l5], .null :: st, M) Q := H_ld rfl rfl rfl rfl rfl
theorem x255_4 : XX X d 255 (4, [l0, some (.int x), l2, l3, l4, l5], st, M) Q = XX X d 255 (5, [l0, some (.int x), l2, l3, l4, l5], .int x :: st, M) Q := H_ld rfl rfl rfl rfl rfl
theorem x255_5 : XX X d 255 (5, [l0, l1, some (.int x), l3, l4, l5], st, M) Q = XX X d 255 (6, [l0, l1, some (.int x), l3, l4, l5], .int x :: st, M) Q := H_ld rfl rfl rfl rfl rfl
theorem x255_6 : XX X d 255 (6, [l0, l1, l2, some (.int x), l4, l5], st, M) Q = XX X d 255 (7, [l0, l1, l2, some (.int x), l4, l5], .int x :: st, M) Q := H_ld rfl rfl rfl rfl rfl
theorem x255_7 {v1 v2 v3 : Value} (hd : 0 < d) (hs : stB st = true) : XX X d 255 (7, L, v3 :: v2 :: v1 :: .ref a :: st, M) Q = (mcl M a = some 8 ∧ CC X (d - 1) 104 [.ref a, v1, v2, v3] M (XC X d 255 7 10 L st Q)) := H_virt [v1, v2, v3] rfl (by decide) rfl rfl rfl rfl rfl hd hs
theorem x255_10 (h : -2147483648 ≤ p ∧ p ≤ 2147483647) : XX X d 255 (10, L, .int (ii p) :: st, M) Q = bq (p = 0) X d 255 17 13 L st M Q := H_if rfl ⟨rfl, rfl, rfl, by decide⟩ rfl rfl rfl rfl (D_eq (b := 0) (by omega))
theorem x255_10b : XX X d 255 (10, L, .int (ii (b2i b)) :: st, M) Q = bq (b = false) X d 255 17 13 L st M Q := (x255_10 (b2i_r b)).trans (by rw [b2i_0])
theorem x255_13 : XX X d 255 (13, L, st, M) Q = XX X d 255 (14, L, .long (Int64.ofInt 1) :: st, M) Q := G_cst rfl rfl rfl rfl rfl
theorem x255_14 : XX X d 255 (14, L, st, M) Q = XX X d 255 (18, L, st, M) Q := H_jmp rfl (by decide) rfl
theorem x255_17 : XX X d 255 (17, L, st, M) Q = XX X d 255 (18, L, .long (Int64.ofInt 0) :: st, M) Q := G_cst rfl rfl rfl rfl rfl
theorem x255_18 : XX X d 255 (18, L, v :: .int x :: .ref a :: st, M) Q = yw (M.2.2 a) a .lastore v x X d 255 19 L st M Q := G_ast rfl ⟨⟨rfl, rfl, rfl, by decide⟩, rfl, rfl⟩ rfl rfl rfl
theorem x255_19 : XX X d 255 (19, L, st, M) Q = XX X d 255 (30, L, st, M) Q := H_jmp rfl (by decide) rfl
theorem x255_22 (h : wide (some l4) = false) : XX X d 255 (22, [l0, l1, l2, l3, l4, l5], .ref a :: st, M) Q = XX X d 255 (24, [l0, l1, l2, l3, l4, some (.ref a)], st, M) Q := H_st rfl rfl rfl rfl rfl rfl rfl rfl (Or.inr h)
theorem x255_22n (h : wide (some l4) = false) : XX X d 255 (22, [l0, l1, l2, l3, l4, l5], .null :: st, M) Q = XX X d 255 (24, [l0, l1, l2, l3, l4, some (.null)], st, M) Q := H_st rfl rfl rfl rfl rfl rfl rfl rfl (Or.inr h)
theorem x255_24 : XX X d 255 (24, L, st, M) Q = XX X d 255 (25, L, .int (ii 1) :: st, M) Q := G_cst rfl rfl rfl rfl rfl
theorem x255_25 : XX X d 255 (25, L, [.int (ii p)], M) Q = Q (.inl (some (.int (ii p)))) M := G_ret rfl ⟨⟨⟨rfl, rfl, rfl, by decide⟩, rfl, rfl⟩, rfl, rfl⟩ rfl
theorem x255_26 (h : wide (some l4) = false) : XX X d 255 (26, [l0, l1, l2, l3, l4, l5], .ref a :: st, M) Q = XX X d 255 (28, [l0, l1, l2, l3, l4, some (.ref a)], st, M) Q := H_st rfl rfl rfl rfl rfl rfl rfl rfl (Or.inr h)
theorem x255_26n (h : wide (some l4) = false) : XX X d 255 (26, [l0, l1, l2, l3, l4, l5], .null :: st, M) Q = XX X d 255 (28, [l0, l1, l2, l3, l4, some (.null)], st, M) Q := H_st rfl rfl rfl rfl rfl rfl rfl rfl (Or.inr h)
theorem x255_28 : XX X d 255 (28, L, st, M) Q = XX X d 255 (29, L, .int (ii 2) :: st, M) Q := G_cst rfl rfl rfl rfl rfl
theorem x255_29 : XX X d 255 (29, L, [.int (ii p)], M) Q = Q (.inl (some (.int (ii p)))) M := G_ret rfl ⟨⟨⟨rfl, rfl, rfl, by decide⟩, rfl, rfl⟩, rfl, rfl⟩ rfl
theorem x255_30 : XX X d 255 (30, L, st, M) Q = XX X d 255 (31, L, .int (ii 0) :: st, M) Q := G_cst rfl rfl rfl rfl rfl
theorem x255_31 : XX X d 255 (31, L, [.int (ii p)], M) Q = Q (.inl (some (.int (ii p)))) M := G_ret rfl ⟨⟨⟨rfl, rfl, rfl, by decide⟩, rfl, rfl⟩, rfl, rfl⟩ rfl
theorem e255 : CC X d 255 [.ref a1, .int x, .int x2, .int x3, .ref a2] M Q = XX X d 255 (0, [some (.ref a1), some (.int x), some (.int x2), some (.int x3), some (.ref a2), none], [], M) Q := H_ent rfl rfl
-- 256 L_groupStart (LRegexTracer;III[J)I
theorem x256_0 : XX X d 256 (0, [l0, l1, l2, l3, some (.ref a), l5], st, M) Q = XX X d 256 (2, [l0, l1, l2, l3, some (.ref a), l5], .ref a :: st, M) Q := H_ld rfl rfl rfl rfl rfl
theorem x256_0n : XX X d 256 (0, [l0, l1, l2, l3, some (.null), l5], st, M) Q = XX X d 256 (2, [l0, l1, l2, l3, some (.null), l5], .null :: st, M) Q := H_ld rfl rfl rfl rfl rfl
theorem x256_2 : XX X d 256 (2, L, st, M) Q = XX X d 256 (3, L, .int (ii 0) :: st, M) Q := G_cst rfl rfl rfl rfl rfl
theorem x256_3 : XX X d 256 (3, [some (.ref a), l1, l2, l3, l4, l5], st, M) Q = XX X d 256 (4, [some (.ref a), l1, l2, l3, l4, l5], .ref a :: st, M) Q := H_ld rfl rfl rfl rfl rfl
theorem x256_3n : XX X d 256 (3, [some (.null), l1, l2, l3, l4, l5], st, M) Q = XX X d 256 (4, [some (.null), l1, l2, l3, l4, l5], .null :: st, M) Q := H_ld rfl rfl rfl rfl rfl
theorem x256_4 : XX X d 256 (4, [l0, some (.int x), l2, l3, l4, l5], st, M) Q = XX X d 256 (5, [l0, some (.int x), l2, l3, l4, l5], .int x :: st, M) Q := H_ld rfl rfl rfl rfl rfl
theorem x256_5 : XX X d 256 (5, [l0, l1, some (.int x), l3, l4, l5], st, M) Q = XX X d 256 (6, [l0, l1, some (.int x), l3, l4, l5], .int x :: st, M) Q := H_ld rfl rfl rfl rfl rfl
theorem x256_6 : XX X d 256 (6, [l0, l1, l2, some (.int x), l4, l5], st, M) Q = XX X d 256 (7, [l0, l1, l2, some (.int x), l4, l5], .int x :: st, M) Q := H_ld rfl rfl rfl rfl rfl
theorem x256_7 {v1 v2 v3 : Value} (hd : 0 < d) (hs : stB st = true) : XX X d 256 (7, L, v3 :: v2 :: v1 :: .ref a :: st, M) Q = (mcl M a = some 8 ∧ CC X (d - 1) 105 [.ref a, v1, v2, v3] M (XC X d 256 7 10 L st Q)) := H_virt [v1, v2, v3] rfl (by decide) rfl rfl rfl rfl rfl hd hs
theorem x256_10 : XX X d 256 (10, L, .int x :: st, M) Q = XX X d 256 (11, L, .long x.toInt64 :: st, M) Q := G_sop rfl ⟨rfl, rfl, rfl, by decide⟩ rfl rfl
theorem x256_11 : XX X d 256 (11, L, v :: .int x :: .ref a :: st, M) Q = yw (M.2.2 a) a .lastore v x X d 256 12 L st M Q := G_ast rfl ⟨⟨rfl, rfl, rfl, by decide⟩, rfl, rfl⟩ rfl rfl rfl
theorem x256_12 : XX X d 256 (12, L, st, M) Q = XX X d 256 (23, L, st, M) Q := H_jmp rfl (by decide) rfl
theorem x256_15 (h : wide (some l4) = false) : XX X d 256 (15, [l0, l1, l2, l3, l4, l5], .ref a :: st, M) Q = XX X d 256 (17, [l0, l1, l2, l3, l4, some (.ref a)], st, M) Q := H_st rfl rfl rfl rfl rfl rfl rfl rfl (Or.inr h)
theorem x256_15n (h : wide (some l4) = false) : XX X d 256 (15, [l0, l1, l2, l3, l4, l5], .null :: st, M) Q = XX X d 256 (17, [l0, l1, l2, l3, l4, some (.null)], st, M) Q := H_st rfl rfl rfl rfl rfl rfl rfl rfl (Or.inr h)
theorem x256_17 : XX X d 256 (17, L, st, M) Q = XX X d 256 (18, L, .int (ii 1) :: st, M) Q := G_cst rfl rfl rfl rfl rfl
theorem x256_18 : XX X d 256 (18, L, [.int (ii p)], M) Q = Q (.inl (some (.int (ii p)))) M := G_ret rfl ⟨⟨⟨rfl, rfl, rfl, by decide⟩, rfl, rfl⟩, rfl, rfl⟩ rfl
theorem x256_19 (h : wide (some l4) = false) : XX X d 256 (19, [l0, l1, l2, l3, l4, l5], .ref a :: st, M) Q = XX X d 256 (21, [l0, l1, l2, l3, l4, some (.ref a)], st, M) Q := H_st rfl rfl rfl rfl rfl rfl rfl rfl (Or.inr h)
theorem x256_19n (h : wide (some l4) = false) : XX X d 256 (19, [l0, l1, l2, l3, l4, l5], .null :: st, M) Q = XX X d 256 (21, [l0, l1, l2, l3, l4, some (.null)], st, M) Q := H_st rfl rfl rfl rfl rfl rfl rfl rfl (Or.inr h)
theorem x256_21 : XX X d 256 (21, L, st, M) Q = XX X d 256 (22, L, .int (ii 2) :: st, M) Q := G_cst rfl rfl rfl rfl rfl
theorem x256_22 : XX X d 256 (22, L, [.int (ii p)], M) Q = Q (.inl (some (.int (ii p)))) M := G_ret rfl ⟨⟨⟨rfl, rfl, rfl, by decide⟩, rfl, rfl⟩, rfl, rfl⟩ rfl
theorem x256_23 : XX X d 256 (23, L, st, M) Q = XX X d 256 (24, L, .int (ii 0) :: st, M) Q := G_cst rfl rfl rfl rfl rfl
theorem x256_24 : XX X d 256 (24, L, [.int (ii p)], M) Q = Q (.inl (some (.int (ii p)))) M := G_ret rfl ⟨⟨⟨rfl, rfl, rfl, by decide⟩, rfl, rfl⟩, rfl, rfl⟩ rfl
theorem e256 : CC X d 256 [.ref a1, .int x, .int x2, .int x3, .ref a2] M Q = XX X d 256 (0, [some (.ref a1), some (.int x), some (.int x2), some (.int x3), some (.ref a2), none], [], M) Q := H_ent rfl rfl
-- 257 L_groupEnd (LRegexTracer;III[J)I
theorem x257_0 : XX X d 257 (0, [l0, l1, l2, l3, some (.ref a), l5], st, M) Q = XX X d 257 (2, [l0, l1, l2, l3, some (.ref a), l5], .ref a :: st, M) Q := H_ld rfl rfl rfl rfl rfl
theorem x257_0n : XX X d 257 (0, [l0, l1, l2, l3, some (.null), l5], st, M) Q = XX X d 257 (2, [l0, l1, l2, l3, some (.null), l5], .null :: st, M) Q := H_ld rfl rfl rfl rfl rfl
theorem x257_2 : XX X d 257 (2, L, st, M) Q = XX X d 257 (3, L, .int (ii 0) :: st, M) Q := G_cst rfl rfl rfl rfl rfl
theorem x257_3 : XX X d 257 (3, [some (.ref a), l1, l2, l3, l4, l5], st, M) Q = XX X d 257 (4, [some (.ref a), l1, l2, l3, l4, l5], .ref a :: st, M) Q := H_ld rfl rfl rfl rfl rfl
theorem x257_3n : XX X d 257 (3, [some (.null), l1, l2, l3, l4, l5], st, M) Q = XX X d 257 (4, [some (.null), l1, l2, l3, l4, l5], .null :: st, M) Q := H_ld rfl rfl rfl rfl rfl
theorem x257_4 : XX X d 257 (4, [l0, some (.int x), l2, l3, l4, l5], st, M) Q = XX X d 257 (5, [l0, some (.int x), l2, l3, l4, l5], .int x :: st, M) Q := H_ld rfl rfl rfl rfl rfl
theorem x257_5 : XX X d 257 (5, [l0, l1, some (.int x), l3, l4, l5], st, M) Q = XX X d 257 (6, [l0, l1, some (.int x), l3, l4, l5], .int x :: st, M) Q := H_ld rfl rfl rfl rfl rfl
theorem x257_6 : XX X d 257 (6, [l0, l1, l2, some (.int x), l4, l5], st, M) Q = XX X d 257 (7, [l0, l1, l2, some (.int x), l4, l5], .int x :: st, M) Q := H_ld rfl rfl rfl rfl rfl
theorem x257_7 {v1 v2 v3 : Value} (hd : 0 < d) (hs : stB st = true) : XX X d 257 (7, L, v3 :: v2 :: v1 :: .ref a :: st, M) Q = (mcl M a = some 8 ∧ CC X (d - 1) 106 [.ref a, v1, v2, v3] M (XC X d 257 7 10 L st Q)) := H_virt [v1, v2, v3] rfl (by decide) rfl rfl rfl rfl rfl hd hs
theorem x257_10 : XX X d 257 (10, L, .int x :: st, M) Q = XX X d 257 (11, L, .long x.toInt64 :: st, M) Q := G_sop rfl ⟨rfl, rfl, rfl, by decide⟩ rfl rfl
theorem x257_11 : XX X d 257 (11, L, v :: .int x :: .ref a :: st, M) Q = yw (M.2.2 a) a .lastore v x X d 257 12 L st M Q := G_ast rfl ⟨⟨rfl, rfl, rfl, by decide⟩, rfl, rfl⟩ rfl rfl rfl
theorem x257_12 : XX X d 257 (12, L, st, M) Q = XX X d 257 (23, L, st, M) Q := H_jmp rfl (by decide) rfl
theorem x257_15 (h : wide (some l4) = false) : XX X d 257 (15, [l0, l1, l2, l3, l4, l5], .ref a :: st, M) Q = XX X d 257 (17, [l0, l1, l2, l3, l4, some (.ref a)], st, M) Q := H_st rfl rfl rfl rfl rfl rfl rfl rfl (Or.inr h)
theorem x257_15n (h : wide (some l4) = false) : XX X d 257 (15, [l0, l1, l2, l3, l4, l5], .null :: st, M) Q = XX X d 257 (17, [l0, l1, l2, l3, l4, some (.null)], st, M) Q := H_st rfl rfl rfl rfl rfl rfl rfl rfl (Or.inr h)
theorem x257_17 : XX X d 257 (17, L, st, M) Q = XX X d 257 (18, L, .int (ii 1) :: st, M) Q := G_cst rfl rfl rfl rfl rfl
theorem x257_18 : XX X d 257 (18, L, [.int (ii p)], M) Q = Q (.inl (some (.int (ii p)))) M := G_ret rfl ⟨⟨⟨rfl, rfl, rfl, by decide⟩, rfl, rfl⟩, rfl, rfl⟩ rfl
theorem x257_19 (h : wide (some l4) = false) : XX X d 257 (19, [l0, l1, l2, l3, l4, l5], .ref a :: st, M) Q = XX X d 257 (21, [l0, l1, l2, l3, l4, some (.ref a)], st, M) Q := H_st rfl rfl rfl rfl rfl rfl rfl rfl (Or.inr h)
theorem x257_19n (h : wide (some l4) = false) : XX X d 257 (19, [l0, l1, l2, l3, l4, l5], .null :: st, M) Q = XX X d 257 (21, [l0, l1, l2, l3, l4, some (.null)], st, M) Q := H_st rfl rfl rfl rfl rfl rfl rfl rfl (Or.inr h)
theorem x257_21 : XX X d 257 (21, L, st, M) Q = XX X d 257 (22, L, .int (ii 2) :: st, M) Q := G_cst rfl rfl rfl rfl rfl
theorem x257_22 : XX X d 257 (22, L, [.int (ii p)], M) Q = Q (.inl (some (.int (ii p)))) M := G_ret rfl ⟨⟨⟨rfl, rfl, rfl, by decide⟩, rfl, rfl⟩, rfl, rfl⟩ rfl
theorem x257_23 : XX X d 257 (23, L, st, M) Q = XX X d 257 (24, L, .int (ii 0) :: st, M) Q := G_cst rfl rfl rfl rfl rfl
theorem x257_24 : XX X d 257 (24, L, [.int (ii p)], M) Q = Q (.inl (some (.int (ii p)))) M := G_ret rfl ⟨⟨⟨rfl, rfl, rfl, by decide⟩, rfl, rfl⟩, rfl, rfl⟩ rfl
theorem e257 : CC X d 257 [.ref a1, .int x, .int x2, .int x3, .ref a2] M Q = XX X d 257 (0, [some (.ref a1), some (.int x), some (.int x2), some (.int x3), some (.ref a2), none], [], M) Q := H_ent rfl rfl
-- 258 L_matchCount (LRegexTracer;I[J)I
theorem x258_0 : XX X d 258 (0, [l0, l1, some (.ref a), l3], st, M) Q = XX X d 258 (1, [l0, l1, some (.ref a), l3], .ref a :: st, M) Q := H_ld rfl rfl rfl rfl rfl
theorem x258_0n : XX X d 258 (0, [l0, l1, some (.null), l3], st, M) Q = XX X d 258 (1, [l0, l1, some (.null), l3], .null :: st, M) Q := H_ld rfl rfl rfl rfl rfl
theorem x258_1 : XX X d 258 (1, L, st, M) Q = XX X d 258 (2, L, .int (ii 0) :: st, M) Q := G_cst rfl rfl rfl rfl rfl
theorem x258_2 : XX X d 258 (2, [some (.ref a), l1, l2, l3], st, M) Q = XX X d 258 (3, [some (.ref a), l1, l2, l3], .ref a :: st, M) Q := H_ld rfl rfl rfl rfl rfl
theorem x258_2n : XX X d 258 (2, [some (.null), l1, l2, l3], st, M) Q = XX X d 258 (3, [some (.null), l1, l2, l3], .null :: st, M) Q := H_ld rfl rfl rfl rfl rfl
theorem x258_3 : XX X d 258 (3, [l0, some (.int x), l2, l3], st, M) Q = XX X d 258 (4, [l0, some (.int x), l2, l3], .int x :: st, M) Q := H_ld rfl rfl rfl rfl rfl
theorem x258_4 {v1 : Value} (hd : 0 < d) (hs : stB st = true) : XX X d 258 (4, L, v1 :: .ref a :: st, M) Q = (mcl M a = some 8 ∧ CC X (d - 1) 107 [.ref a, v1] M (XC X d 258 4 7 L st Q)) := H_virt [v1] rfl (by decide) rfl rfl rfl rfl rfl hd hs
theorem x258_7 : XX X d 258 (7, L, .int x :: st, M) Q = XX X d 258 (8, L, .long x.toInt64 :: st, M) Q := G_sop rfl ⟨rfl, rfl, rfl, by decide⟩ rfl rfl
theorem x258_8 : XX X d 258 (8, L, v :: .int x :: .ref a :: st, M) Q = yw (M.2.2 a) a .lastore v x X d 258 9 L st M Q := G_ast rfl ⟨⟨rfl, rfl, rfl, by decide⟩, rfl, rfl⟩ rfl rfl rfl
theorem x258_9 : XX X d 258 (9, L, st, M) Q = XX X d 258 (15, L, st, M) Q := H_jmp rfl (by decide) rfl
theorem x258_12 (h : wide (some l2) = false) : XX X d 258 (12, [l0, l1, l2, l3], .ref a :: st, M) Q = XX X d 258 (13, [l0, l1, l2, some (.ref a)], st, M) Q := H_st rfl rfl rfl rfl rfl rfl rfl rfl (Or.inr h)
theorem x258_12n (h : wide (some l2) = false) : XX X d 258 (12, [l0, l1, l2, l3], .null :: st, M) Q = XX X d 258 (13, [l0, l1, l2, some (.null)], st, M) Q := H_st rfl rfl rfl rfl rfl rfl rfl rfl (Or.inr h)
theorem x258_13 : XX X d 258 (13, L, st, M) Q = XX X d 258 (14, L, .int (ii 1) :: st, M) Q := G_cst rfl rfl rfl rfl rfl
theorem x258_14 : XX X d 258 (14, L, [.int (ii p)], M) Q = Q (.inl (some (.int (ii p)))) M := G_ret rfl ⟨⟨⟨rfl, rfl, rfl, by decide⟩, rfl, rfl⟩, rfl, rfl⟩ rfl
theorem x258_15 : XX X d 258 (15, L, st, M) Q = XX X d 258 (16, L, .int (ii 0) :: st, M) Q := G_cst rfl rfl rfl rfl rfl
theorem x258_16 : XX X d 258 (16, L, [.int (ii p)], M) Q = Q (.inl (some (.int (ii p)))) M := G_ret rfl ⟨⟨⟨rfl, rfl, rfl, by decide⟩, rfl, rfl⟩, rfl, rfl⟩ rfl
theorem e258 : CC X d 258 [.ref a1, .int x, .ref a2] M Q = XX X d 258 (0, [some (.ref a1), some (.int x), some (.ref a2), none], [], M) Q := H_ent rfl rfl
-- 259 L_matchStart (LRegexTracer;II[J)I
theorem x259_0 : XX X d 259 (0, [l0, l1, l2, some (.ref a), l4], st, M) Q = XX X d 259 (1, [l0, l1, l2, some (.ref a), l4], .ref a :: st, M) Q := H_ld rfl rfl rfl rfl rfl
theorem x259_0n : XX X d 259 (0, [l0, l1, l2, some (.null), l4], st, M) Q = XX X d 259 (1, [l0, l1, l2, some (.null), l4], .null :: st, M) Q := H_ld rfl rfl rfl rfl rfl
theorem x259_1 : XX X d 259 (1, L, st, M) Q = XX X d 259 (2, L, .int (ii 0) :: st, M) Q := G_cst rfl rfl rfl rfl rfl
theorem x259_2 : XX X d 259 (2, [some (.ref a), l1, l2, l3, l4], st, M) Q = XX X d 259 (3, [some (.ref a), l1, l2, l3, l4], .ref a :: st, M) Q := H_ld rfl rfl rfl rfl rfl
theorem x259_2n : XX X d 259 (2, [some (.null), l1, l2, l3, l4], st, M) Q = XX X d 259 (3, [some (.null), l1, l2, l3, l4], .null :: st, M) Q := H_ld rfl rfl rfl rfl rfl
theorem x259_3 : XX X d 259 (3, [l0, some (.int x), l2, l3, l4], st, M) Q = XX X d 259 (4, [l0, some (.int x), l2, l3, l4], .int x :: st, M) Q := H_ld rfl rfl rfl rfl rfl
theorem x259_4 : XX X d 259 (4, [l0, l1, some (.int x), l3, l4], st, M) Q = XX X d 259 (5, [l0, l1, some (.int x), l3, l4], .int x :: st, M) Q := H_ld rfl rfl rfl rfl rfl
theorem x259_5 {v1 v2 : Value} (hd : 0 < d) (hs : stB st = true) : XX X d 259 (5, L, v2 :: v1 :: .ref a :: st, M) Q = (mcl M a = some 8 ∧ CC X (d - 1) 108 [.ref a, v1, v2] M (XC X d 259 5 8 L st Q)) := H_virt [v1, v2] rfl (by decide) rfl rfl rfl rfl rfl hd hs
theorem x259_8 : XX X d 259 (8, L, .int x :: st, M) Q = XX X d 259 (9, L, .long x.toInt64 :: st, M) Q := G_sop rfl ⟨rfl, rfl, rfl, by decide⟩ rfl rfl
theorem x259_9 : XX X d 259 (9, L, v :: .int x :: .ref a :: st, M) Q = yw (M.2.2 a) a .lastore v x X d 259 10 L st M Q := G_ast rfl ⟨⟨rfl, rfl, rfl, by decide⟩, rfl, rfl⟩ rfl rfl rfl
theorem x259_10 : XX X d 259 (10, L, st, M) Q = XX X d 259 (21, L, st, M) Q := H_jmp rfl (by decide) rfl
theorem x259_13 (h : wide (some l3) = false) : XX X d 259 (13, [l0, l1, l2, l3, l4], .ref a :: st, M) Q = XX X d 259 (15, [l0, l1, l2, l3, some (.ref a)], st, M) Q := H_st rfl rfl rfl rfl rfl rfl rfl rfl (Or.inr h)
theorem x259_13n (h : wide (some l3) = false) : XX X d 259 (13, [l0, l1, l2, l3, l4], .null :: st, M) Q = XX X d 259 (15, [l0, l1, l2, l3, some (.null)], st, M) Q := H_st rfl rfl rfl rfl rfl rfl rfl rfl (Or.inr h)
theorem x259_15 : XX X d 259 (15, L, st, M) Q = XX X d 259 (16, L, .int (ii 1) :: st, M) Q := G_cst rfl rfl rfl rfl rfl
theorem x259_16 : XX X d 259 (16, L, [.int (ii p)], M) Q = Q (.inl (some (.int (ii p)))) M := G_ret rfl ⟨⟨⟨rfl, rfl, rfl, by decide⟩, rfl, rfl⟩, rfl, rfl⟩ rfl
theorem x259_17 (h : wide (some l3) = false) : XX X d 259 (17, [l0, l1, l2, l3, l4], .ref a :: st, M) Q = XX X d 259 (19, [l0, l1, l2, l3, some (.ref a)], st, M) Q := H_st rfl rfl rfl rfl rfl rfl rfl rfl (Or.inr h)
theorem x259_17n (h : wide (some l3) = false) : XX X d 259 (17, [l0, l1, l2, l3, l4], .null :: st, M) Q = XX X d 259 (19, [l0, l1, l2, l3, some (.null)], st, M) Q := H_st rfl rfl rfl rfl rfl rfl rfl rfl (Or.inr h)
theorem x259_19 : XX X d 259 (19, L, st, M) Q = XX X d 259 (20, L, .int (ii 2) :: st, M) Q := G_cst rfl rfl rfl rfl rfl
theorem x259_20 : XX X d 259 (20, L, [.int (ii p)], M) Q = Q (.inl (some (.int (ii p)))) M := G_ret rfl ⟨⟨⟨rfl, rfl, rfl, by decide⟩, rfl, rfl⟩, rfl, rfl⟩ rfl
theorem x259_21 : XX X d 259 (21, L, st, M) Q = XX X d 259 (22, L, .int (ii 0) :: st, M) Q := G_cst rfl rfl rfl rfl rfl
theorem x259_22 : XX X d 259 (22, L, [.int (ii p)], M) Q = Q (.inl (some (.int (ii p)))) M := G_ret rfl ⟨⟨⟨rfl, rfl, rfl, by decide⟩, rfl, rfl⟩, rfl, rfl⟩ rfl
theorem e259 : CC X d 259 [.ref a1, .int x, .int x2, .ref a2] M Q = XX X d 259 (0, [some (.ref a1), some (.int x), some (.int x2), some (.ref a2), none], [], M) Q := H_ent rfl rfl
-- 260 L_matchLength (LRegexTracer;II[J)I
theorem x260_0 : XX X d 260 (0, [l0, l1, l2, some (.ref a), l4], st, M) Q = XX X d 260 (1, [l0, l1, l2, some (.ref a), l4], .ref a :: st, M) Q := H_ld rfl rfl rfl rfl rfl
theorem x260_0n : XX X d 260 (0, [l0, l1, l2, some (.null), l4], st, M) Q = XX X d 260 (1, [l0, l1, l2, some (.null), l4], .null :: st, M) Q := H_ld rfl rfl rfl rfl rfl
theorem x260_1 : XX X d 260 (1, L, st, M) Q = XX X d 260 (2, L, .int (ii 0) :: st, M) Q := G_cst rfl rfl rfl rfl rfl
theorem x260_2 : XX X d 260 (2, [some (.ref a), l1, l2, l3, l4], st, M) Q = XX X d 260 (3, [some (.ref a), l1, l2, l3, l4], .ref a :: st, M) Q := H_ld rfl rfl rfl rfl rfl
theorem x260_2n : XX X d 260 (2, [some (.null), l1, l2, l3, l4], st, M) Q = XX X d 260 (3, [some (.null), l1, l2, l3, l4], .null :: st, M) Q := H_ld rfl rfl rfl rfl rfl
theorem x260_3 : XX X d 260 (3, [l0, some (.int x), l2, l3, l4], st, M) Q = XX X d 260 (4, [l0, some (.int x), l2, l3, l4], .int x :: st, M) Q := H_ld rfl rfl rfl rfl rfl
theorem x260_4 : XX X d 260 (4, [l0, l1, some (.int x), l3, l4], st, M) Q = XX X d 260 (5, [l0, l1, some (.int x), l3, l4], .int x :: st, M) Q := H_ld rfl rfl rfl rfl rfl
theorem x260_5 {v1 v2 : Value} (hd : 0 < d) (hs : stB st = true) : XX X d 260 (5, L, v2 :: v1 :: .ref a :: st, M) Q = (mcl M a = some 8 ∧ CC X (d - 1) 109 [.ref a, v1, v2] M (XC X d 260 5 8 L st Q)) := H_virt [v1, v2] rfl (by decide) rfl rfl rfl rfl rfl hd hs
theorem x260_8 : XX X d 260 (8, L, .int x :: st, M) Q = XX X d 260 (9, L, .long x.toInt64 :: st, M) Q := G_sop rfl ⟨rfl, rfl, rfl, by decide⟩ rfl rfl
theorem x260_9 : XX X d 260 (9, L, v :: .int x :: .ref a :: st, M) Q = yw (M.2.2 a) a .lastore v x X d 260 10 L st M Q := G_ast rfl ⟨⟨rfl, rfl, rfl, by decide⟩, rfl, rfl⟩ rfl rfl rfl
theorem x260_10 : XX X d 260 (10, L, st, M) Q = XX X d 260 (21, L, st, M) Q := H_jmp rfl (by decide) rfl
theorem x260_13 (h : wide (some l3) = false) : XX X d 260 (13, [l0, l1, l2, l3, l4], .ref a :: st, M) Q = XX X d 260 (15, [l0, l1, l2, l3, some (.ref a)], st, M) Q := H_st rfl rfl rfl rfl rfl rfl rfl rfl (Or.inr h)
theorem x260_13n (h : wide (some l3) = false) : XX X d 260 (13, [l0, l1, l2, l3, l4], .null :: st, M) Q = XX X d 260 (15, [l0, l1, l2, l3, some (.null)], st, M) Q := H_st rfl rfl rfl rfl rfl rfl rfl rfl (Or.inr h)
theorem x260_15 : XX X d 260 (15, L, st, M) Q = XX X d 260 (16, L, .int (ii 1) :: st, M) Q := G_cst rfl rfl rfl rfl rfl
theorem x260_16 : XX X d 260 (16, L, [.int (ii p)], M) Q = Q (.inl (some (.int (ii p)))) M := G_ret rfl ⟨⟨⟨rfl, rfl, rfl, by decide⟩, rfl, rfl⟩, rfl, rfl⟩ rfl
theorem x260_17 (h : wide (some l3) = false) : XX X d 260 (17, [l0, l1, l2, l3, l4], .ref a :: st, M) Q = XX X d 260 (19, [l0, l1, l2, l3, some (.ref a)], st, M) Q := H_st rfl rfl rfl rfl rfl rfl rfl rfl (Or.inr h)
theorem x260_17n (h : wide (some l3) = false) : XX X d 260 (17, [l0, l1, l2, l3, l4], .null :: st, M) Q = XX X d 260 (19, [l0, l1, l2, l3, some (.null)], st, M) Q := H_st rfl rfl rfl rfl rfl rfl rfl rfl (Or.inr h)
theorem x260_19 : XX X d 260 (19, L, st, M) Q = XX X d 260 (20, L, .int (ii 2) :: st, M) Q := G_cst rfl rfl rfl rfl rfl
theorem x260_20 : XX X d 260 (20, L, [.int (ii p)], M) Q = Q (.inl (some (.int (ii p)))) M := G_ret rfl ⟨⟨⟨rfl, rfl, rfl, by decide⟩, rfl, rfl⟩, rfl, rfl⟩ rfl
theorem x260_21 : XX X d 260 (21, L, st, M) Q = XX X d 260 (22, L, .int (ii 0) :: st, M) Q := G_cst rfl rfl rfl rfl rfl
theorem x260_22 : XX X d 260 (22, L, [.int (ii p)], M) Q = Q (.inl (some (.int (ii p)))) M := G_ret rfl ⟨⟨⟨rfl, rfl, rfl, by decide⟩, rfl, rfl⟩, rfl, rfl⟩ rfl
theorem e260 : CC X d 260 [.ref a1, .int x, .int x2, .ref a2] M Q = XX X d 260 (0, [some (.ref a1), some (.int x), some (.int x2), some (.ref a2), none], [], M) Q := H_ent rfl rfl
-- 261 L_longestMatch (LRegexTracer;I[J)I
theorem x261_0 : XX X d 261 (0, [l0, l1, some (.ref a), l3], st, M) Q = XX X d 261 (1, [l0, l1, some (.ref a), l3], .ref a :: st, M) Q := H_ld rfl rfl rfl rfl rfl
theorem x261_0n : XX X d 261 (0, [l0, l1, some (.null), l3], st, M) Q = XX X d 261 (1, [l0, l1, some (.null), l3], .null :: st, M) Q := H_ld rfl rfl rfl rfl rfl
theorem x261_1 : XX X d 261 (1, L, st, M) Q = XX X d 261 (2, L, .int (ii 0) :: st, M) Q := G_cst rfl rfl rfl rfl rfl
theorem x261_2 : XX X d 261 (2, [some (.ref a), l1, l2, l3], st, M) Q = XX X d 261 (3, [some (.ref a), l1, l2, l3], .ref a :: st, M) Q := H_ld rfl rfl rfl rfl rfl
theorem x261_2n : XX X d 261 (2, [some (.null), l1, l2, l3], st, M) Q = XX X d 261 (3, [some (.null), l1, l2, l3], .null :: st, M) Q := H_ld rfl rfl rfl rfl rfl
theorem x261_3 : XX X d 261 (3, [l0, some (.int x), l2, l3], st, M) Q = XX X d 261 (4, [l0, some (.int x), l2, l3], .int x :: st, M) Q := H_ld rfl rfl rfl rfl rfl
theorem x261_4 {v1 : Value} (hd : 0 < d) (hs : stB st = true) : XX X d 261 (4, L, v1 :: .ref a :: st, M) Q = (mcl M a = some 8 ∧ CC X (d - 1) 110 [.ref a, v1] M (XC X d 261 4 7 L st Q)) := H_virt [v1] rfl (by decide) rfl rfl rfl rfl rfl hd hs
theorem x261_7 : XX X d 261 (7, L, .int x :: st, M) Q = XX X d 261 (8, L, .long x.toInt64 :: st, M) Q := G_sop rfl ⟨rfl, rfl, rfl, by decide⟩ rfl rfl
theorem x261_8 : XX X d 261 (8, L, v :: .int x :: .ref a :: st, M) Q = yw (M.2.2 a) a .lastore v x X d 261 9 L st M Q := G_ast rfl ⟨⟨rfl, rfl, rfl, by decide⟩, rfl, rfl⟩ rfl rfl rfl
theorem x261_9 : XX X d 261 (9, L, st, M) Q = XX X d 261 (18, L, st, M) Q := H_jmp rfl (by decide) rfl
theorem x261_12 (h : wide (some l2) = false) : XX X d 261 (12, [l0, l1, l2, l3], .ref a :: st, M) Q = XX X d 261 (13, [l0, l1, l2, some (.ref a)], st, M) Q := H_st rfl rfl rfl rfl rfl rfl rfl rfl (Or.inr h)
theorem x261_12n (h : wide (some l2) = false) : XX X d 261 (12, [l0, l1, l2, l3], .null :: st, M) Q = XX X d 261 (13, [l0, l1, l2, some (.null)], st, M) Q := H_st rfl rfl rfl rfl rfl rfl rfl rfl (Or.inr h)
theorem x261_13 : XX X d 261 (13, L, st, M) Q = XX X d 261 (14, L, .int (ii 1) :: st, M) Q := G_cst rfl rfl rfl rfl rfl
theorem x261_14 : XX X d 261 (14, L, [.int (ii p)], M) Q = Q (.inl (some (.int (ii p)))) M := G_ret rfl ⟨⟨⟨rfl, rfl, rfl, by decide⟩, rfl, rfl⟩, rfl, rfl⟩ rfl
theorem x261_15 (h : wide (some l2) = false) : XX X d 261 (15, [l0, l1, l2, l3], .ref a :: st, M) Q = XX X d 261 (16, [l0, l1, l2, some (.ref a)], st, M) Q := H_st rfl rfl rfl rfl rfl rfl rfl rfl (Or.inr h)
theorem x261_15n (h : wide (some l2) = false) : XX X d 261 (15, [l0, l1, l2, l3], .null :: st, M) Q = XX X d 261 (16, [l0, l1, l2, some (.null)], st, M) Q := H_st rfl rfl rfl rfl rfl rfl rfl rfl (Or.inr h)
theorem x261_16 : XX X d 261 (16, L, st, M) Q = XX X d 261 (17, L, .int (ii 2) :: st, M) Q := G_cst rfl rfl rfl rfl rfl
theorem x261_17 : XX X d 261 (17, L, [.int (ii p)], M) Q = Q (.inl (some (.int (ii p)))) M := G_ret rfl ⟨⟨⟨rfl, rfl, rfl, by decide⟩, rfl, rfl⟩, rfl, rfl⟩ rfl
theorem x261_18 : XX X d 261 (18, L, st, M) Q = XX X d 261 (19, L, .int (ii 0) :: st, M) Q := G_cst rfl rfl rfl rfl rfl
theorem x261_19 : XX X d 261 (19, L, [.int (ii p)], M) Q = Q (.inl (some (.int (ii p)))) M := G_ret rfl ⟨⟨⟨rfl, rfl, rfl, by decide⟩, rfl, rfl⟩, rfl, rfl⟩ rfl
theorem e261 : CC X d 261 [.ref a1, .int x, .ref a2] M Q = XX X d 261 (0, [some (.ref a1), some (.int x), some (.ref a2), none], [], M) Q := H_ent rfl rfl
-- 262 L_matchedCharacters (LRegexTracer;I[J)I
theorem x262_0 : XX X d 262 (0, [l0, l1, some (.ref a), l3], st, M) Q = XX X d 262 (1, [l0, l1, some (.ref a), l3], .ref a :: st, M) Q := H_ld rfl rfl rfl rfl rfl
theorem x262_0n : XX X d 262 (0, [l0, l1, some (.null), l3], st, M) Q = XX X d 262 (1, [l0, l1, some (.null), l3], .null :: st, M) Q := H_ld rfl rfl rfl rfl rfl
theorem x262_1 : XX X d 262 (1, L, st, M) Q = XX X d 262 (2, L, .int (ii 0) :: st, M) Q := G_cst rfl rfl rfl rfl rfl
theorem x262_2 : XX X d 262 (2, [some (.ref a), l1, l2, l3], st, M) Q = XX X d 262 (3, [some (.ref a), l1, l2, l3], .ref a :: st, M) Q := H_ld rfl rfl rfl rfl rfl
theorem x262_2n : XX X d 262 (2, [some (.null), l1, l2, l3], st, M) Q = XX X d 262 (3, [some (.null), l1, l2, l3], .null :: st, M) Q := H_ld rfl rfl rfl rfl rfl
theorem x262_3 : XX X d 262 (3, [l0, some (.int x), l2, l3], st, M) Q = XX X d 262 (4, [l0, some (.int x), l2, l3], .int x :: st, M) Q := H_ld rfl rfl rfl rfl rfl
theorem x262_4 {v1 : Value} (hd : 0 < d) (hs : stB st = true) : XX X d 262 (4, L, v1 :: .ref a :: st, M) Q = (mcl M a = some 8 ∧ CC X (d - 1) 111 [.ref a, v1] M (XC X d 262 4 7 L st Q)) := H_virt [v1] rfl (by decide) rfl rfl rfl rfl rfl hd hs
theorem x262_7 : XX X d 262 (7, L, .int x :: st, M) Q = XX X d 262 (8, L, .long x.toInt64 :: st, M) Q := G_sop rfl ⟨rfl, rfl, rfl, by decide⟩ rfl rfl
theorem x262_8 : XX X d 262 (8, L, v :: .int x :: .ref a :: st, M) Q = yw (M.2.2 a) a .lastore v x X d 262 9 L st M Q := G_ast rfl ⟨⟨rfl, rfl, rfl, by decide⟩, rfl, rfl⟩ rfl rfl rfl
theorem x262_9 : XX X d 262 (9, L, st, M) Q = XX X d 262 (15, L, st, M) Q := H_jmp rfl (by decide) rfl
theorem x262_12 (h : wide (some l2) = false) : XX X d 262 (12, [l0, l1, l2, l3], .ref a :: st, M) Q = XX X d 262 (13, [l0, l1, l2, some (.ref a)], st, M) Q := H_st rfl rfl rfl rfl rfl rfl rfl rfl (Or.inr h)
theorem x262_12n (h : wide (some l2) = false) : XX X d 262 (12, [l0, l1, l2, l3], .null :: st, M) Q = XX X d 262 (13, [l0, l1, l2, some (.null)], st, M) Q := H_st rfl rfl rfl rfl rfl rfl rfl rfl (Or.inr h)
theorem x262_13 : XX X d 262 (13, L, st, M) Q = XX X d 262 (14, L, .int (ii 1) :: st, M) Q := G_cst rfl rfl rfl rfl rfl
theorem x262_14 : XX X d 262 (14, L, [.int (ii p)], M) Q = Q (.inl (some (.int (ii p)))) M := G_ret rfl ⟨⟨⟨rfl, rfl, rfl, by decide⟩, rfl, rfl⟩, rfl, rfl⟩ rfl
theorem x262_15 : XX X d 262 (15, L, st, M) Q = XX X d 262 (16, L, .int (ii 0) :: st, M) Q := G_cst rfl rfl rfl rfl rfl
theorem x262_16 : XX X d 262 (16, L, [.int (ii p)], M) Q = Q (.inl (some (.int (ii p)))) M := G_ret rfl ⟨⟨⟨rfl, rfl, rfl, by decide⟩, rfl, rfl⟩, rfl, rfl⟩ rfl
theorem e262 : CC X d 262 [.ref a1, .int x, .ref a2] M Q = XX X d 262 (0, [some (.ref a1), some (.int x), some (.ref a2), none], [], M) Q := H_ent rfl rfl
-- 263 L_patternByMatches (LRegexTracer;I[J)I
theorem x263_0 : XX X d 263 (0, [l0, l1, some (.ref a), l3], st, M) Q = XX X d 263 (1, [l0, l1, some (.ref a), l3], .ref a :: st, M) Q := H_ld rfl rfl rfl rfl rfl
theorem x263_0n : XX X d 263 (0, [l0, l1, some (.null), l3], st, M) Q = XX X d 263 (1, [l0, l1, some (.null), l3], .null :: st, M) Q := H_ld rfl rfl rfl rfl rfl
theorem x263_1 : XX X d 263 (1, L, st, M) Q = XX X d 263 (2, L, .int (ii 0) :: st, M) Q := G_cst rfl rfl rfl rfl rfl
theorem x263_2 : XX X d 263 (2, [some (.ref a), l1, l2, l3], st, M) Q = XX X d 263 (3, [some (.ref a), l1, l2, l3], .ref a :: st, M) Q := H_ld rfl rfl rfl rfl rfl
theorem x263_2n : XX X d 263 (2, [some (.null), l1, l2, l3], st, M) Q = XX X d 263 (3, [some (.null), l1, l2, l3], .null :: st, M) Q := H_ld rfl rfl rfl rfl rfl
theorem x263_3 : XX X d 263 (3, [l0, some (.int x), l2, l3], st, M) Q = XX X d 263 (4, [l0, some (.int x), l2, l3], .int x :: st, M) Q := H_ld rfl rfl rfl rfl rfl
theorem x263_4 {v1 : Value} (hd : 0 < d) (hs : stB st = true) : XX X d 263 (4, L, v1 :: .ref a :: st, M) Q = (mcl M a = some 8 ∧ CC X (d - 1) 112 [.ref a, v1] M (XC X d 263 4 7 L st Q)) := H_virt [v1] rfl (by decide) rfl rfl rfl rfl rfl hd hs
theorem x263_7 : XX X d 263 (7, L, .int x :: st, M) Q = XX X d 263 (8, L, .long x.toInt64 :: st, M) Q := G_sop rfl ⟨rfl, rfl, rfl, by decide⟩ rfl rfl
theorem x263_8 : XX X d 263 (8, L, v :: .int x :: .ref a :: st, M) Q = yw (M.2.2 a) a .lastore v x X d 263 9 L st M Q := G_ast rfl ⟨⟨rfl, rfl, rfl, by decide⟩, rfl, rfl⟩ rfl rfl rfl
theorem x263_9 : XX X d 263 (9, L, st, M) Q = XX X d 263 (15, L, st, M) Q := H_jmp rfl (by decide) rfl
theorem x263_12 (h : wide (some l2) = false) : XX X d 263 (12, [l0, l1, l2, l3], .ref a :: st, M) Q = XX X d 263 (13, [l0, l1, l2, some (.ref a)], st, M) Q := H_st rfl rfl rfl rfl rfl rfl rfl rfl (Or.inr h)
theorem x263_12n (h : wide (some l2) = false) : XX X d 263 (12, [l0, l1, l2, l3], .null :: st, M) Q = XX X d 263 (13, [l0, l1, l2, some (.null)], st, M) Q := H_st rfl rfl rfl rfl rfl rfl rfl rfl (Or.inr h)
theorem x263_13 : XX X d 263 (13, L, st, M) Q = XX X d 263 (14, L, .int (ii 1) :: st, M) Q := G_cst rfl rfl rfl rfl rfl
theorem x263_14 : XX X d 263 (14, L, [.int (ii p)], M) Q = Q (.inl (some (.int (ii p)))) M := G_ret rfl ⟨⟨⟨rfl, rfl, rfl, by decide⟩, rfl, rfl⟩, rfl, rfl⟩ rfl
theorem x263_15 : XX X d 263 (15, L, st, M) Q = XX X d 263 (16, L, .int (ii 0) :: st, M) Q := G_cst rfl rfl rfl rfl rfl
theorem x263_16 : XX X d 263 (16, L, [.int (ii p)], M) Q = Q (.inl (some (.int (ii p)))) M := G_ret rfl ⟨⟨⟨rfl, rfl, rfl, by decide⟩, rfl, rfl⟩, rfl, rfl⟩ rfl
theorem e263 : CC X d 263 [.ref a1, .int x, .ref a2] M Q = XX X d 263 (0, [some (.ref a1), some (.int x), some (.ref a2), none], [], M) Q := H_ent rfl rfl
-- 264 L_meanMatchLength (LRegexTracer;I[D)I
theorem x264_0 : XX X d 264 (0, [l0, l1, some (.ref a), l3], st, M) Q = XX X d 264 (1, [l0, l1, some (.ref a), l3], .ref a :: st, M) Q := H_ld rfl rfl rfl rfl rfl
theorem x264_0n : XX X d 264 (0, [l0, l1, some (.null), l3], st, M) Q = XX X d 264 (1, [l0, l1, some (.null), l3], .null :: st, M) Q := H_ld rfl rfl rfl rfl rfl
theorem x264_1 : XX X d 264 (1, L, st, M) Q = XX X d 264 (2, L, .int (ii 0) :: st, M) Q := G_cst rfl rfl rfl rfl rfl
theorem x264_2 : XX X d 264 (2, [some (.ref a), l1, l2, l3], st, M) Q = XX X d 264 (3, [some (.ref a), l1, l2, l3], .ref a :: st, M) Q := H_ld rfl rfl rfl rfl rfl
theorem x264_2n : XX X d 264 (2, [some (.null), l1, l2, l3], st, M) Q = XX X d 264 (3, [some (.null), l1, l2, l3], .null :: st, M) Q := H_ld rfl rfl rfl rfl rfl
theorem x264_3 : XX X d 264 (3, [l0, some (.int x), l2, l3], st, M) Q = XX X d 264 (4, [l0, some (.int x), l2, l3], .int x :: st, M) Q := H_ld rfl rfl rfl rfl rfl
theorem x264_4 {v1 : Value} (hd : 0 < d) (hs : stB st = true) : XX X d 264 (4, L, v1 :: .ref a :: st, M) Q = (mcl M a = some 8 ∧ CC X (d - 1) 113 [.ref a, v1] M (XC X d 264 4 7 L st Q)) := H_virt [v1] rfl (by decide) rfl rfl rfl rfl rfl hd hs
theorem x264_7 : XX X d 264 (7, L, v :: .int x :: .ref a :: st, M) Q = yw (M.2.2 a) a .dastore v x X d 264 8 L st M Q := G_ast rfl ⟨⟨rfl, rfl, rfl, by decide⟩, rfl, rfl⟩ rfl rfl rfl
theorem x264_8 : XX X d 264 (8, L, st, M) Q = XX X d 264 (17, L, st, M) Q := H_jmp rfl (by decide) rfl
theorem x264_11 (h : wide (some l2) = false) : XX X d 264 (11, [l0, l1, l2, l3], .ref a :: st, M) Q = XX X d 264 (12, [l0, l1, l2, some (.ref a)], st, M) Q := H_st rfl rfl rfl rfl rfl rfl rfl rfl (Or.inr h)
theorem x264_11n (h : wide (some l2) = false) : XX X d 264 (11, [l0, l1, l2, l3], .null :: st, M) Q = XX X d 264 (12, [l0, l1, l2, some (.null)], st, M) Q := H_st rfl rfl rfl rfl rfl rfl rfl rfl (Or.inr h)
theorem x264_12 : XX X d 264 (12, L, st, M) Q = XX X d 264 (13, L, .int (ii 1) :: st, M) Q := G_cst rfl rfl rfl rfl rfl
theorem x264_13 : XX X d 264 (13, L, [.int (ii p)], M) Q = Q (.inl (some (.int (ii p)))) M := G_ret rfl ⟨⟨⟨rfl, rfl, rfl, by decide⟩, rfl, rfl⟩, rfl, rfl⟩ rfl
theorem x264_14 (h : wide (some l2) = false) : XX X d 264 (14, [l0, l1, l2, l3], .ref a :: st, M) Q = XX X d 264 (15, [l0, l1, l2, some (.ref a)], st, M) Q := H_st rfl rfl rfl rfl rfl rfl rfl rfl (Or.inr h)
theorem x264_14n (h : wide (some l2) = false) : XX X d 264 (14, [l0, l1, l2, l3], .null :: st, M) Q = XX X d 264 (15, [l0, l1, l2, some (.null)], st, M) Q := H_st rfl rfl rfl rfl rfl rfl rfl rfl (Or.inr h)
theorem x264_15 : XX X d 264 (15, L, st, M) Q = XX X d 264 (16, L, .int (ii 2) :: st, M) Q := G_cst rfl rfl rfl rfl rfl
theorem x264_16 : XX X d 264 (16, L, [.int (ii p)], M) Q = Q (.inl (some (.int (ii p)))) M := G_ret rfl ⟨⟨⟨rfl, rfl, rfl, by decide⟩, rfl, rfl⟩, rfl, rfl⟩ rfl
theorem x264_17 : XX X d 264 (17, L, st, M) Q = XX X d 264 (18, L, .int (ii 0) :: st, M) Q := G_cst rfl rfl rfl rfl rfl
theorem x264_18 : XX X d 264 (18, L, [.int (ii p)], M) Q = Q (.inl (some (.int (ii p)))) M := G_ret rfl ⟨⟨⟨rfl, rfl, rfl, by decide⟩, rfl, rfl⟩, rfl, rfl⟩ rfl
theorem e264 : CC X d 264 [.ref a1, .int x, .ref a2] M Q = XX X d 264 (0, [some (.ref a1), some (.int x), some (.ref a2), none], [], M) Q := H_ent rfl rfl
-- 265 L_coverage (LRegexTracer;I[D)I
theorem x265_0 : XX X d 265 (0, [l0, l1, some (.ref a), l3], st, M) Q = XX X d 265 (1, [l0, l1, some (.ref a), l3], .ref a :: st, M) Q := H_ld rfl rfl rfl rfl rfl
theorem x265_0n : XX X d 265 (0, [l0, l1, some (.null), l3], st, M) Q = XX X d 265 (1, [l0, l1, some (.null), l3], .null :: st, M) Q := H_ld rfl rfl rfl rfl rfl
theorem x265_1 : XX X d 265 (1, L, st, M) Q = XX X d 265 (2, L, .int (ii 0) :: st, M) Q := G_cst rfl rfl rfl rfl rfl
theorem x265_2 : XX X d 265 (2, [some (.ref a), l1, l2, l3], st, M) Q = XX X d 265 (3, [some (.ref a), l1, l2, l3], .ref a :: st, M) Q := H_ld rfl rfl rfl rfl rfl
theorem x265_2n : XX X d 265 (2, [some (.null), l1, l2, l3], st, M) Q = XX X d 265 (3, [some (.null), l1, l2, l3], .null :: st, M) Q := H_ld rfl rfl rfl rfl rfl
theorem x265_3 : XX X d 265 (3, [l0, some (.int x), l2, l3], st, M) Q = XX X d 265 (4, [l0, some (.int x), l2, l3], .int x :: st, M) Q := H_ld rfl rfl rfl rfl rfl
theorem x265_4 {v1 : Value} (hd : 0 < d) (hs : stB st = true) : XX X d 265 (4, L, v1 :: .ref a :: st, M) Q = (mcl M a = some 8 ∧ CC X (d - 1) 114 [.ref a, v1] M (XC X d 265 4 7 L st Q)) := H_virt [v1] rfl (by decide) rfl rfl rfl rfl rfl hd hs
theorem x265_7 (h : nn64 (FP.f2d z) = true) : XX X d 265 (7, L, .float z :: st, M) Q = XX X d 265 (8, L, .double (FP.f2d z) :: st, M) Q := G_sop rfl ⟨rfl, rfl, rfl, by decide⟩ (if_pos h) rfl
theorem x265_8 : XX X d 265 (8, L, v :: .int x :: .ref a :: st, M) Q = yw (M.2.2 a) a .dastore v x X d 265 9 L st M Q := G_ast rfl ⟨⟨rfl, rfl, rfl, by decide⟩, rfl, rfl⟩ rfl rfl rfl
theorem x265_9 : XX X d 265 (9, L, st, M) Q = XX X d 265 (18, L, st, M) Q := H_jmp rfl (by decide) rfl
theorem x265_12 (h : wide (some l2) = false) : XX X d 265 (12, [l0, l1, l2, l3], .ref a :: st, M) Q = XX X d 265 (13, [l0, l1, l2, some (.ref a)], st, M) Q := H_st rfl rfl rfl rfl rfl rfl rfl rfl (Or.inr h)
theorem x265_12n (h : wide (some l2) = false) : XX X d 265 (12, [l0, l1, l2, l3], .null :: st, M) Q = XX X d 265 (13, [l0, l1, l2, some (.null)], st, M) Q := H_st rfl rfl rfl rfl rfl rfl rfl rfl (Or.inr h)
theorem x265_13 : XX X d 265 (13, L, st, M) Q = XX X d 265 (14, L, .int (ii 1) :: st, M) Q := G_cst rfl rfl rfl rfl rfl
theorem x265_14 : XX X d 265 (14, L, [.int (ii p)], M) Q = Q (.inl (some (.int (ii p)))) M := G_ret rfl ⟨⟨⟨rfl, rfl, rfl, by decide⟩, rfl, rfl⟩, rfl, rfl⟩ rfl
theorem x265_15 (h : wide (some l2) = false) : XX X d 265 (15, [l0, l1, l2, l3], .ref a :: st, M) Q = XX X d 265 (16, [l0, l1, l2, some (.ref a)], st, M) Q := H_st rfl rfl rfl rfl rfl rfl rfl rfl (Or.inr h)
theorem x265_15n (h : wide (some l2) = false) : XX X d 265 (15, [l0, l1, l2, l3], .null :: st, M) Q = XX X d 265 (16, [l0, l1, l2, some (.null)], st, M) Q := H_st rfl rfl rfl rfl rfl rfl rfl rfl (Or.inr h)
theorem x265_16 : XX X d 265 (16, L, st, M) Q = XX X d 265 (17, L, .int (ii 2) :: st, M) Q := G_cst rfl rfl rfl rfl rfl
theorem x265_17 : XX X d 265 (17, L, [.int (ii p)], M) Q = Q (.inl (some (.int (ii p)))) M := G_ret rfl ⟨⟨⟨rfl, rfl, rfl, by decide⟩, rfl, rfl⟩, rfl, rfl⟩ rfl
theorem x265_18 : XX X d 265 (18, L, st, M) Q = XX X d 265 (19, L, .int (ii 0) :: st, M) Q := G_cst rfl rfl rfl rfl rfl
theorem x265_19 : XX X d 265 (19, L, [.int (ii p)], M) Q = Q (.inl (some (.int (ii p)))) M := G_ret rfl ⟨⟨⟨rfl, rfl, rfl, by decide⟩, rfl, rfl⟩, rfl, rfl⟩ rfl
theorem e265 : CC X d 265 [.ref a1, .int x, .ref a2] M Q = XX X d 265 (0, [some (.ref a1), some (.int x), some (.ref a2), none], [], M) Q := H_ent rfl rfl
-- 266 L_writeMatch (LRegexTracer;II[J)I
theorem x266_0 : XX X d 266 (0, [l0, l1, l2, some (.ref a), l4], st, M) Q = XX X d 266 (1, [l0, l1, l2, some (.ref a), l4], .ref a :: st, M) Q := H_ld rfl rfl rfl rfl rfl
theorem x266_0n : XX X d 266 (0, [l0, l1, l2, some (.null), l4], st, M) Q = XX X d 266 (1, [l0, l1, l2, some (.null), l4], .null :: st, M) Q := H_ld rfl rfl rfl rfl rfl
theorem x266_1 : XX X d 266 (1, L, st, M) Q = XX X d 266 (2, L, .int (ii 0) :: st, M) Q := G_cst rfl rfl rfl rfl rfl
theorem x266_2 : XX X d 266 (2, [some (.ref a), l1, l2, l3, l4], st, M) Q = XX X d 266 (3, [some (.ref a), l1, l2, l3, l4], .ref a :: st, M) Q := H_ld rfl rfl rfl rfl rfl
theorem x266_2n : XX X d 266 (2, [some (.null), l1, l2, l3, l4], st, M) Q = XX X d 266 (3, [some (.null), l1, l2, l3, l4], .null :: st, M) Q := H_ld rfl rfl rfl rfl rfl
theorem x266_3 : XX X d 266 (3, [l0, some (.int x), l2, l3, l4], st, M) Q = XX X d 266 (4, [l0, some (.int x), l2, l3, l4], .int x :: st, M) Q := H_ld rfl rfl rfl rfl rfl
theorem x266_4 : XX X d 266 (4, [l0, l1, some (.int x), l3, l4], st, M) Q = XX X d 266 (5, [l0, l1, some (.int x), l3, l4], .int x :: st, M) Q := H_ld rfl rfl rfl rfl rfl
theorem x266_5 {v1 v2 : Value} (hd : 0 < d) (hs : stB st = true) : XX X d 266 (5, L, v2 :: v1 :: .ref a :: st, M) Q = (mcl M a = some 8 ∧ CC X (d - 1) 116 [.ref a, v1, v2] M (XC X d 266 5 8 L st Q)) := H_virt [v1, v2] rfl (by decide) rfl rfl rfl rfl rfl hd hs
theorem x266_8 : XX X d 266 (8, L, .int x :: st, M) Q = XX X d 266 (9, L, .long x.toInt64 :: st, M) Q := G_sop rfl ⟨rfl, rfl, rfl, by decide⟩ rfl rfl
theorem x266_9 : XX X d 266 (9, L, v :: .int x :: .ref a :: st, M) Q = yw (M.2.2 a) a .lastore v x X d 266 10 L st M Q := G_ast rfl ⟨⟨rfl, rfl, rfl, by decide⟩, rfl, rfl⟩ rfl rfl rfl
theorem x266_10 : XX X d 266 (10, L, st, M) Q = XX X d 266 (21, L, st, M) Q := H_jmp rfl (by decide) rfl
theorem x266_13 (h : wide (some l3) = false) : XX X d 266 (13, [l0, l1, l2, l3, l4], .ref a :: st, M) Q = XX X d 266 (15, [l0, l1, l2, l3, some (.ref a)], st, M) Q := H_st rfl rfl rfl rfl rfl rfl rfl rfl (Or.inr h)
theorem x266_13n (h : wide (some l3) = false) : XX X d 266 (13, [l0, l1, l2, l3, l4], .null :: st, M) Q = XX X d 266 (15, [l0, l1, l2, l3, some (.null)], st, M) Q := H_st rfl rfl rfl rfl rfl rfl rfl rfl (Or.inr h)
theorem x266_15 : XX X d 266 (15, L, st, M) Q = XX X d 266 (16, L, .int (ii 1) :: st, M) Q := G_cst rfl rfl rfl rfl rfl
theorem x266_16 : XX X d 266 (16, L, [.int (ii p)], M) Q = Q (.inl (some (.int (ii p)))) M := G_ret rfl ⟨⟨⟨rfl, rfl, rfl, by decide⟩, rfl, rfl⟩, rfl, rfl⟩ rfl
theorem x266_17 (h : wide (some l3) = false) : XX X d 266 (17, [l0, l1, l2, l3, l4], .ref a :: st, M) Q = XX X d 266 (19, [l0, l1, l2, l3, some (.ref a)], st, M) Q := H_st rfl rfl rfl rfl rfl rfl rfl rfl (Or.inr h)
theorem x266_17n (h : wide (some l3) = false) : XX X d 266 (17, [l0, l1, l2, l3, l4], .null :: st, M) Q = XX X d 266 (19, [l0, l1, l2, l3, some (.null)], st, M) Q := H_st rfl rfl rfl rfl rfl rfl rfl rfl (Or.inr h)
theorem x266_19 : XX X d 266 (19, L, st, M) Q = XX X d 266 (20, L, .int (ii 2) :: st, M) Q := G_cst rfl rfl rfl rfl rfl
theorem x266_20 : XX X d 266 (20, L, [.int (ii p)], M) Q = Q (.inl (some (.int (ii p)))) M := G_ret rfl ⟨⟨⟨rfl, rfl, rfl, by decide⟩, rfl, rfl⟩, rfl, rfl⟩ rfl
theorem x266_21 : XX X d 266 (21, L, st, M) Q = XX X d 266 (22, L, .int (ii 0) :: st, M) Q := G_cst rfl rfl rfl rfl rfl
theorem x266_22 : XX X d 266 (22, L, [.int (ii p)], M) Q = Q (.inl (some (.int (ii p)))) M := G_ret rfl ⟨⟨⟨rfl, rfl, rfl, by decide⟩, rfl, rfl⟩, rfl, rfl⟩ rfl
theorem e266 : CC X d 266 [.ref a1, .int x, .int x2, .ref a2] M Q = XX X d 266 (0, [some (.ref a1), some (.int x), some (.int x2), some (.ref a2), none], [], M) Q := H_ent rfl rfl
-- 267 L_writeMarked (LRegexTracer;I[J)I
theorem x267_0 : XX X d 267 (0, [l0, l1, some (.ref a), l3], st, M) Q = XX X d 267 (1, [l0, l1, some (.ref a), l3], .ref a :: st, M) Q := H_ld rfl rfl rfl rfl rfl
theorem x267_0n : XX X d 267 (0, [l0, l1, some (.null), l3], st, M) Q = XX X d 267 (1, [l0, l1, some (.null), l3], .null :: st, M) Q := H_ld rfl rfl rfl rfl rfl
theorem x267_1 : XX X d 267 (1, L, st, M) Q = XX X d 267 (2, L, .int (ii 0) :: st, M) Q := G_cst rfl rfl rfl rfl rfl
theorem x267_2 : XX X d 267 (2, [some (.ref a), l1, l2, l3], st, M) Q = XX X d 267 (3, [some (.ref a), l1, l2, l3], .ref a :: st, M) Q := H_ld rfl rfl rfl rfl rfl
theorem x267_2n : XX X d 267 (2, [some (.null), l1, l2, l3], st, M) Q = XX X d 267 (3, [some (.null), l1, l2, l3], .null :: st, M) Q := H_ld rfl rfl rfl rfl rfl
theorem x267_3 : XX X d 267 (3, [l0, some (.int x), l2, l3], st, M) Q = XX X d 267 (4, [l0, some (.int x), l2, l3], .int x :: st, M) Q := H_ld rfl rfl rfl rfl rfl
theorem x267_4 {v1 : Value} (hd : 0 < d) (hs : stB st = true) : XX X d 267 (4, L, v1 :: .ref a :: st, M) Q = (mcl M a = some 8 ∧ CC X (d - 1) 117 [.ref a, v1] M (XC X d 267 4 7 L st Q)) := H_virt [v1] rfl (by decide) rfl rfl rfl rfl rfl hd hs
theorem x267_7 : XX X d 267 (7, L, .int x :: st, M) Q = XX X d 267 (8, L, .long x.toInt64 :: st, M) Q := G_sop rfl ⟨rfl, rfl, rfl, by decide⟩ rfl rfl
theorem x267_8 : XX X d 267 (8, L, v :: .int x :: .ref a :: st, M) Q = yw (M.2.2 a) a .lastore v x X d 267 9 L st M Q := G_ast rfl ⟨⟨rfl, rfl, rfl, by decide⟩, rfl, rfl⟩ rfl rfl rfl
theorem x267_9 : XX X d 267 (9, L, st, M) Q = XX X d 267 (15, L, st, M) Q := H_jmp rfl (by decide) rfl
theorem x267_12 (h : wide (some l2) = false) : XX X d 267 (12, [l0, l1, l2, l3], .ref a :: st, M) Q = XX X d 267 (13, [l0, l1, l2, some (.ref a)], st, M) Q := H_st rfl rfl rfl rfl rfl rfl rfl rfl (Or.inr h)
theorem x267_12n (h : wide (some l2) = false) : XX X d 267 (12, [l0, l1, l2, l3], .null :: st, M) Q = XX X d 267 (13, [l0, l1, l2, some (.null)], st, M) Q := H_st rfl rfl rfl rfl rfl rfl rfl rfl (Or.inr h)
theorem x267_13 : XX X d 267 (13, L, st, M) Q = XX X d 267 (14, L, .int (ii 1) :: st, M) Q := G_cst rfl rfl rfl rfl rfl
theorem x267_14 : XX X d 267 (14, L, [.int (ii p)], M) Q = Q (.inl (some (.int (ii p)))) M := G_ret rfl ⟨⟨⟨rfl, rfl, rfl, by decide⟩, rfl, rfl⟩, rfl, rfl⟩ rfl
theorem x267_15 : XX X d 267 (15, L, st, M) Q = XX X d 267 (16, L, .int (ii 0) :: st, M) Q := G_cst rfl rfl rfl rfl rfl
theorem x267_16 : XX X d 267 (16, L, [.int (ii p)], M) Q = Q (.inl (some (.int (ii p)))) M := G_ret rfl ⟨⟨⟨rfl, rfl, rfl, by decide⟩, rfl, rfl⟩, rfl, rfl⟩ rfl
theorem e267 : CC X d 267 [.ref a1, .int x, .ref a2] M Q = XX X d 267 (0, [some (.ref a1), some (.int x), some (.ref a2), none], [], M) Q := H_ent rfl rfl
-- 268 L_lineCharacter (LRegexTracer;I[J)I
theorem x268_0 : XX X d 268 (0, [l0, l1, some (.ref a), l3], st, M) Q = XX X d 268 (1, [l0, l1, some (.ref a), l3], .ref a :: st, M) Q := H_ld rfl rfl rfl rfl rfl
theorem x268_0n : XX X d 268 (0, [l0, l1, some (.null), l3], st, M) Q = XX X d 268 (1, [l0, l1, some (.null), l3], .null :: st, M) Q := H_ld rfl rfl rfl rfl rfl
theorem x268_1 : XX X d 268 (1, L, st, M) Q = XX X d 268 (2, L, .int (ii 0) :: st, M) Q := G_cst rfl rfl rfl rfl rfl
theorem x268_2 : XX X d 268 (2, [some (.ref a), l1, l2, l3], st, M) Q = XX X d 268 (3, [some (.ref a), l1, l2, l3], .ref a :: st, M) Q := H_ld rfl rfl rfl rfl rfl
theorem x268_2n : XX X d 268 (2, [some (.null), l1, l2, l3], st, M) Q = XX X d 268 (3, [some (.null), l1, l2, l3], .null :: st, M) Q := H_ld rfl rfl rfl rfl rfl
theorem x268_3 : XX X d 268 (3, [l0, some (.int x), l2, l3], st, M) Q = XX X d 268 (4, [l0, some (.int x), l2, l3], .int x :: st, M) Q := H_ld rfl rfl rfl rfl rfl
theorem x268_4 {v1 : Value} (hd : 0 < d) (hs : stB st = true) : XX X d 268 (4, L, v1 :: .ref a :: st, M) Q = (mcl M a = some 8 ∧ CC X (d - 1) 118 [.ref a, v1] M (XC X d 268 4 7 L st Q)) := H_virt [v1] rfl (by decide) rfl rfl rfl rfl rfl hd hs
theorem x268_7 : XX X d 268 (7, L, .int x :: st, M) Q = XX X d 268 (8, L, .long x.toInt64 :: st, M) Q := G_sop rfl ⟨rfl, rfl, rfl, by decide⟩ rfl rfl
theorem x268_8 : XX X d 268 (8, L, v :: .int x :: .ref a :: st, M) Q = yw (M.2.2 a) a .lastore v x X d 268 9 L st M Q := G_ast rfl ⟨⟨rfl, rfl, rfl, by decide⟩, rfl, rfl⟩ rfl rfl rfl
theorem x268_9 : XX X d 268 (9, L, st, M) Q = XX X d 268 (15, L, st, M) Q := H_jmp rfl (by decide) rfl
theorem x268_12 (h : wide (some l2) = false) : XX X d 268 (12, [l0, l1, l2, l3], .ref a :: st, M) Q = XX X d 268 (13, [l0, l1, l2, some (.ref a)], st, M) Q := H_st rfl rfl rfl rfl rfl rfl rfl rfl (Or.inr h)
theorem x268_12n (h : wide (some l2) = false) : XX X d 268 (12, [l0, l1, l2, l3], .null :: st, M) Q = XX X d 268 (13, [l0, l1, l2, some (.null)], st, M) Q := H_st rfl rfl rfl rfl rfl rfl rfl rfl (Or.inr h)
theorem x268_13 : XX X d 268 (13, L, st, M) Q = XX X d 268 (14, L, .int (ii 1) :: st, M) Q := G_cst rfl rfl rfl rfl rfl
theorem x268_14 : XX X d 268 (14, L, [.int (ii p)], M) Q = Q (.inl (some (.int (ii p)))) M := G_ret rfl ⟨⟨⟨rfl, rfl, rfl, by decide⟩, rfl, rfl⟩, rfl, rfl⟩ rfl
theorem x268_15 : XX X d 268 (15, L, st, M) Q = XX X d 268 (16, L, .int (ii 0) :: st, M) Q := G_cst rfl rfl rfl rfl rfl
theorem x268_16 : XX X d 268 (16, L, [.int (ii p)], M) Q = Q (.inl (some (.int (ii p)))) M := G_ret rfl ⟨⟨⟨rfl, rfl, rfl, by decide⟩, rfl, rfl⟩, rfl, rfl⟩ rfl
theorem e268 : CC X d 268 [.ref a1, .int x, .ref a2] M Q = XX X d 268 (0, [some (.ref a1), some (.int x), some (.ref a2), none], [], M) Q := H_ent rfl rfl
-- 269 L_undo (LRegexTracer;[J)I
theorem x269_0 : XX X d 269 (0, [l0, some (.ref a), l2], st, M) Q = XX X d 269 (1, [l0, some (.ref a), l2], .ref a :: st, M) Q := H_ld rfl rfl rfl rfl rfl
theorem x269_0n : XX X d 269 (0, [l0, some (.null), l2], st, M) Q = XX X d 269 (1, [l0, some (.null), l2], .null :: st, M) Q := H_ld rfl rfl rfl rfl rfl
theorem x269_1 : XX X d 269 (1, L, st, M) Q = XX X d 269 (2, L, .int (ii 0) :: st, M) Q := G_cst rfl rfl rfl rfl rfl
theorem x269_2 : XX X d 269 (2, [some (.ref a), l1, l2], st, M) Q = XX X d 269 (3, [some (.ref a), l1, l2], .ref a :: st, M) Q := H_ld rfl rfl rfl rfl rfl
theorem x269_2n : XX X d 269 (2, [some (.null), l1, l2], st, M) Q = XX X d 269 (3, [some (.null), l1, l2], .null :: st, M) Q := H_ld rfl rfl rfl rfl rfl
theorem x269_3 (hd : 0 < d) (hs : stB st = true) : XX X d 269 (3, L, .ref a :: st, M) Q = (mcl M a = some 8 ∧ CC X (d - 1) 119 [.ref a] M (XC X d 269 3 6 L st Q)) := H_virt [] rfl (by decide) rfl rfl rfl rfl rfl hd hs
theorem x269_6 : XX X d 269 (6, L, .int x :: st, M) Q = XX X d 269 (7, L, .long x.toInt64 :: st, M) Q := G_sop rfl ⟨rfl, rfl, rfl, by decide⟩ rfl rfl
theorem x269_7 : XX X d 269 (7, L, v :: .int x :: .ref a :: st, M) Q = yw (M.2.2 a) a .lastore v x X d 269 8 L st M Q := G_ast rfl ⟨⟨rfl, rfl, rfl, by decide⟩, rfl, rfl⟩ rfl rfl rfl
theorem x269_8 : XX X d 269 (8, L, st, M) Q = XX X d 269 (14, L, st, M) Q := H_jmp rfl (by decide) rfl
theorem x269_11 (h : wide (some l1) = false) : XX X d 269 (11, [l0, l1, l2], .ref a :: st, M) Q = XX X d 269 (12, [l0, l1, some (.ref a)], st, M) Q := H_st rfl rfl rfl rfl rfl rfl rfl rfl (Or.inr h)
theorem x269_11n (h : wide (some l1) = false) : XX X d 269 (11, [l0, l1, l2], .null :: st, M) Q = XX X d 269 (12, [l0, l1, some (.null)], st, M) Q := H_st rfl rfl rfl rfl rfl rfl rfl rfl (Or.inr h)
theorem x269_12 : XX X d 269 (12, L, st, M) Q = XX X d 269 (13, L, .int (ii 1) :: st, M) Q := G_cst rfl rfl rfl rfl rfl
theorem x269_13 : XX X d 269 (13, L, [.int (ii p)], M) Q = Q (.inl (some (.int (ii p)))) M := G_ret rfl ⟨⟨⟨rfl, rfl, rfl, by decide⟩, rfl, rfl⟩, rfl, rfl⟩ rfl
theorem x269_14 : XX X d 269 (14, L, st, M) Q = XX X d 269 (15, L, .int (ii 0) :: st, M) Q := G_cst rfl rfl rfl rfl rfl
theorem x269_15 : XX X d 269 (15, L, [.int (ii p)], M) Q = Q (.inl (some (.int (ii p)))) M := G_ret rfl ⟨⟨⟨rfl, rfl, rfl, by decide⟩, rfl, rfl⟩, rfl, rfl⟩ rfl
theorem e269 : CC X d 269 [.ref a1, .ref a2] M Q = XX X d 269 (0, [some (.ref a1), some (.ref a2), none], [], M) Q := H_ent rfl rfl
-- 270 L_restoreSnapshot (LRegexTracer;[J)I
theorem x270_0 : XX X d 270 (0, [l0, some (.ref a), l2], st, M) Q = XX X d 270 (1, [l0, some (.ref a), l2], .ref a :: st, M) Q := H_ld rfl rfl rfl rfl rfl
theorem x270_0n : XX X d 270 (0, [l0, some (.null), l2], st, M) Q = XX X d 270 (1, [l0, some (.null), l2], .null :: st, M) Q := H_ld rfl rfl rfl rfl rfl
theorem x270_1 : XX X d 270 (1, L, st, M) Q = XX X d 270 (2, L, .int (ii 0) :: st, M) Q := G_cst rfl rfl rfl rfl rfl
theorem x270_2 : XX X d 270 (2, [some (.ref a), l1, l2], st, M) Q = XX X d 270 (3, [some (.ref a), l1, l2], .ref a :: st, M) Q := H_ld rfl rfl rfl rfl rfl
theorem x270_2n : XX X d 270 (2, [some (.null), l1, l2], st, M) Q = XX X d 270 (3, [some (.null), l1, l2], .null :: st, M) Q := H_ld rfl rfl rfl rfl rfl
theorem x270_3 (hd : 0 < d) (hs : stB st = true) : XX X d 270 (3, L, .ref a :: st, M) Q = (mcl M a = some 8 ∧ CC X (d - 1) 122 [.ref a] M (XC X d 270 3 6 L st Q)) := H_virt [] rfl (by decide) rfl rfl rfl rfl rfl hd hs
theorem x270_6 : XX X d 270 (6, L, .int x :: st, M) Q = XX X d 270 (7, L, .long x.toInt64 :: st, M) Q := G_sop rfl ⟨rfl, rfl, rfl, by decide⟩ rfl rfl
theorem x270_7 : XX X d 270 (7, L, v :: .int x :: .ref a :: st, M) Q = yw (M.2.2 a) a .lastore v x X d 270 8 L st M Q := G_ast rfl ⟨⟨rfl, rfl, rfl, by decide⟩, rfl, rfl⟩ rfl rfl rfl
theorem x270_8 : XX X d 270 (8, L, st, M) Q = XX X d 270 (14, L, st, M) Q := H_jmp rfl (by decide) rfl
theorem x270_11 (h : wide (some l1) = false) : XX X d 270 (11, [l0, l1, l2], .ref a :: st, M) Q = XX X d 270 (12, [l0, l1, some (.ref a)], st, M) Q := H_st rfl rfl rfl rfl rfl rfl rfl rfl (Or.inr h)
theorem x270_11n (h : wide (some l1) = false) : XX X d 270 (11, [l0, l1, l2], .null :: st, M) Q = XX X d 270 (12, [l0, l1, some (.null)], st, M) Q := H_st rfl rfl rfl rfl rfl rfl rfl rfl (Or.inr h)
theorem x270_12 : XX X d 270 (12, L, st, M) Q = XX X d 270 (13, L, .int (ii 1) :: st, M) Q := G_cst rfl rfl rfl rfl rfl
theorem x270_13 : XX X d 270 (13, L, [.int (ii p)], M) Q = Q (.inl (some (.int (ii p)))) M := G_ret rfl ⟨⟨⟨rfl, rfl, rfl, by decide⟩, rfl, rfl⟩, rfl, rfl⟩ rfl
theorem x270_14 : XX X d 270 (14, L, st, M) Q = XX X d 270 (15, L, .int (ii 0) :: st, M) Q := G_cst rfl rfl rfl rfl rfl
theorem x270_15 : XX X d 270 (15, L, [.int (ii p)], M) Q = Q (.inl (some (.int (ii p)))) M := G_ret rfl ⟨⟨⟨rfl, rfl, rfl, by decide⟩, rfl, rfl⟩, rfl, rfl⟩ rfl
theorem e270 : CC X d 270 [.ref a1, .ref a2] M Q = XX X d 270 (0, [some (.ref a1), some (.ref a2), none], [], M) Q := H_ent rfl rfl
end PX27pxlaw
