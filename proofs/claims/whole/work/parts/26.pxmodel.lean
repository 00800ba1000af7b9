/-! model: each row at its place, printed by wip/whole/genx.py -/
section PX26pxmodel
variable {X : JX} {d a a1 a2 a3 a4 : Nat} {L : List (Option Value)} {st : List Value} {M : JM} {Q : JR → JM → Prop} {p q : Int} {b : Bool} {x x2 x3 x4 x5 x6 : Int32} {y y2 : Int64} {z z2 : UInt32} {w w2 : UInt64} {v v2 : Value} {l0 l1 l2 l3 l4 l5 l6 l7 l8 l9 l10 l11 l12 l13 l14 : Option Value}
-- 142 X9_init ()V
theorem x142_0 : XX X d 142 (0, [some (.ref a)], st, M) Q = XX X d 142 (1, [some (.ref a)], .ref a :: st, M) Q := H_ld rfl rfl rfl rfl rfl
theorem x142_1 (hs : stB st = true) : XX X d 142 (1, L, .ref a :: st, M) Q = XX X d 142 (4, L, st, M) Q := H_obj rfl (by decide) rfl rfl rfl hs
theorem x142_4 : XX X d 142 (4, [some (.ref a)], st, M) Q = XX X d 142 (5, [some (.ref a)], .ref a :: st, M) Q := H_ld rfl rfl rfl rfl rfl
theorem x142_5 : XX X d 142 (5, L, st, M) Q = XX X d 142 (8, L, .int (ii 166) :: st, M) Q := G_cst rfl rfl rfl rfl rfl
theorem x142_8 (h : 0 ≤ p ∧ p ≤ 10000) : XX X d 142 (8, L, .int (ii p) :: st, M) Q = XX X d 142 (10, L, .ref M.1 :: st, mnew M p.toNat (AI p.toNat (fun _ => 0))) Q := H_newa rfl (by decide) rfl rfl rfl h
theorem x142_10 : XX X d 142 (10, L, v :: .ref a :: st, M) Q = yp (M.2.2 a) a 9 0 v X d 142 13 L st M Q := G_putf rfl (by decide) rfl rfl rfl
theorem x142_13 : XX X d 142 (13, [some (.ref a)], st, M) Q = XX X d 142 (14, [some (.ref a)], .ref a :: st, M) Q := H_ld rfl rfl rfl rfl rfl
theorem x142_14 : XX X d 142 (14, L, st, M) Q = XX X d 142 (17, L, .int (ii 1328) :: st, M) Q := G_cst rfl rfl rfl rfl rfl
theorem x142_17 (h : 0 ≤ p ∧ p ≤ 10000) : XX X d 142 (17, L, .int (ii p) :: st, M) Q = XX X d 142 (19, L, .ref M.1 :: st, mnew M p.toNat (AI p.toNat (fun _ => 0))) Q := H_newa rfl (by decide) rfl rfl rfl h
theorem x142_19 : XX X d 142 (19, L, v :: .ref a :: st, M) Q = yp (M.2.2 a) a 9 1 v X d 142 22 L st M Q := G_putf rfl (by decide) rfl rfl rfl
theorem x142_22 : XX X d 142 (22, [some (.ref a)], st, M) Q = XX X d 142 (23, [some (.ref a)], .ref a :: st, M) Q := H_ld rfl rfl rfl rfl rfl
theorem x142_23 : XX X d 142 (23, L, st, M) Q = XX X d 142 (26, L, .int (ii 166) :: st, M) Q := G_cst rfl rfl rfl rfl rfl
theorem x142_26 (h : 0 ≤ p ∧ p ≤ 10000) : XX X d 142 (26, L, .int (ii p) :: st, M) Q = XX X d 142 (28, L, .ref M.1 :: st, mnew M p.toNat (AI p.toNat (fun _ => 0))) Q := H_newa rfl (by decide) rfl rfl rfl h
theorem x142_28 : XX X d 142 (28, L, v :: .ref a :: st, M) Q = yp (M.2.2 a) a 9 2 v X d 142 31 L st M Q := G_putf rfl (by decide) rfl rfl rfl
theorem x142_31 : XX X d 142 (31, [some (.ref a)], st, M) Q = XX X d 142 (32, [some (.ref a)], .ref a :: st, M) Q := H_ld rfl rfl rfl rfl rfl
theorem x142_32 : XX X d 142 (32, L, st, M) Q = XX X d 142 (34, L, .int (ii 30) :: st, M) Q := G_cst rfl rfl rfl rfl rfl
theorem x142_34 (h : 0 ≤ p ∧ p ≤ 10000) : XX X d 142 (34, L, .int (ii p) :: st, M) Q = XX X d 142 (36, L, .ref M.1 :: st, mnew M p.toNat (AI p.toNat (fun _ => 0))) Q := H_newa rfl (by decide) rfl rfl rfl h
theorem x142_36 : XX X d 142 (36, L, v :: .ref a :: st, M) Q = yp (M.2.2 a) a 9 6 v X d 142 39 L st M Q := G_putf rfl (by decide) rfl rfl rfl
theorem x142_39 : XX X d 142 (39, [some (.ref a)], st, M) Q = XX X d 142 (40, [some (.ref a)], .ref a :: st, M) Q := H_ld rfl rfl rfl rfl rfl
theorem x142_40 : XX X d 142 (40, L, st, M) Q = XX X d 142 (42, L, .int (ii 40) :: st, M) Q := G_cst rfl rfl rfl rfl rfl
theorem x142_42 (h : 0 ≤ p ∧ p ≤ 10000) : XX X d 142 (42, L, .int (ii p) :: st, M) Q = XX X d 142 (44, L, .ref M.1 :: st, mnew M p.toNat (AI p.toNat (fun _ => 0))) Q := H_newa rfl (by decide) rfl rfl rfl h
theorem x142_44 : XX X d 142 (44, L, v :: .ref a :: st, M) Q = yp (M.2.2 a) a 9 8 v X d 142 47 L st M Q := G_putf rfl (by decide) rfl rfl rfl
theorem x142_47 : XX X d 142 (47, [some (.ref a)], st, M) Q = XX X d 142 (48, [some (.ref a)], .ref a :: st, M) Q := H_ld rfl rfl rfl rfl rfl
theorem x142_48 : XX X d 142 (48, L, st, M) Q = XX X d 142 (49, L, .int (ii (-1)) :: st, M) Q := G_cst rfl rfl rfl rfl rfl
theorem x142_49 : XX X d 142 (49, L, v :: .ref a :: st, M) Q = yp (M.2.2 a) a 9 10 v X d 142 52 L st M Q := G_putf rfl (by decide) rfl rfl rfl
theorem x142_52 : XX X d 142 (52, [some (.ref a)], st, M) Q = XX X d 142 (53, [some (.ref a)], .ref a :: st, M) Q := H_ld rfl rfl rfl rfl rfl
theorem x142_53 : XX X d 142 (53, L, st, M) Q = XX X d 142 (56, L, .int (ii 140) :: st, M) Q := G_cst rfl rfl rfl rfl rfl
theorem x142_56 (h : 0 ≤ p ∧ p ≤ 10000) : XX X d 142 (56, L, .int (ii p) :: st, M) Q = XX X d 142 (58, L, .ref M.1 :: st, mnew M p.toNat (AC p.toNat (fun _ => 0))) Q := H_newa rfl (by decide) rfl rfl rfl h
theorem x142_58 : XX X d 142 (58, L, v :: .ref a :: st, M) Q = yp (M.2.2 a) a 9 13 v X d 142 61 L st M Q := G_putf rfl (by decide) rfl rfl rfl
theorem x142_61 : XX X d 142 (61, [some (.ref a)], st, M) Q = XX X d 142 (62, [some (.ref a)], .ref a :: st, M) Q := H_ld rfl rfl rfl rfl rfl
theorem x142_62 : XX X d 142 (62, L, st, M) Q = XX X d 142 (64, L, .int (ii 30) :: st, M) Q := G_cst rfl rfl rfl rfl rfl
theorem x142_64 (h : 0 ≤ p ∧ p ≤ 10000) : XX X d 142 (64, L, .int (ii p) :: st, M) Q = XX X d 142 (66, L, .ref M.1 :: st, mnew M p.toNat (AI p.toNat (fun _ => 0))) Q := H_newa rfl (by decide) rfl rfl rfl h
theorem x142_66 : XX X d 142 (66, L, v :: .ref a :: st, M) Q = yp (M.2.2 a) a 9 15 v X d 142 69 L st M Q := G_putf rfl (by decide) rfl rfl rfl
theorem x142_69 : XX X d 142 (69, [some (.ref a)], st, M) Q = XX X d 142 (70, [some (.ref a)], .ref a :: st, M) Q := H_ld rfl rfl rfl rfl rfl
theorem x142_70 : XX X d 142 (70, L, st, M) Q = XX X d 142 (73, L, .int (ii 140) :: st, M) Q := G_cst rfl rfl rfl rfl rfl
theorem x142_73 (h : 0 ≤ p ∧ p ≤ 10000) : XX X d 142 (73, L, .int (ii p) :: st, M) Q = XX X d 142 (75, L, .ref M.1 :: st, mnew M p.toNat (AI p.toNat (fun _ => 0))) Q := H_newa rfl (by decide) rfl rfl rfl h
theorem x142_75 : XX X d 142 (75, L, v :: .ref a :: st, M) Q = yp (M.2.2 a) a 9 19 v X d 142 78 L st M Q := G_putf rfl (by decide) rfl rfl rfl
theorem x142_78 : XX X d 142 (78, [some (.ref a)], st, M) Q = XX X d 142 (79, [some (.ref a)], .ref a :: st, M) Q := H_ld rfl rfl rfl rfl rfl
theorem x142_79 : XX X d 142 (79, L, st, M) Q = XX X d 142 (82, L, .int (ii 140) :: st, M) Q := G_cst rfl rfl rfl rfl rfl
theorem x142_82 (h : 0 ≤ p ∧ p ≤ 10000) : XX X d 142 (82, L, .int (ii p) :: st, M) Q = XX X d 142 (84, L, .ref M.1 :: st, mnew M p.toNat (AI p.toNat (fun _ => 0))) Q := H_newa rfl (by decide) rfl rfl rfl h
theorem x142_84 : XX X d 142 (84, L, v :: .ref a :: st, M) Q = yp (M.2.2 a) a 9 20 v X d 142 87 L st M Q := G_putf rfl (by decide) rfl rfl rfl
theorem x142_87 : XX X d 142 (87, [some (.ref a)], st, M) Q = XX X d 142 (88, [some (.ref a)], .ref a :: st, M) Q := H_ld rfl rfl rfl rfl rfl
theorem x142_88 : XX X d 142 (88, L, st, M) Q = XX X d 142 (91, L, .int (ii 140) :: st, M) Q := G_cst rfl rfl rfl rfl rfl
theorem x142_91 (h : 0 ≤ p ∧ p ≤ 10000) : XX X d 142 (91, L, .int (ii p) :: st, M) Q = XX X d 142 (93, L, .ref M.1 :: st, mnew M p.toNat (AI p.toNat (fun _ => 0))) Q := H_newa rfl (by decide) rfl rfl rfl h
theorem x142_93 : XX X d 142 (93, L, v :: .ref a :: st, M) Q = yp (M.2.2 a) a 9 21 v X d 142 96 L st M Q := G_putf rfl (by decide) rfl rfl rfl
theorem x142_96 : XX X d 142 (96, [some (.ref a)], st, M) Q = XX X d 142 (97, [some (.ref a)], .ref a :: st, M) Q := H_ld rfl rfl rfl rfl rfl
theorem x142_97 : XX X d 142 (97, L, st, M) Q = XX X d 142 (100, L, .int (ii 140) :: st, M) Q := G_cst rfl rfl rfl rfl rfl
theorem x142_100 (h : 0 ≤ p ∧ p ≤ 10000) : XX X d 142 (100, L, .int (ii p) :: st, M) Q = XX X d 142 (102, L, .ref M.1 :: st, mnew M p.toNat (AI p.toNat (fun _ => 0))) Q := H_newa rfl (by decide) rfl rfl rfl h
theorem x142_102 : XX X d 142 (102, L, v :: .ref a :: st, M) Q = yp (M.2.2 a) a 9 22 v X d 142 105 L st M Q := G_putf rfl (by decide) rfl rfl rfl
theorem x142_105 : XX X d 142 (105, [some (.ref a)], st, M) Q = XX X d 142 (106, [some (.ref a)], .ref a :: st, M) Q := H_ld rfl rfl rfl rfl rfl
theorem x142_106 : XX X d 142 (106, L, st, M) Q = XX X d 142 (109, L, .int (ii 140) :: st, M) Q := G_cst rfl rfl rfl rfl rfl
theorem x142_109 (h : 0 ≤ p ∧ p ≤ 10000) : XX X d 142 (109, L, .int (ii p) :: st, M) Q = XX X d 142 (111, L, .ref M.1 :: st, mnew M p.toNat (AI p.toNat (fun _ => 0))) Q := H_newa rfl (by decide) rfl rfl rfl h
theorem x142_111 : XX X d 142 (111, L, v :: .ref a :: st, M) Q = yp (M.2.2 a) a 9 23 v X d 142 114 L st M Q := G_putf rfl (by decide) rfl rfl rfl
theorem x142_114 : XX X d 142 (114, [some (.ref a)], st, M) Q = XX X d 142 (115, [some (.ref a)], .ref a :: st, M) Q := H_ld rfl rfl rfl rfl rfl
theorem x142_115 : XX X d 142 (115, L, st, M) Q = XX X d 142 (118, L, .int (ii 200) :: st, M) Q := G_cst rfl rfl rfl rfl rfl
theorem x142_118 (h : 0 ≤ p ∧ p ≤ 10000) : XX X d 142 (118, L, .int (ii p) :: st, M) Q = XX X d 142 (120, L, .ref M.1 :: st, mnew M p.toNat (AI p.toNat (fun _ => 0))) Q := H_newa rfl (by decide) rfl rfl rfl h
theorem x142_120 : XX X d 142 (120, L, v :: .ref a :: st, M) Q = yp (M.2.2 a) a 9 26 v X d 142 123 L st M Q := G_putf rfl (by decide) rfl rfl rfl
theorem x142_123 : XX X d 142 (123, [some (.ref a)], st, M) Q = XX X d 142 (124, [some (.ref a)], .ref a :: st, M) Q := H_ld rfl rfl rfl rfl rfl
theorem x142_124 : XX X d 142 (124, L, st, M) Q = XX X d 142 (127, L, .int (ii 200) :: st, M) Q := G_cst rfl rfl rfl rfl rfl
theorem x142_127 (h : 0 ≤ p ∧ p ≤ 10000) : XX X d 142 (127, L, .int (ii p) :: st, M) Q = XX X d 142 (129, L, .ref M.1 :: st, mnew M p.toNat (AI p.toNat (fun _ => 0))) Q := H_newa rfl (by decide) rfl rfl rfl h
theorem x142_129 : XX X d 142 (129, L, v :: .ref a :: st, M) Q = yp (M.2.2 a) a 9 27 v X d 142 132 L st M Q := G_putf rfl (by decide) rfl rfl rfl
theorem x142_132 : XX X d 142 (132, [some (.ref a)], st, M) Q = XX X d 142 (133, [some (.ref a)], .ref a :: st, M) Q := H_ld rfl rfl rfl rfl rfl
theorem x142_133 : XX X d 142 (133, L, st, M) Q = XX X d 142 (136, L, .int (ii 200) :: st, M) Q := G_cst rfl rfl rfl rfl rfl
theorem x142_136 (h : 0 ≤ p ∧ p ≤ 10000) : XX X d 142 (136, L, .int (ii p) :: st, M) Q = XX X d 142 (138, L, .ref M.1 :: st, mnew M p.toNat (AI p.toNat (fun _ => 0))) Q := H_newa rfl (by decide) rfl rfl rfl h
theorem x142_138 : XX X d 142 (138, L, v :: .ref a :: st, M) Q = yp (M.2.2 a) a 9 28 v X d 142 141 L st M Q := G_putf rfl (by decide) rfl rfl rfl
theorem x142_141 : XX X d 142 (141, [some (.ref a)], st, M) Q = XX X d 142 (142, [some (.ref a)], .ref a :: st, M) Q := H_ld rfl rfl rfl rfl rfl
theorem x142_142 : XX X d 142 (142, L, st, M) Q = XX X d 142 (145, L, .int (ii 8200) :: st, M) Q := G_cst rfl rfl rfl rfl rfl
theorem x142_145 (h : 0 ≤ p ∧ p ≤ 10000) : XX X d 142 (145, L, .int (ii p) :: st, M) Q = XX X d 142 (147, L, .ref M.1 :: st, mnew M p.toNat (AB p.toNat (fun _ => 0))) Q := H_newa rfl (by decide) rfl rfl rfl h
theorem x142_147 : XX X d 142 (147, L, v :: .ref a :: st, M) Q = yp (M.2.2 a) a 9 30 v X d 142 150 L st M Q := G_putf rfl (by decide) rfl rfl rfl
theorem x142_150 : XX X d 142 (150, [some (.ref a)], st, M) Q = XX X d 142 (151, [some (.ref a)], .ref a :: st, M) Q := H_ld rfl rfl rfl rfl rfl
theorem x142_151 : XX X d 142 (151, L, st, M) Q = XX X d 142 (153, L, .int (ii 10) :: st, M) Q := G_cst rfl rfl rfl rfl rfl
theorem x142_153 (h : 0 ≤ p ∧ p ≤ 10000) : XX X d 142 (153, L, .int (ii p) :: st, M) Q = XX X d 142 (155, L, .ref M.1 :: st, mnew M p.toNat (AI p.toNat (fun _ => 0))) Q := H_newa rfl (by decide) rfl rfl rfl h
theorem x142_155 : XX X d 142 (155, L, v :: .ref a :: st, M) Q = yp (M.2.2 a) a 9 31 v X d 142 158 L st M Q := G_putf rfl (by decide) rfl rfl rfl
theorem x142_158 : XX X d 142 (158, [some (.ref a)], st, M) Q = XX X d 142 (159, [some (.ref a)], .ref a :: st, M) Q := H_ld rfl rfl rfl rfl rfl
theorem x142_159 : XX X d 142 (159, L, st, M) Q = XX X d 142 (162, L, .int (ii 9000) :: st, M) Q := G_cst rfl rfl rfl rfl rfl
theorem x142_162 (h : 0 ≤ p ∧ p ≤ 10000) : XX X d 142 (162, L, .int (ii p) :: st, M) Q = XX X d 142 (164, L, .ref M.1 :: st, mnew M p.toNat (AI p.toNat (fun _ => 0))) Q := H_newa rfl (by decide) rfl rfl rfl h
theorem x142_164 : XX X d 142 (164, L, v :: .ref a :: st, M) Q = yp (M.2.2 a) a 9 32 v X d 142 167 L st M Q := G_putf rfl (by decide) rfl rfl rfl
theorem x142_167 : XX X d 142 (167, [some (.ref a)], st, M) Q = XX X d 142 (168, [some (.ref a)], .ref a :: st, M) Q := H_ld rfl rfl rfl rfl rfl
theorem x142_168 : XX X d 142 (168, L, st, M) Q = XX X d 142 (171, L, .int (ii 9000) :: st, M) Q := G_cst rfl rfl rfl rfl rfl
theorem x142_171 (h : 0 ≤ p ∧ p ≤ 10000) : XX X d 142 (171, L, .int (ii p) :: st, M) Q = XX X d 142 (173, L, .ref M.1 :: st, mnew M p.toNat (AI p.toNat (fun _ => 0))) Q := H_newa rfl (by decide) rfl rfl rfl h
theorem x142_173 : XX X d 142 (173, L, v :: .ref a :: st, M) Q = yp (M.2.2 a) a 9 33 v X d 142 176 L st M Q := G_putf rfl (by decide) rfl rfl rfl
theorem x142_176 : XX X d 142 (176, [some (.ref a)], st, M) Q = XX X d 142 (177, [some (.ref a)], .ref a :: st, M) Q := H_ld rfl rfl rfl rfl rfl
theorem x142_177 : XX X d 142 (177, L, st, M) Q = XX X d 142 (179, L, .int (ii 42) :: st, M) Q := G_cst rfl rfl rfl rfl rfl
theorem x142_179 (h : 0 ≤ p ∧ p ≤ 10000) : XX X d 142 (179, L, .int (ii p) :: st, M) Q = XX X d 142 (181, L, .ref M.1 :: st, mnew M p.toNat (AI p.toNat (fun _ => 0))) Q := H_newa rfl (by decide) rfl rfl rfl h
theorem x142_181 : XX X d 142 (181, L, v :: .ref a :: st, M) Q = yp (M.2.2 a) a 9 36 v X d 142 184 L st M Q := G_putf rfl (by decide) rfl rfl rfl
theorem x142_184 : XX X d 142 (184, [some (.ref a)], st, M) Q = XX X d 142 (185, [some (.ref a)], .ref a :: st, M) Q := H_ld rfl rfl rfl rfl rfl
theorem x142_185 : XX X d 142 (185, L, st, M) Q = XX X d 142 (187, L, .int (ii 42) :: st, M) Q := G_cst rfl rfl rfl rfl rfl
theorem x142_187 (h : 0 ≤ p ∧ p ≤ 10000) : XX X d 142 (187, L, .int (ii p) :: st, M) Q = XX X d 142 (189, L, .ref M.1 :: st, mnew M p.toNat (AI p.toNat (fun _ => 0))) Q := H_newa rfl (by decide) rfl rfl rfl h
theorem x142_189 : XX X d 142 (189, L, v :: .ref a :: st, M) Q = yp (M.2.2 a) a 9 37 v X d 142 192 L st M Q := G_putf rfl (by decide) rfl rfl rfl
theorem x142_192 : XX X d 142 (192, [some (.ref a)], st, M) Q = XX X d 142 (193, [some (.ref a)], .ref a :: st, M) Q := H_ld rfl rfl rfl rfl rfl
theorem x142_193 : XX X d 142 (193, L, st, M) Q = XX X d 142 (195, L, .int (ii 90) :: st, M) Q := G_cst rfl rfl rfl rfl rfl
theorem x142_195 (h : 0 ≤ p ∧ p ≤ 10000) : XX X d 142 (195, L, .int (ii p) :: st, M) Q = XX X d 142 (197, L, .ref M.1 :: st, mnew M p.toNat (AI p.toNat (fun _ => 0))) Q := H_newa rfl (by decide) rfl rfl rfl h
theorem x142_197 : XX X d 142 (197, L, v :: .ref a :: st, M) Q = yp (M.2.2 a) a 9 39 v X d 142 200 L st M Q := G_putf rfl (by decide) rfl rfl rfl
theorem x142_200 : XX X d 142 (200, [some (.ref a)], st, M) Q = XX X d 142 (201, [some (.ref a)], .ref a :: st, M) Q := H_ld rfl rfl rfl rfl rfl
theorem x142_201 : XX X d 142 (201, L, st, M) Q = XX X d 142 (202, L, .int (ii 4) :: st, M) Q := G_cst rfl rfl rfl rfl rfl
theorem x142_202 (h : 0 ≤ p ∧ p ≤ 10000) : XX X d 142 (202, L, .int (ii p) :: st, M) Q = XX X d 142 (204, L, .ref M.1 :: st, mnew M p.toNat (AI p.toNat (fun _ => 0))) Q := H_newa rfl (by decide) rfl rfl rfl h
theorem x142_204 : XX X d 142 (204, L, v :: .ref a :: st, M) Q = yp (M.2.2 a) a 9 40 v X d 142 207 L st M Q := G_putf rfl (by decide) rfl rfl rfl
theorem x142_207 : XX X d 142 (207, L, [], M) Q = Q (.inl none) M := G_retv rfl (by decide) rfl
theorem e142 : CC X d 142 [.ref a] M Q = XX X d 142 (0, [some (.ref a)], [], M) Q := H_ent rfl rfl
-- 143 X9_thrown ()I
theorem x143_0 : XX X d 143 (0, [some (.ref a)], st, M) Q = XX X d 143 (1, [some (.ref a)], .ref a :: st, M) Q := H_ld rfl rfl rfl rfl rfl
theorem x143_1 : XX X d 143 (1, L, .ref a :: st, M) Q = yg (M.2.2 a) 9 5 X d 143 4 L st M Q := G_getf rfl (by decide) rfl rfl rfl
theorem x143_4 : XX X d 143 (4, L, [.int (ii p)], M) Q = Q (.inl (some (.int (ii p)))) M := G_ret rfl ⟨⟨⟨rfl, rfl, rfl, by decide⟩, rfl, rfl⟩, rfl, rfl⟩ rfl
theorem e143 : CC X d 143 [.ref a] M Q = XX X d 143 (0, [some (.ref a)], [], M) Q := H_ent rfl rfl
-- 144 X9_fails (I)Z
theorem x144_0 : XX X d 144 (0, [some (.ref a), l1], st, M) Q = XX X d 144 (1, [some (.ref a), l1], .ref a :: st, M) Q := H_ld rfl rfl rfl rfl rfl
theorem x144_1 : XX X d 144 (1, [l0, some (.int x)], st, M) Q = XX X d 144 (2, [l0, some (.int x)], .int x :: st, M) Q := H_ld rfl rfl rfl rfl rfl
theorem x144_2 : XX X d 144 (2, L, v :: .ref a :: st, M) Q = yp (M.2.2 a) a 9 5 v X d 144 5 L st M Q := G_putf rfl (by decide) rfl rfl rfl
theorem x144_5 : XX X d 144 (5, [l0, some (.int x)], st, M) Q = XX X d 144 (6, [l0, some (.int x)], .int x :: st, M) Q := H_ld rfl rfl rfl rfl rfl
theorem x144_6 (h : -2147483648 ≤ p ∧ p ≤ 2147483647) : XX X d 144 (6, L, .int (ii p) :: st, M) Q = bq (p ≤ 0) X d 144 13 9 L st M Q := H_if rfl ⟨rfl, rfl, rfl, by decide⟩ rfl rfl rfl rfl (D_ge (b := 0) (by omega))
theorem x144_9 : XX X d 144 (9, L, st, M) Q = XX X d 144 (10, L, .int (ii 1) :: st, M) Q := G_cst rfl rfl rfl rfl rfl
theorem x144_10 : XX X d 144 (10, L, st, M) Q = XX X d 144 (14, L, st, M) Q := H_jmp rfl (by decide) rfl
theorem x144_13 : XX X d 144 (13, L, st, M) Q = XX X d 144 (14, L, .int (ii 0) :: st, M) Q := G_cst rfl rfl rfl rfl rfl
theorem x144_14 (h : p = 0 ∨ p = 1) : XX X d 144 (14, L, [.int (ii p)], M) Q = Q (.inl (some (.int (ii p)))) M := G_ret rfl ⟨⟨⟨rfl, rfl, rfl, by decide⟩, rfl, rfl⟩, rfl, rfl⟩ (bz_ok h)
theorem e144 : CC X d 144 [.ref a, .int x] M Q = XX X d 144 (0, [some (.ref a), some (.int x)], [], M) Q := H_ent rfl rfl
-- 145 X9_in (III)Z
theorem x145_0 : XX X d 145 (0, [some (.int x), l1, l2], st, M) Q = XX X d 145 (1, [some (.int x), l1, l2], .int x :: st, M) Q := H_ld rfl rfl rfl rfl rfl
theorem x145_1 : XX X d 145 (1, [l0, some (.int x), l2], st, M) Q = XX X d 145 (2, [l0, some (.int x), l2], .int x :: st, M) Q := H_ld rfl rfl rfl rfl rfl
theorem x145_2 (h : -2147483648 ≤ p ∧ p ≤ 2147483647 ∧ -2147483648 ≤ q ∧ q ≤ 2147483647) : XX X d 145 (2, L, .int (ii q) :: .int (ii p) :: st, M) Q = bq (p < q) X d 145 14 5 L st M Q := H_if2 rfl ⟨rfl, rfl, rfl, by decide⟩ rfl rfl rfl rfl (D_lt h)
theorem x145_5 : XX X d 145 (5, [some (.int x), l1, l2], st, M) Q = XX X d 145 (6, [some (.int x), l1, l2], .int x :: st, M) Q := H_ld rfl rfl rfl rfl rfl
theorem x145_6 : XX X d 145 (6, [l0, l1, some (.int x)], st, M) Q = XX X d 145 (7, [l0, l1, some (.int x)], .int x :: st, M) Q := H_ld rfl rfl rfl rfl rfl
theorem x145_7 (h : -2147483648 ≤ p ∧ p ≤ 2147483647 ∧ -2147483648 ≤ q ∧ q ≤ 2147483647) : XX X d 145 (7, L, .int (ii q) :: .int (ii p) :: st, M) Q = bq (q < p) X d 145 14 10 L st M Q := H_if2 rfl ⟨rfl, rfl, rfl, by decide⟩ rfl rfl rfl rfl (D_gt h)
theorem x145_10 : XX X d 145 (10, L, st, M) Q = XX X d 145 (11, L, .int (ii 1) :: st, M) Q := G_cst rfl rfl rfl rfl rfl
theorem x145_11 : XX X d 145 (11, L, st, M) Q = XX X d 145 (15, L, st, M) Q := H_jmp rfl (by decide) rfl
theorem x145_14 : XX X d 145 (14, L, st, M) Q = XX X d 145 (15, L, .int (ii 0) :: st, M) Q := G_cst rfl rfl rfl rfl rfl
theorem x145_15 (h : p = 0 ∨ p = 1) : XX X d 145 (15, L, [.int (ii p)], M) Q = Q (.inl (some (.int (ii p)))) M := G_ret rfl ⟨⟨⟨rfl, rfl, rfl, by decide⟩, rfl, rfl⟩, rfl, rfl⟩ (bz_ok h)
theorem e145 : CC X d 145 [.int x, .int x2, .int x3] M Q = XX X d 145 (0, [some (.int x), some (.int x2), some (.int x3)], [], M) Q := H_ent rfl rfl
-- 146 X9_least (II)I
theorem x146_0 : XX X d 146 (0, [some (.int x), l1], st, M) Q = XX X d 146 (1, [some (.int x), l1], .int x :: st, M) Q := H_ld rfl rfl rfl rfl rfl
theorem x146_1 : XX X d 146 (1, [l0, some (.int x)], st, M) Q = XX X d 146 (2, [l0, some (.int x)], .int x :: st, M) Q := H_ld rfl rfl rfl rfl rfl
theorem x146_2 (h : -2147483648 ≤ p ∧ p ≤ 2147483647 ∧ -2147483648 ≤ q ∧ q ≤ 2147483647) : XX X d 146 (2, L, .int (ii q) :: .int (ii p) :: st, M) Q = bq (q ≤ p) X d 146 9 5 L st M Q := H_if2 rfl ⟨rfl, rfl, rfl, by decide⟩ rfl rfl rfl rfl (D_le h)
theorem x146_5 : XX X d 146 (5, [some (.int x), l1], st, M) Q = XX X d 146 (6, [some (.int x), l1], .int x :: st, M) Q := H_ld rfl rfl rfl rfl rfl
theorem x146_6 : XX X d 146 (6, L, st, M) Q = XX X d 146 (10, L, st, M) Q := H_jmp rfl (by decide) rfl
theorem x146_9 : XX X d 146 (9, [l0, some (.int x)], st, M) Q = XX X d 146 (10, [l0, some (.int x)], .int x :: st, M) Q := H_ld rfl rfl rfl rfl rfl
theorem x146_10 : XX X d 146 (10, L, [.int (ii p)], M) Q = Q (.inl (some (.int (ii p)))) M := G_ret rfl ⟨⟨⟨rfl, rfl, rfl, by decide⟩, rfl, rfl⟩, rfl, rfl⟩ rfl
theorem e146 : CC X d 146 [.int x, .int x2] M Q = XX X d 146 (0, [some (.int x), some (.int x2)], [], M) Q := H_ent rfl rfl
-- 147 X9_most (II)I
theorem x147_0 : XX X d 147 (0, [some (.int x), l1], st, M) Q = XX X d 147 (1, [some (.int x), l1], .int x :: st, M) Q := H_ld rfl rfl rfl rfl rfl
theorem x147_1 : XX X d 147 (1, [l0, some (.int x)], st, M) Q = XX X d 147 (2, [l0, some (.int x)], .int x :: st, M) Q := H_ld rfl rfl rfl rfl rfl
theorem x147_2 (h : -2147483648 ≤ p ∧ p ≤ 2147483647 ∧ -2147483648 ≤ q ∧ q ≤ 2147483647) : XX X d 147 (2, L, .int (ii q) :: .int (ii p) :: st, M) Q = bq (p ≤ q) X d 147 9 5 L st M Q := H_if2 rfl ⟨rfl, rfl, rfl, by decide⟩ rfl rfl rfl rfl (D_ge h)
theorem x147_5 : XX X d 147 (5, [some (.int x), l1], st, M) Q = XX X d 147 (6, [some (.int x), l1], .int x :: st, M) Q := H_ld rfl rfl rfl rfl rfl
theorem x147_6 : XX X d 147 (6, L, st, M) Q = XX X d 147 (10, L, st, M) Q := H_jmp rfl (by decide) rfl
theorem x147_9 : XX X d 147 (9, [l0, some (.int x)], st, M) Q = XX X d 147 (10, [l0, some (.int x)], .int x :: st, M) Q := H_ld rfl rfl rfl rfl rfl
theorem x147_10 : XX X d 147 (10, L, [.int (ii p)], M) Q = Q (.inl (some (.int (ii p)))) M := G_ret rfl ⟨⟨⟨rfl, rfl, rfl, by decide⟩, rfl, rfl⟩, rfl, rfl⟩ rfl
theorem e147 : CC X d 147 [.int x, .int x2] M Q = XX X d 147 (0, [some (.int x), some (.int x2)], [], M) Q := H_ent rfl rfl
-- 148 X9_copies ([II[II)V
theorem x148_0 : XX X d 148 (0, L, st, M) Q = XX X d 148 (1, L, .int (ii 0) :: st, M) Q := G_cst rfl rfl rfl rfl rfl
theorem x148_1 (h : wide (some l3) = false) : XX X d 148 (1, [l0, l1, l2, l3, l4], .int x :: st, M) Q = XX X d 148 (3, [l0, l1, l2, l3, some (.int x)], st, M) Q := H_st rfl rfl rfl rfl rfl rfl rfl rfl (Or.inr h)
theorem x148_3 : XX X d 148 (3, [l0, l1, l2, l3, some (.int x)], st, M) Q = XX X d 148 (5, [l0, l1, l2, l3, some (.int x)], .int x :: st, M) Q := H_ld rfl rfl rfl rfl rfl
theorem x148_5 : XX X d 148 (5, L, st, M) Q = XX X d 148 (8, L, .int (ii 166) :: st, M) Q := G_cst rfl rfl rfl rfl rfl
theorem x148_8 (h : -2147483648 ≤ p ∧ p ≤ 2147483647 ∧ -2147483648 ≤ q ∧ q ≤ 2147483647) : XX X d 148 (8, L, .int (ii q) :: .int (ii p) :: st, M) Q = bq (q ≤ p) X d 148 29 11 L st M Q := H_if2 rfl ⟨rfl, rfl, rfl, by decide⟩ rfl rfl rfl rfl (D_le h)
theorem x148_11 : XX X d 148 (11, [l0, l1, some (.ref a), l3, l4], st, M) Q = XX X d 148 (12, [l0, l1, some (.ref a), l3, l4], .ref a :: st, M) Q := H_ld rfl rfl rfl rfl rfl
theorem x148_12 : XX X d 148 (12, [l0, l1, l2, some (.int x), l4], st, M) Q = XX X d 148 (13, [l0, l1, l2, some (.int x), l4], .int x :: st, M) Q := H_ld rfl rfl rfl rfl rfl
theorem x148_13 : XX X d 148 (13, [l0, l1, l2, l3, some (.int x)], st, M) Q = XX X d 148 (15, [l0, l1, l2, l3, some (.int x)], .int x :: st, M) Q := H_ld rfl rfl rfl rfl rfl
theorem x148_15 : XX X d 148 (15, L, .int (ii q) :: .int (ii p) :: st, M) Q = XX X d 148 (16, L, .int (ii (p + q)) :: st, M) Q := H_add rfl (by decide) rfl
theorem x148_16 : XX X d 148 (16, [some (.ref a), l1, l2, l3, l4], st, M) Q = XX X d 148 (17, [some (.ref a), l1, l2, l3, l4], .ref a :: st, M) Q := H_ld rfl rfl rfl rfl rfl
theorem x148_17 : XX X d 148 (17, [l0, some (.int x), l2, l3, l4], st, M) Q = XX X d 148 (18, [l0, some (.int x), l2, l3, l4], .int x :: st, M) Q := H_ld rfl rfl rfl rfl rfl
theorem x148_18 : XX X d 148 (18, [l0, l1, l2, l3, some (.int x)], st, M) Q = XX X d 148 (20, [l0, l1, l2, l3, some (.int x)], .int x :: st, M) Q := H_ld rfl rfl rfl rfl rfl
theorem x148_20 : XX X d 148 (20, L, .int (ii q) :: .int (ii p) :: st, M) Q = XX X d 148 (21, L, .int (ii (p + q)) :: st, M) Q := H_add rfl (by decide) rfl
theorem x148_21 : XX X d 148 (21, L, .int x :: .ref a :: st, M) Q = ya (M.2.2 a) .iaload x X d 148 22 L st M Q := G_ald rfl ⟨⟨rfl, rfl, rfl, by decide⟩, rfl, rfl⟩ rfl rfl
theorem x148_22 : XX X d 148 (22, L, v :: .int x :: .ref a :: st, M) Q = yw (M.2.2 a) a .iastore v x X d 148 23 L st M Q := G_ast rfl ⟨⟨rfl, rfl, rfl, by decide⟩, rfl, rfl⟩ rfl rfl rfl
theorem x148_23 (h : wide (some l3) = false) : XX X d 148 (23, [l0, l1, l2, l3, some (.int (ii p))], st, M) Q = XX X d 148 (26, [l0, l1, l2, l3, some (.int (ii (p + 1)))], st, M) Q := H_inc rfl (by decide) rfl rfl rfl (Or.inr h)
theorem x148_26 : XX X d 148 (26, L, st, M) Q = XX X d 148 (3, L, st, M) Q := H_jmp rfl (by decide) rfl
theorem x148_29 : XX X d 148 (29, L, [], M) Q = Q (.inl none) M := G_retv rfl (by decide) rfl
theorem e148 : CC X d 148 [.ref a1, .int x, .ref a2, .int x2] M Q = XX X d 148 (0, [some (.ref a1), some (.int x), some (.ref a2), some (.int x2), none], [], M) Q := H_ent rfl rfl
-- 149 X9_keeps ()V
theorem x149_0 : XX X d 149 (0, [some (.ref a), l1], st, M) Q = XX X d 149 (1, [some (.ref a), l1], .ref a :: st, M) Q := H_ld rfl rfl rfl rfl rfl
theorem x149_1 : XX X d 149 (1, L, st, M) Q = XX X d 149 (2, L, .int (ii 0) :: st, M) Q := G_cst rfl rfl rfl rfl rfl
theorem x149_2 : XX X d 149 (2, L, v :: .ref a :: st, M) Q = yp (M.2.2 a) a 9 5 v X d 149 5 L st M Q := G_putf rfl (by decide) rfl rfl rfl
theorem x149_5 : XX X d 149 (5, [some (.ref a), l1], st, M) Q = XX X d 149 (6, [some (.ref a), l1], .ref a :: st, M) Q := H_ld rfl rfl rfl rfl rfl
theorem x149_6 : XX X d 149 (6, L, .ref a :: st, M) Q = yg (M.2.2 a) 9 4 X d 149 9 L st M Q := G_getf rfl (by decide) rfl rfl rfl
theorem x149_9 : XX X d 149 (9, L, st, M) Q = XX X d 149 (11, L, .int (ii 8) :: st, M) Q := G_cst rfl rfl rfl rfl rfl
theorem x149_11 (h : -2147483648 ≤ p ∧ p ≤ 2147483647 ∧ -2147483648 ≤ q ∧ q ≤ 2147483647) : XX X d 149 (11, L, .int (ii q) :: .int (ii p) :: st, M) Q = bq (p ≠ q) X d 149 55 14 L st M Q := H_if2 rfl ⟨rfl, rfl, rfl, by decide⟩ rfl rfl rfl rfl (D_ne h)
theorem x149_14 : XX X d 149 (14, L, st, M) Q = XX X d 149 (15, L, .int (ii 0) :: st, M) Q := G_cst rfl rfl rfl rfl rfl
theorem x149_15 (h : wide (some l0) = false) : XX X d 149 (15, [l0, l1], .int x :: st, M) Q = XX X d 149 (16, [l0, some (.int x)], st, M) Q := H_st rfl rfl rfl rfl rfl rfl rfl rfl (Or.inr h)
theorem x149_16 : XX X d 149 (16, [l0, some (.int x)], st, M) Q = XX X d 149 (17, [l0, some (.int x)], .int x :: st, M) Q := H_ld rfl rfl rfl rfl rfl
theorem x149_17 : XX X d 149 (17, L, st, M) Q = XX X d 149 (20, L, .int (ii 1162) :: st, M) Q := G_cst rfl rfl rfl rfl rfl
theorem x149_20 (h : -2147483648 ≤ p ∧ p ≤ 2147483647 ∧ -2147483648 ≤ q ∧ q ≤ 2147483647) : XX X d 149 (20, L, .int (ii q) :: .int (ii p) :: st, M) Q = bq (q ≤ p) X d 149 45 23 L st M Q := H_if2 rfl ⟨rfl, rfl, rfl, by decide⟩ rfl rfl rfl rfl (D_le h)
theorem x149_23 : XX X d 149 (23, [some (.ref a), l1], st, M) Q = XX X d 149 (24, [some (.ref a), l1], .ref a :: st, M) Q := H_ld rfl rfl rfl rfl rfl
theorem x149_24 : XX X d 149 (24, L, .ref a :: st, M) Q = yg (M.2.2 a) 9 1 X d 149 27 L st M Q := G_getf rfl (by decide) rfl rfl rfl
theorem x149_27 : XX X d 149 (27, [l0, some (.int x)], st, M) Q = XX X d 149 (28, [l0, some (.int x)], .int x :: st, M) Q := H_ld rfl rfl rfl rfl rfl
theorem x149_28 : XX X d 149 (28, [some (.ref a), l1], st, M) Q = XX X d 149 (29, [some (.ref a), l1], .ref a :: st, M) Q := H_ld rfl rfl rfl rfl rfl
theorem x149_29 : XX X d 149 (29, L, .ref a :: st, M) Q = yg (M.2.2 a) 9 1 X d 149 32 L st M Q := G_getf rfl (by decide) rfl rfl rfl
theorem x149_32 : XX X d 149 (32, [l0, some (.int x)], st, M) Q = XX X d 149 (33, [l0, some (.int x)], .int x :: st, M) Q := H_ld rfl rfl rfl rfl rfl
theorem x149_33 : XX X d 149 (33, L, st, M) Q = XX X d 149 (36, L, .int (ii 166) :: st, M) Q := G_cst rfl rfl rfl rfl rfl
theorem x149_36 : XX X d 149 (36, L, .int (ii q) :: .int (ii p) :: st, M) Q = XX X d 149 (37, L, .int (ii (p + q)) :: st, M) Q := H_add rfl (by decide) rfl
theorem x149_37 : XX X d 149 (37, L, .int x :: .ref a :: st, M) Q = ya (M.2.2 a) .iaload x X d 149 38 L st M Q := G_ald rfl ⟨⟨rfl, rfl, rfl, by decide⟩, rfl, rfl⟩ rfl rfl
theorem x149_38 : XX X d 149 (38, L, v :: .int x :: .ref a :: st, M) Q = yw (M.2.2 a) a .iastore v x X d 149 39 L st M Q := G_ast rfl ⟨⟨rfl, rfl, rfl, by decide⟩, rfl, rfl⟩ rfl rfl rfl
theorem x149_39 (h : wide (some l0) = false) : XX X d 149 (39, [l0, some (.int (ii p))], st, M) Q = XX X d 149 (42, [l0, some (.int (ii (p + 1)))], st, M) Q := H_inc rfl (by decide) rfl rfl rfl (Or.inr h)
theorem x149_42 : XX X d 149 (42, L, st, M) Q = XX X d 149 (16, L, st, M) Q := H_jmp rfl (by decide) rfl
theorem x149_45 : XX X d 149 (45, [some (.ref a), l1], st, M) Q = XX X d 149 (46, [some (.ref a), l1], .ref a :: st, M) Q := H_ld rfl rfl rfl rfl rfl
theorem x149_46 (h : v.category = 1) : XX X d 149 (46, L, v :: st, M) Q = XX X d 149 (47, L, v :: v :: st, M) Q := G_sop rfl ⟨rfl, rfl, rfl, by decide⟩ (if_pos h) rfl
theorem x149_47 : XX X d 149 (47, L, .ref a :: st, M) Q = yg (M.2.2 a) 9 4 X d 149 50 L st M Q := G_getf rfl (by decide) rfl rfl rfl
theorem x149_50 : XX X d 149 (50, L, st, M) Q = XX X d 149 (51, L, .int (ii 1) :: st, M) Q := G_cst rfl rfl rfl rfl rfl
theorem x149_51 : XX X d 149 (51, L, .int (ii q) :: .int (ii p) :: st, M) Q = XX X d 149 (52, L, .int (ii (p - q)) :: st, M) Q := H_sub rfl (by decide) rfl
theorem x149_52 : XX X d 149 (52, L, v :: .ref a :: st, M) Q = yp (M.2.2 a) a 9 4 v X d 149 55 L st M Q := G_putf rfl (by decide) rfl rfl rfl
theorem x149_55 : XX X d 149 (55, [some (.ref a), l1], st, M) Q = XX X d 149 (56, [some (.ref a), l1], .ref a :: st, M) Q := H_ld rfl rfl rfl rfl rfl
theorem x149_56 : XX X d 149 (56, L, .ref a :: st, M) Q = yg (M.2.2 a) 9 0 X d 149 59 L st M Q := G_getf rfl (by decide) rfl rfl rfl
theorem x149_59 : XX X d 149 (59, L, st, M) Q = XX X d 149 (60, L, .int (ii 0) :: st, M) Q := G_cst rfl rfl rfl rfl rfl
theorem x149_60 : XX X d 149 (60, [some (.ref a), l1], st, M) Q = XX X d 149 (61, [some (.ref a), l1], .ref a :: st, M) Q := H_ld rfl rfl rfl rfl rfl
theorem x149_61 : XX X d 149 (61, L, .ref a :: st, M) Q = yg (M.2.2 a) 9 1 X d 149 64 L st M Q := G_getf rfl (by decide) rfl rfl rfl
theorem x149_64 : XX X d 149 (64, L, st, M) Q = XX X d 149 (67, L, .int (ii 166) :: st, M) Q := G_cst rfl rfl rfl rfl rfl
theorem x149_67 : XX X d 149 (67, [some (.ref a), l1], st, M) Q = XX X d 149 (68, [some (.ref a), l1], .ref a :: st, M) Q := H_ld rfl rfl rfl rfl rfl
theorem x149_68 : XX X d 149 (68, L, .ref a :: st, M) Q = yg (M.2.2 a) 9 4 X d 149 71 L st M Q := G_getf rfl (by decide) rfl rfl rfl
theorem x149_71 : XX X d 149 (71, L, .int (ii q) :: .int (ii p) :: st, M) Q = XX X d 149 (72, L, .int (ii (p * q)) :: st, M) Q := H_mul rfl (by decide) rfl
theorem x149_72 {v1 v2 v3 v4 : Value} (hd : 0 < d) (hs : stB st = true) : XX X d 149 (72, L, v4 :: v3 :: v2 :: v1 :: st, M) Q = CC X (d - 1) 148 [v1, v2, v3, v4] M (XC X d 149 72 75 L st Q) := H_static [v1, v2, v3, v4] rfl (by decide) rfl rfl (by decide) rfl rfl hd hs
theorem x149_75 : XX X d 149 (75, [some (.ref a), l1], st, M) Q = XX X d 149 (76, [some (.ref a), l1], .ref a :: st, M) Q := H_ld rfl rfl rfl rfl rfl
theorem x149_76 (h : v.category = 1) : XX X d 149 (76, L, v :: st, M) Q = XX X d 149 (77, L, v :: v :: st, M) Q := G_sop rfl ⟨rfl, rfl, rfl, by decide⟩ (if_pos h) rfl
theorem x149_77 : XX X d 149 (77, L, .ref a :: st, M) Q = yg (M.2.2 a) 9 4 X d 149 80 L st M Q := G_getf rfl (by decide) rfl rfl rfl
theorem x149_80 : XX X d 149 (80, L, st, M) Q = XX X d 149 (81, L, .int (ii 1) :: st, M) Q := G_cst rfl rfl rfl rfl rfl
theorem x149_81 : XX X d 149 (81, L, .int (ii q) :: .int (ii p) :: st, M) Q = XX X d 149 (82, L, .int (ii (p + q)) :: st, M) Q := H_add rfl (by decide) rfl
theorem x149_82 : XX X d 149 (82, L, v :: .ref a :: st, M) Q = yp (M.2.2 a) a 9 4 v X d 149 85 L st M Q := G_putf rfl (by decide) rfl rfl rfl
theorem x149_85 : XX X d 149 (85, L, [], M) Q = Q (.inl none) M := G_retv rfl (by decide) rfl
theorem e149 : CC X d 149 [.ref a] M Q = XX X d 149 (0, [some (.ref a), none], [], M) Q := H_ent rfl rfl
-- 150 X9_here ()I
theorem x150_0 : XX X d 150 (0, [some (.ref a)], st, M) Q = XX X d 150 (1, [some (.ref a)], .ref a :: st, M) Q := H_ld rfl rfl rfl rfl rfl
theorem x150_1 : XX X d 150 (1, L, .ref a :: st, M) Q = yg (M.2.2 a) 9 17 X d 150 4 L st M Q := G_getf rfl (by decide) rfl rfl rfl
theorem x150_4 : XX X d 150 (4, [some (.ref a)], st, M) Q = XX X d 150 (5, [some (.ref a)], .ref a :: st, M) Q := H_ld rfl rfl rfl rfl rfl
theorem x150_5 : XX X d 150 (5, L, .ref a :: st, M) Q = yg (M.2.2 a) 9 16 X d 150 8 L st M Q := G_getf rfl (by decide) rfl rfl rfl
theorem x150_8 (h : -2147483648 ≤ p ∧ p ≤ 2147483647 ∧ -2147483648 ≤ q ∧ q ≤ 2147483647) : XX X d 150 (8, L, .int (ii q) :: .int (ii p) :: st, M) Q = bq (q ≤ p) X d 150 23 11 L st M Q := H_if2 rfl ⟨rfl, rfl, rfl, by decide⟩ rfl rfl rfl rfl (D_le h)
theorem x150_11 : XX X d 150 (11, [some (.ref a)], st, M) Q = XX X d 150 (12, [some (.ref a)], .ref a :: st, M) Q := H_ld rfl rfl rfl rfl rfl
theorem x150_12 : XX X d 150 (12, L, .ref a :: st, M) Q = yg (M.2.2 a) 9 15 X d 150 15 L st M Q := G_getf rfl (by decide) rfl rfl rfl
theorem x150_15 : XX X d 150 (15, [some (.ref a)], st, M) Q = XX X d 150 (16, [some (.ref a)], .ref a :: st, M) Q := H_ld rfl rfl rfl rfl rfl
theorem x150_16 : XX X d 150 (16, L, .ref a :: st, M) Q = yg (M.2.2 a) 9 17 X d 150 19 L st M Q := G_getf rfl (by decide) rfl rfl rfl
theorem x150_19 : XX X d 150 (19, L, .int x :: .ref a :: st, M) Q = ya (M.2.2 a) .iaload x X d 150 20 L st M Q := G_ald rfl ⟨⟨rfl, rfl, rfl, by decide⟩, rfl, rfl⟩ rfl rfl
theorem x150_20 : XX X d 150 (20, L, st, M) Q = XX X d 150 (24, L, st, M) Q := H_jmp rfl (by decide) rfl
theorem x150_23 : XX X d 150 (23, L, st, M) Q = XX X d 150 (24, L, .int (ii (-1)) :: st, M) Q := G_cst rfl rfl rfl rfl rfl
theorem x150_24 : XX X d 150 (24, L, [.int (ii p)], M) Q = Q (.inl (some (.int (ii p)))) M := G_ret rfl ⟨⟨⟨rfl, rfl, rfl, by decide⟩, rfl, rfl⟩, rfl, rfl⟩ rfl
theorem e150 : CC X d 150 [.ref a] M Q = XX X d 150 (0, [some (.ref a)], [], M) Q := H_ent rfl rfl
-- 151 X9_isSign (I)Z
theorem x151_0 : XX X d 151 (0, [some (.int x)], st, M) Q = XX X d 151 (1, [some (.int x)], .int x :: st, M) Q := H_ld rfl rfl rfl rfl rfl
theorem x151_1 : XX X d 151 (1, L, st, M) Q = XX X d 151 (3, L, .int (ii 97) :: st, M) Q := G_cst rfl rfl rfl rfl rfl
theorem x151_3 : XX X d 151 (3, L, st, M) Q = XX X d 151 (5, L, .int (ii 122) :: st, M) Q := G_cst rfl rfl rfl rfl rfl
theorem x151_5 {v1 v2 v3 : Value} (hd : 0 < d) (hs : stB st = true) : XX X d 151 (5, L, v3 :: v2 :: v1 :: st, M) Q = CC X (d - 1) 145 [v1, v2, v3] M (XC X d 151 5 8 L st Q) := H_static [v1, v2, v3] rfl (by decide) rfl rfl (by decide) rfl rfl hd hs
theorem x151_8 (h : -2147483648 ≤ p ∧ p ≤ 2147483647) : XX X d 151 (8, L, .int (ii p) :: st, M) Q = bq (p ≠ 0) X d 151 28 11 L st M Q := H_if rfl ⟨rfl, rfl, rfl, by decide⟩ rfl rfl rfl rfl (D_ne (b := 0) (by omega))
theorem x151_8b : XX X d 151 (8, L, .int (ii (b2i b)) :: st, M) Q = bq (b = true) X d 151 28 11 L st M Q := (x151_8 (b2i_r b)).trans (by rw [b2i_n0])
theorem x151_11 : XX X d 151 (11, [some (.int x)], st, M) Q = XX X d 151 (12, [some (.int x)], .int x :: st, M) Q := H_ld rfl rfl rfl rfl rfl
theorem x151_12 : XX X d 151 (12, L, st, M) Q = XX X d 151 (14, L, .int (ii 48) :: st, M) Q := G_cst rfl rfl rfl rfl rfl
theorem x151_14 : XX X d 151 (14, L, st, M) Q = XX X d 151 (16, L, .int (ii 57) :: st, M) Q := G_cst rfl rfl rfl rfl rfl
theorem x151_16 {v1 v2 v3 : Value} (hd : 0 < d) (hs : stB st = true) : XX X d 151 (16, L, v3 :: v2 :: v1 :: st, M) Q = CC X (d - 1) 145 [v1, v2, v3] M (XC X d 151 16 19 L st Q) := H_static [v1, v2, v3] rfl (by decide) rfl rfl (by decide) rfl rfl hd hs
theorem x151_19 (h : -2147483648 ≤ p ∧ p ≤ 2147483647) : XX X d 151 (19, L, .int (ii p) :: st, M) Q = bq (p ≠ 0) X d 151 28 22 L st M Q := H_if rfl ⟨rfl, rfl, rfl, by decide⟩ rfl rfl rfl rfl (D_ne (b := 0) (by omega))
theorem x151_19b : XX X d 151 (19, L, .int (ii (b2i b)) :: st, M) Q = bq (b = true) X d 151 28 22 L st M Q := (x151_19 (b2i_r b)).trans (by rw [b2i_n0])
theorem x151_22 : XX X d 151 (22, [some (.int x)], st, M) Q = XX X d 151 (23, [some (.int x)], .int x :: st, M) Q := H_ld rfl rfl rfl rfl rfl
theorem x151_23 : XX X d 151 (23, L, st, M) Q = XX X d 151 (25, L, .int (ii 32) :: st, M) Q := G_cst rfl rfl rfl rfl rfl
theorem x151_25 (h : -2147483648 ≤ p ∧ p ≤ 2147483647 ∧ -2147483648 ≤ q ∧ q ≤ 2147483647) : XX X d 151 (25, L, .int (ii q) :: .int (ii p) :: st, M) Q = bq (p ≠ q) X d 151 32 28 L st M Q := H_if2 rfl ⟨rfl, rfl, rfl, by decide⟩ rfl rfl rfl rfl (D_ne h)
theorem x151_28 : XX X d 151 (28, L, st, M) Q = XX X d 151 (29, L, .int (ii 1) :: st, M) Q := G_cst rfl rfl rfl rfl rfl
theorem x151_29 : XX X d 151 (29, L, st, M) Q = XX X d 151 (33, L, st, M) Q := H_jmp rfl (by decide) rfl
theorem x151_32 : XX X d 151 (32, L, st, M) Q = XX X d 151 (33, L, .int (ii 0) :: st, M) Q := G_cst rfl rfl rfl rfl rfl
theorem x151_33 (h : p = 0 ∨ p = 1) : XX X d 151 (33, L, [.int (ii p)], M) Q = Q (.inl (some (.int (ii p)))) M := G_ret rfl ⟨⟨⟨rfl, rfl, rfl, by decide⟩, rfl, rfl⟩, rfl, rfl⟩ (bz_ok h)
theorem e151 : CC X d 151 [.int x] M Q = XX X d 151 (0, [some (.int x)], [], M) Q := H_ent rfl rfl
-- 152 X9_grows (IIIII)I
theorem x152_0 : XX X d 152 (0, [some (.ref a), l1, l2, l3, l4, l5], st, M) Q = XX X d 152 (1, [some (.ref a), l1, l2, l3, l4, l5], .ref a :: st, M) Q := H_ld rfl rfl rfl rfl rfl
theorem x152_1 : XX X d 152 (1, L, .ref a :: st, M) Q = yg (M.2.2 a) 9 19 X d 152 4 L st M Q := G_getf rfl (by decide) rfl rfl rfl
theorem x152_4 : XX X d 152 (4, [some (.ref a), l1, l2, l3, l4, l5], st, M) Q = XX X d 152 (5, [some (.ref a), l1, l2, l3, l4, l5], .ref a :: st, M) Q := H_ld rfl rfl rfl rfl rfl
theorem x152_5 : XX X d 152 (5, L, .ref a :: st, M) Q = yg (M.2.2 a) 9 24 X d 152 8 L st M Q := G_getf rfl (by decide) rfl rfl rfl
theorem x152_8 : XX X d 152 (8, [l0, some (.int x), l2, l3, l4, l5], st, M) Q = XX X d 152 (9, [l0, some (.int x), l2, l3, l4, l5], .int x :: st, M) Q := H_ld rfl rfl rfl rfl rfl
theorem x152_9 : XX X d 152 (9, L, v :: .int x :: .ref a :: st, M) Q = yw (M.2.2 a) a .iastore v x X d 152 10 L st M Q := G_ast rfl ⟨⟨rfl, rfl, rfl, by decide⟩, rfl, rfl⟩ rfl rfl rfl
theorem x152_10 : XX X d 152 (10, [some (.ref a), l1, l2, l3, l4, l5], st, M) Q = XX X d 152 (11, [some (.ref a), l1, l2, l3, l4, l5], .ref a :: st, M) Q := H_ld rfl rfl rfl rfl rfl
theorem x152_11 : XX X d 152 (11, L, .ref a :: st, M) Q = yg (M.2.2 a) 9 20 X d 152 14 L st M Q := G_getf rfl (by decide) rfl rfl rfl
theorem x152_14 : XX X d 152 (14, [some (.ref a), l1, l2, l3, l4, l5], st, M) Q = XX X d 152 (15, [some (.ref a), l1, l2, l3, l4, l5], .ref a :: st, M) Q := H_ld rfl rfl rfl rfl rfl
theorem x152_15 : XX X d 152 (15, L, .ref a :: st, M) Q = yg (M.2.2 a) 9 24 X d 152 18 L st M Q := G_getf rfl (by decide) rfl rfl rfl
theorem x152_18 : XX X d 152 (18, [l0, l1, some (.int x), l3, l4, l5], st, M) Q = XX X d 152 (19, [l0, l1, some (.int x), l3, l4, l5], .int x :: st, M) Q := H_ld rfl rfl rfl rfl rfl
theorem x152_19 : XX X d 152 (19, L, v :: .int x :: .ref a :: st, M) Q = yw (M.2.2 a) a .iastore v x X d 152 20 L st M Q := G_ast rfl ⟨⟨rfl, rfl, rfl, by decide⟩, rfl, rfl⟩ rfl rfl rfl
theorem x152_20 : XX X d 152 (20, [some (.ref a), l1, l2, l3, l4, l5], st, M) Q = XX X d 152 (21, [some (.ref a), l1, l2, l3, l4, l5], .ref a :: st, M) Q := H_ld rfl rfl rfl rfl rfl
theorem x152_21 : XX X d 152 (21, L, .ref a :: st, M) Q = yg (M.2.2 a) 9 21 X d 152 24 L st M Q := G_getf rfl (by decide) rfl rfl rfl
theorem x152_24 : XX X d 152 (24, [some (.ref a), l1, l2, l3, l4, l5], st, M) Q = XX X d 152 (25, [some (.ref a), l1, l2, l3, l4, l5], .ref a :: st, M) Q := H_ld rfl rfl rfl rfl rfl
theorem x152_25 : XX X d 152 (25, L, .ref a :: st, M) Q = yg (M.2.2 a) 9 24 X d 152 28 L st M Q := G_getf rfl (by decide) rfl rfl rfl
theorem x152_28 : XX X d 152 (28, [l0, l1, l2, some (.int x), l4, l5], st, M) Q = XX X d 152 (29, [l0, l1, l2, some (.int x), l4, l5], .int x :: st, M) Q := H_ld rfl rfl rfl rfl rfl
theorem x152_29 : XX X d 152 (29, L, v :: .int x :: .ref a :: st, M) Q = yw (M.2.2 a) a .iastore v x X d 152 30 L st M Q := G_ast rfl ⟨⟨rfl, rfl, rfl, by decide⟩, rfl, rfl⟩ rfl rfl rfl
theorem x152_30 : XX X d 152 (30, [some (.ref a), l1, l2, l3, l4, l5], st, M) Q = XX X d 152 (31, [some (.ref a), l1, l2, l3, l4, l5], .ref a :: st, M) Q := H_ld rfl rfl rfl rfl rfl
theorem x152_31 : XX X d 152 (31, L, .ref a :: st, M) Q = yg (M.2.2 a) 9 22 X d 152 34 L st M Q := G_getf rfl (by decide) rfl rfl rfl
theorem x152_34 : XX X d 152 (34, [some (.ref a), l1, l2, l3, l4, l5], st, M) Q = XX X d 152 (35, [some (.ref a), l1, l2, l3, l4, l5], .ref a :: st, M) Q := H_ld rfl rfl rfl rfl rfl
theorem x152_35 : XX X d 152 (35, L, .ref a :: st, M) Q = yg (M.2.2 a) 9 24 X d 152 38 L st M Q := G_getf rfl (by decide) rfl rfl rfl
theorem x152_38 : XX X d 152 (38, [l0, l1, l2, l3, some (.int x), l5], st, M) Q = XX X d 152 (40, [l0, l1, l2, l3, some (.int x), l5], .int x :: st, M) Q := H_ld rfl rfl rfl rfl rfl
theorem x152_40 : XX X d 152 (40, L, v :: .int x :: .ref a :: st, M) Q = yw (M.2.2 a) a .iastore v x X d 152 41 L st M Q := G_ast rfl ⟨⟨rfl, rfl, rfl, by decide⟩, rfl, rfl⟩ rfl rfl rfl
theorem x152_41 : XX X d 152 (41, [some (.ref a), l1, l2, l3, l4, l5], st, M) Q = XX X d 152 (42, [some (.ref a), l1, l2, l3, l4, l5], .ref a :: st, M) Q := H_ld rfl rfl rfl rfl rfl
theorem x152_42 : XX X d 152 (42, L, .ref a :: st, M) Q = yg (M.2.2 a) 9 23 X d 152 45 L st M Q := G_getf rfl (by decide) rfl rfl rfl
theorem x152_45 : XX X d 152 (45, [some (.ref a), l1, l2, l3, l4, l5], st, M) Q = XX X d 152 (46, [some (.ref a), l1, l2, l3, l4, l5], .ref a :: st, M) Q := H_ld rfl rfl rfl rfl rfl
theorem x152_46 : XX X d 152 (46, L, .ref a :: st, M) Q = yg (M.2.2 a) 9 24 X d 152 49 L st M Q := G_getf rfl (by decide) rfl rfl rfl
theorem x152_49 : XX X d 152 (49, L, st, M) Q = XX X d 152 (51, L, .int (ii 1000000) :: st, M) Q := G_cst rfl rfl rfl rfl rfl
theorem x152_51 : XX X d 152 (51, [l0, l1, l2, l3, l4, some (.int x)], st, M) Q = XX X d 152 (53, [l0, l1, l2, l3, l4, some (.int x)], .int x :: st, M) Q := H_ld rfl rfl rfl rfl rfl
theorem x152_53 {v1 v2 : Value} (hd : 0 < d) (hs : stB st = true) : XX X d 152 (53, L, v2 :: v1 :: st, M) Q = CC X (d - 1) 146 [v1, v2] M (XC X d 152 53 56 L st Q) := H_static [v1, v2] rfl (by decide) rfl rfl (by decide) rfl rfl hd hs
theorem x152_56 : XX X d 152 (56, L, v :: .int x :: .ref a :: st, M) Q = yw (M.2.2 a) a .iastore v x X d 152 57 L st M Q := G_ast rfl ⟨⟨rfl, rfl, rfl, by decide⟩, rfl, rfl⟩ rfl rfl rfl
theorem x152_57 : XX X d 152 (57, [some (.ref a), l1, l2, l3, l4, l5], st, M) Q = XX X d 152 (58, [some (.ref a), l1, l2, l3, l4, l5], .ref a :: st, M) Q := H_ld rfl rfl rfl rfl rfl
theorem x152_58 (h : v.category = 1) : XX X d 152 (58, L, v :: st, M) Q = XX X d 152 (59, L, v :: v :: st, M) Q := G_sop rfl ⟨rfl, rfl, rfl, by decide⟩ (if_pos h) rfl
theorem x152_59 : XX X d 152 (59, L, .ref a :: st, M) Q = yg (M.2.2 a) 9 24 X d 152 62 L st M Q := G_getf rfl (by decide) rfl rfl rfl
theorem x152_62 : XX X d 152 (62, L, st, M) Q = XX X d 152 (63, L, .int (ii 1) :: st, M) Q := G_cst rfl rfl rfl rfl rfl
theorem x152_63 : XX X d 152 (63, L, .int (ii q) :: .int (ii p) :: st, M) Q = XX X d 152 (64, L, .int (ii (p + q)) :: st, M) Q := H_add rfl (by decide) rfl
theorem x152_64 : XX X d 152 (64, L, v :: .ref a :: st, M) Q = yp (M.2.2 a) a 9 24 v X d 152 67 L st M Q := G_putf rfl (by decide) rfl rfl rfl
theorem x152_67 : XX X d 152 (67, [some (.ref a), l1, l2, l3, l4, l5], st, M) Q = XX X d 152 (68, [some (.ref a), l1, l2, l3, l4, l5], .ref a :: st, M) Q := H_ld rfl rfl rfl rfl rfl
theorem x152_68 : XX X d 152 (68, L, .ref a :: st, M) Q = yg (M.2.2 a) 9 24 X d 152 71 L st M Q := G_getf rfl (by decide) rfl rfl rfl
theorem x152_71 : XX X d 152 (71, L, st, M) Q = XX X d 152 (72, L, .int (ii 1) :: st, M) Q := G_cst rfl rfl rfl rfl rfl
theorem x152_72 : XX X d 152 (72, L, .int (ii q) :: .int (ii p) :: st, M) Q = XX X d 152 (73, L, .int (ii (p - q)) :: st, M) Q := H_sub rfl (by decide) rfl
theorem x152_73 : XX X d 152 (73, L, [.int (ii p)], M) Q = Q (.inl (some (.int (ii p)))) M := G_ret rfl ⟨⟨⟨rfl, rfl, rfl, by decide⟩, rfl, rfl⟩, rfl, rfl⟩ rfl
theorem e152 : CC X d 152 [.ref a, .int x, .int x2, .int x3, .int x4, .int x5] M Q = XX X d 152 (0, [some (.ref a), some (.int x), some (.int x2), some (.int x3), some (.int x4), some (.int x5)], [], M) Q := H_ent rfl rfl
-- 153 X9_stops ()I
theorem x153_0 : XX X d 153 (0, [some (.ref a)], st, M) Q = XX X d 153 (1, [some (.ref a)], .ref a :: st, M) Q := H_ld rfl rfl rfl rfl rfl
theorem x153_1 : XX X d 153 (1, L, st, M) Q = XX X d 153 (2, L, .int (ii 1) :: st, M) Q := G_cst rfl rfl rfl rfl rfl
theorem x153_2 : XX X d 153 (2, L, v :: .ref a :: st, M) Q = yp (M.2.2 a) a 9 18 v X d 153 5 L st M Q := G_putf rfl (by decide) rfl rfl rfl
theorem x153_5 : XX X d 153 (5, L, st, M) Q = XX X d 153 (6, L, .int (ii 0) :: st, M) Q := G_cst rfl rfl rfl rfl rfl
theorem x153_6 : XX X d 153 (6, L, [.int (ii p)], M) Q = Q (.inl (some (.int (ii p)))) M := G_ret rfl ⟨⟨⟨rfl, rfl, rfl, by decide⟩, rfl, rfl⟩, rfl, rfl⟩ rfl
theorem e153 : CC X d 153 [.ref a] M Q = XX X d 153 (0, [some (.ref a)], [], M) Q := H_ent rfl rfl
-- 154 X9_either ()I
theorem x154_0 : XX X d 154 (0, [some (.ref a), l1, l2], st, M) Q = XX X d 154 (1, [some (.ref a), l1, l2], .ref a :: st, M) Q := H_ld rfl rfl rfl rfl rfl
theorem x154_1 (hd : 0 < d) (hs : stB st = true) : XX X d 154 (1, L, .ref a :: st, M) Q = (mcl M a = some 9 ∧ CC X (d - 1) 155 [.ref a] M (XC X d 154 1 4 L st Q)) := H_virt [] rfl (by decide) rfl rfl rfl rfl rfl hd hs
theorem x154_4 (h : wide (some l0) = false) : XX X d 154 (4, [l0, l1, l2], .int x :: st, M) Q = XX X d 154 (5, [l0, some (.int x), l2], st, M) Q := H_st rfl rfl rfl rfl rfl rfl rfl rfl (Or.inr h)
theorem x154_5 : XX X d 154 (5, [some (.ref a), l1, l2], st, M) Q = XX X d 154 (6, [some (.ref a), l1, l2], .ref a :: st, M) Q := H_ld rfl rfl rfl rfl rfl
theorem x154_6 : XX X d 154 (6, L, .ref a :: st, M) Q = yg (M.2.2 a) 9 18 X d 154 9 L st M Q := G_getf rfl (by decide) rfl rfl rfl
theorem x154_9 (h : -2147483648 ≤ p ∧ p ≤ 2147483647) : XX X d 154 (9, L, .int (ii p) :: st, M) Q = bq (p ≠ 0) X d 154 86 12 L st M Q := H_if rfl ⟨rfl, rfl, rfl, by decide⟩ rfl rfl rfl rfl (D_ne (b := 0) (by omega))
theorem x154_9b : XX X d 154 (9, L, .int (ii (b2i b)) :: st, M) Q = bq (b = true) X d 154 86 12 L st M Q := (x154_9 (b2i_r b)).trans (by rw [b2i_n0])
theorem x154_12 : XX X d 154 (12, [some (.ref a), l1, l2], st, M) Q = XX X d 154 (13, [some (.ref a), l1, l2], .ref a :: st, M) Q := H_ld rfl rfl rfl rfl rfl
theorem x154_13 (hd : 0 < d) (hs : stB st = true) : XX X d 154 (13, L, .ref a :: st, M) Q = (mcl M a = some 9 ∧ CC X (d - 1) 150 [.ref a] M (XC X d 154 13 16 L st Q)) := H_virt [] rfl (by decide) rfl rfl rfl rfl rfl hd hs
theorem x154_16 : XX X d 154 (16, L, st, M) Q = XX X d 154 (18, L, .int (ii 124) :: st, M) Q := G_cst rfl rfl rfl rfl rfl
theorem x154_18 (h : -2147483648 ≤ p ∧ p ≤ 2147483647 ∧ -2147483648 ≤ q ∧ q ≤ 2147483647) : XX X d 154 (18, L, .int (ii q) :: .int (ii p) :: st, M) Q = bq (p ≠ q) X d 154 86 21 L st M Q := H_if2 rfl ⟨rfl, rfl, rfl, by decide⟩ rfl rfl rfl rfl (D_ne h)
theorem x154_21 : XX X d 154 (21, [some (.ref a), l1, l2], st, M) Q = XX X d 154 (22, [some (.ref a), l1, l2], .ref a :: st, M) Q := H_ld rfl rfl rfl rfl rfl
theorem x154_22 (h : v.category = 1) : XX X d 154 (22, L, v :: st, M) Q = XX X d 154 (23, L, v :: v :: st, M) Q := G_sop rfl ⟨rfl, rfl, rfl, by decide⟩ (if_pos h) rfl
theorem x154_23 : XX X d 154 (23, L, .ref a :: st, M) Q = yg (M.2.2 a) 9 17 X d 154 26 L st M Q := G_getf rfl (by decide) rfl rfl rfl
theorem x154_26 : XX X d 154 (26, L, st, M) Q = XX X d 154 (27, L, .int (ii 1) :: st, M) Q := G_cst rfl rfl rfl rfl rfl
theorem x154_27 : XX X d 154 (27, L, .int (ii q) :: .int (ii p) :: st, M) Q = XX X d 154 (28, L, .int (ii (p + q)) :: st, M) Q := H_add rfl (by decide) rfl
theorem x154_28 : XX X d 154 (28, L, v :: .ref a :: st, M) Q = yp (M.2.2 a) a 9 17 v X d 154 31 L st M Q := G_putf rfl (by decide) rfl rfl rfl
theorem x154_31 : XX X d 154 (31, [some (.ref a), l1, l2], st, M) Q = XX X d 154 (32, [some (.ref a), l1, l2], .ref a :: st, M) Q := H_ld rfl rfl rfl rfl rfl
theorem x154_32 (hd : 0 < d) (hs : stB st = true) : XX X d 154 (32, L, .ref a :: st, M) Q = (mcl M a = some 9 ∧ CC X (d - 1) 155 [.ref a] M (XC X d 154 32 35 L st Q)) := H_virt [] rfl (by decide) rfl rfl rfl rfl rfl hd hs
theorem x154_35 (h : wide (some l1) = false) : XX X d 154 (35, [l0, l1, l2], .int x :: st, M) Q = XX X d 154 (36, [l0, l1, some (.int x)], st, M) Q := H_st rfl rfl rfl rfl rfl rfl rfl rfl (Or.inr h)
theorem x154_36 : XX X d 154 (36, [some (.ref a), l1, l2], st, M) Q = XX X d 154 (37, [some (.ref a), l1, l2], .ref a :: st, M) Q := H_ld rfl rfl rfl rfl rfl
theorem x154_37 : XX X d 154 (37, L, .ref a :: st, M) Q = yg (M.2.2 a) 9 18 X d 154 40 L st M Q := G_getf rfl (by decide) rfl rfl rfl
theorem x154_40 (h : -2147483648 ≤ p ∧ p ≤ 2147483647) : XX X d 154 (40, L, .int (ii p) :: st, M) Q = bq (p = 0) X d 154 45 43 L st M Q := H_if rfl ⟨rfl, rfl, rfl, by decide⟩ rfl rfl rfl rfl (D_eq (b := 0) (by omega))
theorem x154_40b : XX X d 154 (40, L, .int (ii (b2i b)) :: st, M) Q = bq (b = false) X d 154 45 43 L st M Q := (x154_40 (b2i_r b)).trans (by rw [b2i_0])
theorem x154_43 : XX X d 154 (43, L, st, M) Q = XX X d 154 (44, L, .int (ii 0) :: st, M) Q := G_cst rfl rfl rfl rfl rfl
theorem x154_44 : XX X d 154 (44, L, [.int (ii p)], M) Q = Q (.inl (some (.int (ii p)))) M := G_ret rfl ⟨⟨⟨rfl, rfl, rfl, by decide⟩, rfl, rfl⟩, rfl, rfl⟩ rfl
theorem x154_45 : XX X d 154 (45, [some (.ref a), l1, l2], st, M) Q = XX X d 154 (46, [some (.ref a), l1, l2], .ref a :: st, M) Q := H_ld rfl rfl rfl rfl rfl
theorem x154_46 : XX X d 154 (46, L, st, M) Q = XX X d 154 (47, L, .int (ii 5) :: st, M) Q := G_cst rfl rfl rfl rfl rfl
theorem x154_47 : XX X d 154 (47, [l0, some (.int x), l2], st, M) Q = XX X d 154 (48, [l0, some (.int x), l2], .int x :: st, M) Q := H_ld rfl rfl rfl rfl rfl
theorem x154_48 : XX X d 154 (48, [l0, l1, some (.int x)], st, M) Q = XX X d 154 (49, [l0, l1, some (.int x)], .int x :: st, M) Q := H_ld rfl rfl rfl rfl rfl
theorem x154_49 : XX X d 154 (49, [some (.ref a), l1, l2], st, M) Q = XX X d 154 (50, [some (.ref a), l1, l2], .ref a :: st, M) Q := H_ld rfl rfl rfl rfl rfl
theorem x154_50 : XX X d 154 (50, L, .ref a :: st, M) Q = yg (M.2.2 a) 9 22 X d 154 53 L st M Q := G_getf rfl (by decide) rfl rfl rfl
theorem x154_53 : XX X d 154 (53, [l0, some (.int x), l2], st, M) Q = XX X d 154 (54, [l0, some (.int x), l2], .int x :: st, M) Q := H_ld rfl rfl rfl rfl rfl
theorem x154_54 : XX X d 154 (54, L, .int x :: .ref a :: st, M) Q = ya (M.2.2 a) .iaload x X d 154 55 L st M Q := G_ald rfl ⟨⟨rfl, rfl, rfl, by decide⟩, rfl, rfl⟩ rfl rfl
theorem x154_55 : XX X d 154 (55, [some (.ref a), l1, l2], st, M) Q = XX X d 154 (56, [some (.ref a), l1, l2], .ref a :: st, M) Q := H_ld rfl rfl rfl rfl rfl
theorem x154_56 : XX X d 154 (56, L, .ref a :: st, M) Q = yg (M.2.2 a) 9 22 X d 154 59 L st M Q := G_getf rfl (by decide) rfl rfl rfl
theorem x154_59 : XX X d 154 (59, [l0, l1, some (.int x)], st, M) Q = XX X d 154 (60, [l0, l1, some (.int x)], .int x :: st, M) Q := H_ld rfl rfl rfl rfl rfl
theorem x154_60 : XX X d 154 (60, L, .int x :: .ref a :: st, M) Q = ya (M.2.2 a) .iaload x X d 154 61 L st M Q := G_ald rfl ⟨⟨rfl, rfl, rfl, by decide⟩, rfl, rfl⟩ rfl rfl
theorem x154_61 {v1 v2 : Value} (hd : 0 < d) (hs : stB st = true) : XX X d 154 (61, L, v2 :: v1 :: st, M) Q = CC X (d - 1) 146 [v1, v2] M (XC X d 154 61 64 L st Q) := H_static [v1, v2] rfl (by decide) rfl rfl (by decide) rfl rfl hd hs
theorem x154_64 : XX X d 154 (64, [some (.ref a), l1, l2], st, M) Q = XX X d 154 (65, [some (.ref a), l1, l2], .ref a :: st, M) Q := H_ld rfl rfl rfl rfl rfl
theorem x154_65 : XX X d 154 (65, L, .ref a :: st, M) Q = yg (M.2.2 a) 9 23 X d 154 68 L st M Q := G_getf rfl (by decide) rfl rfl rfl
theorem x154_68 : XX X d 154 (68, [l0, some (.int x), l2], st, M) Q = XX X d 154 (69, [l0, some (.int x), l2], .int x :: st, M) Q := H_ld rfl rfl rfl rfl rfl
theorem x154_69 : XX X d 154 (69, L, .int x :: .ref a :: st, M) Q = ya (M.2.2 a) .iaload x X d 154 70 L st M Q := G_ald rfl ⟨⟨rfl, rfl, rfl, by decide⟩, rfl, rfl⟩ rfl rfl
theorem x154_70 : XX X d 154 (70, [some (.ref a), l1, l2], st, M) Q = XX X d 154 (71, [some (.ref a), l1, l2], .ref a :: st, M) Q := H_ld rfl rfl rfl rfl rfl
theorem x154_71 : XX X d 154 (71, L, .ref a :: st, M) Q = yg (M.2.2 a) 9 23 X d 154 74 L st M Q := G_getf rfl (by decide) rfl rfl rfl
theorem x154_74 : XX X d 154 (74, [l0, l1, some (.int x)], st, M) Q = XX X d 154 (75, [l0, l1, some (.int x)], .int x :: st, M) Q := H_ld rfl rfl rfl rfl rfl
theorem x154_75 : XX X d 154 (75, L, .int x :: .ref a :: st, M) Q = ya (M.2.2 a) .iaload x X d 154 76 L st M Q := G_ald rfl ⟨⟨rfl, rfl, rfl, by decide⟩, rfl, rfl⟩ rfl rfl
theorem x154_76 {v1 v2 : Value} (hd : 0 < d) (hs : stB st = true) : XX X d 154 (76, L, v2 :: v1 :: st, M) Q = CC X (d - 1) 147 [v1, v2] M (XC X d 154 76 79 L st Q) := H_static [v1, v2] rfl (by decide) rfl rfl (by decide) rfl rfl hd hs
theorem x154_79 {v1 v2 v3 v4 v5 : Value} (hd : 0 < d) (hs : stB st = true) : XX X d 154 (79, L, v5 :: v4 :: v3 :: v2 :: v1 :: .ref a :: st, M) Q = (mcl M a = some 9 ∧ CC X (d - 1) 152 [.ref a, v1, v2, v3, v4, v5] M (XC X d 154 79 82 L st Q)) := H_virt [v1, v2, v3, v4, v5] rfl (by decide) rfl rfl rfl rfl rfl hd hs
theorem x154_82 (h : wide (some l0) = false) : XX X d 154 (82, [l0, l1, l2], .int x :: st, M) Q = XX X d 154 (83, [l0, some (.int x), l2], st, M) Q := H_st rfl rfl rfl rfl rfl rfl rfl rfl (Or.inr h)
theorem x154_83 : XX X d 154 (83, L, st, M) Q = XX X d 154 (5, L, st, M) Q := H_jmp rfl (by decide) rfl
theorem x154_86 : XX X d 154 (86, [l0, some (.int x), l2], st, M) Q = XX X d 154 (87, [l0, some (.int x), l2], .int x :: st, M) Q := H_ld rfl rfl rfl rfl rfl
theorem x154_87 : XX X d 154 (87, L, [.int (ii p)], M) Q = Q (.inl (some (.int (ii p)))) M := G_ret rfl ⟨⟨⟨rfl, rfl, rfl, by decide⟩, rfl, rfl⟩, rfl, rfl⟩ rfl
theorem e154 : CC X d 154 [.ref a] M Q = XX X d 154 (0, [some (.ref a), none, none], [], M) Q := H_ent rfl rfl
-- 155 X9_branch ()I
theorem x155_0 : XX X d 155 (0, [some (.ref a), l1, l2], st, M) Q = XX X d 155 (1, [some (.ref a), l1, l2], .ref a :: st, M) Q := H_ld rfl rfl rfl rfl rfl
theorem x155_1 : XX X d 155 (1, L, st, M) Q = XX X d 155 (2, L, .int (ii 0) :: st, M) Q := G_cst rfl rfl rfl rfl rfl
theorem x155_2 : XX X d 155 (2, L, st, M) Q = XX X d 155 (3, L, .int (ii 0) :: st, M) Q := G_cst rfl rfl rfl rfl rfl
theorem x155_3 : XX X d 155 (3, L, st, M) Q = XX X d 155 (4, L, .int (ii 0) :: st, M) Q := G_cst rfl rfl rfl rfl rfl
theorem x155_4 : XX X d 155 (4, L, st, M) Q = XX X d 155 (5, L, .int (ii 0) :: st, M) Q := G_cst rfl rfl rfl rfl rfl
theorem x155_5 : XX X d 155 (5, L, st, M) Q = XX X d 155 (6, L, .int (ii 0) :: st, M) Q := G_cst rfl rfl rfl rfl rfl
theorem x155_6 {v1 v2 v3 v4 v5 : Value} (hd : 0 < d) (hs : stB st = true) : XX X d 155 (6, L, v5 :: v4 :: v3 :: v2 :: v1 :: .ref a :: st, M) Q = (mcl M a = some 9 ∧ CC X (d - 1) 152 [.ref a, v1, v2, v3, v4, v5] M (XC X d 155 6 9 L st Q)) := H_virt [v1, v2, v3, v4, v5] rfl (by decide) rfl rfl rfl rfl rfl hd hs
theorem x155_9 (h : wide (some l0) = false) : XX X d 155 (9, [l0, l1, l2], .int x :: st, M) Q = XX X d 155 (10, [l0, some (.int x), l2], st, M) Q := H_st rfl rfl rfl rfl rfl rfl rfl rfl (Or.inr h)
theorem x155_10 : XX X d 155 (10, [some (.ref a), l1, l2], st, M) Q = XX X d 155 (11, [some (.ref a), l1, l2], .ref a :: st, M) Q := H_ld rfl rfl rfl rfl rfl
theorem x155_11 : XX X d 155 (11, L, .ref a :: st, M) Q = yg (M.2.2 a) 9 18 X d 155 14 L st M Q := G_getf rfl (by decide) rfl rfl rfl
theorem x155_14 (h : -2147483648 ≤ p ∧ p ≤ 2147483647) : XX X d 155 (14, L, .int (ii p) :: st, M) Q = bq (p ≠ 0) X d 155 105 17 L st M Q := H_if rfl ⟨rfl, rfl, rfl, by decide⟩ rfl rfl rfl rfl (D_ne (b := 0) (by omega))
theorem x155_14b : XX X d 155 (14, L, .int (ii (b2i b)) :: st, M) Q = bq (b = true) X d 155 105 17 L st M Q := (x155_14 (b2i_r b)).trans (by rw [b2i_n0])
theorem x155_17 : XX X d 155 (17, [some (.ref a), l1, l2], st, M) Q = XX X d 155 (18, [some (.ref a), l1, l2], .ref a :: st, M) Q := H_ld rfl rfl rfl rfl rfl
theorem x155_18 (hd : 0 < d) (hs : stB st = true) : XX X d 155 (18, L, .ref a :: st, M) Q = (mcl M a = some 9 ∧ CC X (d - 1) 150 [.ref a] M (XC X d 155 18 21 L st Q)) := H_virt [] rfl (by decide) rfl rfl rfl rfl rfl hd hs
theorem x155_21 {v1 : Value} (hd : 0 < d) (hs : stB st = true) : XX X d 155 (21, L, v1 :: st, M) Q = CC X (d - 1) 151 [v1] M (XC X d 155 21 24 L st Q) := H_static [v1] rfl (by decide) rfl rfl (by decide) rfl rfl hd hs
theorem x155_24 (h : -2147483648 ≤ p ∧ p ≤ 2147483647) : XX X d 155 (24, L, .int (ii p) :: st, M) Q = bq (p ≠ 0) X d 155 54 27 L st M Q := H_if rfl ⟨rfl, rfl, rfl, by decide⟩ rfl rfl rfl rfl (D_ne (b := 0) (by omega))
theorem x155_24b : XX X d 155 (24, L, .int (ii (b2i b)) :: st, M) Q = bq (b = true) X d 155 54 27 L st M Q := (x155_24 (b2i_r b)).trans (by rw [b2i_n0])
theorem x155_27 : XX X d 155 (27, [some (.ref a), l1, l2], st, M) Q = XX X d 155 (28, [some (.ref a), l1, l2], .ref a :: st, M) Q := H_ld rfl rfl rfl rfl rfl
theorem x155_28 (hd : 0 < d) (hs : stB st = true) : XX X d 155 (28, L, .ref a :: st, M) Q = (mcl M a = some 9 ∧ CC X (d - 1) 150 [.ref a] M (XC X d 155 28 31 L st Q)) := H_virt [] rfl (by decide) rfl rfl rfl rfl rfl hd hs
theorem x155_31 : XX X d 155 (31, L, st, M) Q = XX X d 155 (33, L, .int (ii 46) :: st, M) Q := G_cst rfl rfl rfl rfl rfl
theorem x155_33 (h : -2147483648 ≤ p ∧ p ≤ 2147483647 ∧ -2147483648 ≤ q ∧ q ≤ 2147483647) : XX X d 155 (33, L, .int (ii q) :: .int (ii p) :: st, M) Q = bq (p = q) X d 155 54 36 L st M Q := H_if2 rfl ⟨rfl, rfl, rfl, by decide⟩ rfl rfl rfl rfl (D_eq h)
theorem x155_36 : XX X d 155 (36, [some (.ref a), l1, l2], st, M) Q = XX X d 155 (37, [some (.ref a), l1, l2], .ref a :: st, M) Q := H_ld rfl rfl rfl rfl rfl
theorem x155_37 (hd : 0 < d) (hs : stB st = true) : XX X d 155 (37, L, .ref a :: st, M) Q = (mcl M a = some 9 ∧ CC X (d - 1) 150 [.ref a] M (XC X d 155 37 40 L st Q)) := H_virt [] rfl (by decide) rfl rfl rfl rfl rfl hd hs
theorem x155_40 : XX X d 155 (40, L, st, M) Q = XX X d 155 (42, L, .int (ii 40) :: st, M) Q := G_cst rfl rfl rfl rfl rfl
theorem x155_42 (h : -2147483648 ≤ p ∧ p ≤ 2147483647 ∧ -2147483648 ≤ q ∧ q ≤ 2147483647) : XX X d 155 (42, L, .int (ii q) :: .int (ii p) :: st, M) Q = bq (p = q) X d 155 54 45 L st M Q := H_if2 rfl ⟨rfl, rfl, rfl, by decide⟩ rfl rfl rfl rfl (D_eq h)
theorem x155_45 : XX X d 155 (45, [some (.ref a), l1, l2], st, M) Q = XX X d 155 (46, [some (.ref a), l1, l2], .ref a :: st, M) Q := H_ld rfl rfl rfl rfl rfl
theorem x155_46 (hd : 0 < d) (hs : stB st = true) : XX X d 155 (46, L, .ref a :: st, M) Q = (mcl M a = some 9 ∧ CC X (d - 1) 150 [.ref a] M (XC X d 155 46 49 L st Q)) := H_virt [] rfl (by decide) rfl rfl rfl rfl rfl hd hs
theorem x155_49 : XX X d 155 (49, L, st, M) Q = XX X d 155 (51, L, .int (ii 91) :: st, M) Q := G_cst rfl rfl rfl rfl rfl
theorem x155_51 (h : -2147483648 ≤ p ∧ p ≤ 2147483647 ∧ -2147483648 ≤ q ∧ q ≤ 2147483647) : XX X d 155 (51, L, .int (ii q) :: .int (ii p) :: st, M) Q = bq (p ≠ q) X d 155 105 54 L st M Q := H_if2 rfl ⟨rfl, rfl, rfl, by decide⟩ rfl rfl rfl rfl (D_ne h)
theorem x155_54 : XX X d 155 (54, [some (.ref a), l1, l2], st, M) Q = XX X d 155 (55, [some (.ref a), l1, l2], .ref a :: st, M) Q := H_ld rfl rfl rfl rfl rfl
theorem x155_55 (hd : 0 < d) (hs : stB st = true) : XX X d 155 (55, L, .ref a :: st, M) Q = (mcl M a = some 9 ∧ CC X (d - 1) 156 [.ref a] M (XC X d 155 55 58 L st Q)) := H_virt [] rfl (by decide) rfl rfl rfl rfl rfl hd hs
theorem x155_58 (h : wide (some l1) = false) : XX X d 155 (58, [l0, l1, l2], .int x :: st, M) Q = XX X d 155 (59, [l0, l1, some (.int x)], st, M) Q := H_st rfl rfl rfl rfl rfl rfl rfl rfl (Or.inr h)
theorem x155_59 : XX X d 155 (59, [some (.ref a), l1, l2], st, M) Q = XX X d 155 (60, [some (.ref a), l1, l2], .ref a :: st, M) Q := H_ld rfl rfl rfl rfl rfl
theorem x155_60 : XX X d 155 (60, L, .ref a :: st, M) Q = yg (M.2.2 a) 9 18 X d 155 63 L st M Q := G_getf rfl (by decide) rfl rfl rfl
theorem x155_63 (h : -2147483648 ≤ p ∧ p ≤ 2147483647) : XX X d 155 (63, L, .int (ii p) :: st, M) Q = bq (p = 0) X d 155 68 66 L st M Q := H_if rfl ⟨rfl, rfl, rfl, by decide⟩ rfl rfl rfl rfl (D_eq (b := 0) (by omega))
theorem x155_63b : XX X d 155 (63, L, .int (ii (b2i b)) :: st, M) Q = bq (b = false) X d 155 68 66 L st M Q := (x155_63 (b2i_r b)).trans (by rw [b2i_0])
theorem x155_66 : XX X d 155 (66, L, st, M) Q = XX X d 155 (67, L, .int (ii 0) :: st, M) Q := G_cst rfl rfl rfl rfl rfl
theorem x155_67 : XX X d 155 (67, L, [.int (ii p)], M) Q = Q (.inl (some (.int (ii p)))) M := G_ret rfl ⟨⟨⟨rfl, rfl, rfl, by decide⟩, rfl, rfl⟩, rfl, rfl⟩ rfl
theorem x155_68 : XX X d 155 (68, [some (.ref a), l1, l2], st, M) Q = XX X d 155 (69, [some (.ref a), l1, l2], .ref a :: st, M) Q := H_ld rfl rfl rfl rfl rfl
theorem x155_69 : XX X d 155 (69, L, st, M) Q = XX X d 155 (70, L, .int (ii 4) :: st, M) Q := G_cst rfl rfl rfl rfl rfl
theorem x155_70 : XX X d 155 (70, [l0, some (.int x), l2], st, M) Q = XX X d 155 (71, [l0, some (.int x), l2], .int x :: st, M) Q := H_ld rfl rfl rfl rfl rfl
theorem x155_71 : XX X d 155 (71, [l0, l1, some (.int x)], st, M) Q = XX X d 155 (72, [l0, l1, some (.int x)], .int x :: st, M) Q := H_ld rfl rfl rfl rfl rfl
theorem x155_72 : XX X d 155 (72, [some (.ref a), l1, l2], st, M) Q = XX X d 155 (73, [some (.ref a), l1, l2], .ref a :: st, M) Q := H_ld rfl rfl rfl rfl rfl
theorem x155_73 : XX X d 155 (73, L, .ref a :: st, M) Q = yg (M.2.2 a) 9 22 X d 155 76 L st M Q := G_getf rfl (by decide) rfl rfl rfl
theorem x155_76 : XX X d 155 (76, [l0, some (.int x), l2], st, M) Q = XX X d 155 (77, [l0, some (.int x), l2], .int x :: st, M) Q := H_ld rfl rfl rfl rfl rfl
theorem x155_77 : XX X d 155 (77, L, .int x :: .ref a :: st, M) Q = ya (M.2.2 a) .iaload x X d 155 78 L st M Q := G_ald rfl ⟨⟨rfl, rfl, rfl, by decide⟩, rfl, rfl⟩ rfl rfl
theorem x155_78 : XX X d 155 (78, [some (.ref a), l1, l2], st, M) Q = XX X d 155 (79, [some (.ref a), l1, l2], .ref a :: st, M) Q := H_ld rfl rfl rfl rfl rfl
theorem x155_79 : XX X d 155 (79, L, .ref a :: st, M) Q = yg (M.2.2 a) 9 22 X d 155 82 L st M Q := G_getf rfl (by decide) rfl rfl rfl
theorem x155_82 : XX X d 155 (82, [l0, l1, some (.int x)], st, M) Q = XX X d 155 (83, [l0, l1, some (.int x)], .int x :: st, M) Q := H_ld rfl rfl rfl rfl rfl
theorem x155_83 : XX X d 155 (83, L, .int x :: .ref a :: st, M) Q = ya (M.2.2 a) .iaload x X d 155 84 L st M Q := G_ald rfl ⟨⟨rfl, rfl, rfl, by decide⟩, rfl, rfl⟩ rfl rfl
theorem x155_84 : XX X d 155 (84, L, .int (ii q) :: .int (ii p) :: st, M) Q = XX X d 155 (85, L, .int (ii (p + q)) :: st, M) Q := H_add rfl (by decide) rfl
theorem x155_85 : XX X d 155 (85, [some (.ref a), l1, l2], st, M) Q = XX X d 155 (86, [some (.ref a), l1, l2], .ref a :: st, M) Q := H_ld rfl rfl rfl rfl rfl
theorem x155_86 : XX X d 155 (86, L, .ref a :: st, M) Q = yg (M.2.2 a) 9 23 X d 155 89 L st M Q := G_getf rfl (by decide) rfl rfl rfl
theorem x155_89 : XX X d 155 (89, [l0, some (.int x), l2], st, M) Q = XX X d 155 (90, [l0, some (.int x), l2], .int x :: st, M) Q := H_ld rfl rfl rfl rfl rfl
theorem x155_90 : XX X d 155 (90, L, .int x :: .ref a :: st, M) Q = ya (M.2.2 a) .iaload x X d 155 91 L st M Q := G_ald rfl ⟨⟨rfl, rfl, rfl, by decide⟩, rfl, rfl⟩ rfl rfl
theorem x155_91 : XX X d 155 (91, [some (.ref a), l1, l2], st, M) Q = XX X d 155 (92, [some (.ref a), l1, l2], .ref a :: st, M) Q := H_ld rfl rfl rfl rfl rfl
theorem x155_92 : XX X d 155 (92, L, .ref a :: st, M) Q = yg (M.2.2 a) 9 23 X d 155 95 L st M Q := G_getf rfl (by decide) rfl rfl rfl
theorem x155_95 : XX X d 155 (95, [l0, l1, some (.int x)], st, M) Q = XX X d 155 (96, [l0, l1, some (.int x)], .int x :: st, M) Q := H_ld rfl rfl rfl rfl rfl
theorem x155_96 : XX X d 155 (96, L, .int x :: .ref a :: st, M) Q = ya (M.2.2 a) .iaload x X d 155 97 L st M Q := G_ald rfl ⟨⟨rfl, rfl, rfl, by decide⟩, rfl, rfl⟩ rfl rfl
theorem x155_97 : XX X d 155 (97, L, .int (ii q) :: .int (ii p) :: st, M) Q = XX X d 155 (98, L, .int (ii (p + q)) :: st, M) Q := H_add rfl (by decide) rfl
theorem x155_98 {v1 v2 v3 v4 v5 : Value} (hd : 0 < d) (hs : stB st = true) : XX X d 155 (98, L, v5 :: v4 :: v3 :: v2 :: v1 :: .ref a :: st, M) Q = (mcl M a = some 9 ∧ CC X (d - 1) 152 [.ref a, v1, v2, v3, v4, v5] M (XC X d 155 98 101 L st Q)) := H_virt [v1, v2, v3, v4, v5] rfl (by decide) rfl rfl rfl rfl rfl hd hs
theorem x155_101 (h : wide (some l0) = false) : XX X d 155 (101, [l0, l1, l2], .int x :: st, M) Q = XX X d 155 (102, [l0, some (.int x), l2], st, M) Q := H_st rfl rfl rfl rfl rfl rfl rfl rfl (Or.inr h)
theorem x155_102 : XX X d 155 (102, L, st, M) Q = XX X d 155 (10, L, st, M) Q := H_jmp rfl (by decide) rfl
theorem x155_105 : XX X d 155 (105, [l0, some (.int x), l2], st, M) Q = XX X d 155 (106, [l0, some (.int x), l2], .int x :: st, M) Q := H_ld rfl rfl rfl rfl rfl
theorem x155_106 : XX X d 155 (106, L, [.int (ii p)], M) Q = Q (.inl (some (.int (ii p)))) M := G_ret rfl ⟨⟨⟨rfl, rfl, rfl, by decide⟩, rfl, rfl⟩, rfl, rfl⟩ rfl
theorem e155 : CC X d 155 [.ref a] M Q = XX X d 155 (0, [some (.ref a), none, none], [], M) Q := H_ent rfl rfl
-- 156 X9_item ()I
theorem x156_0 : XX X d 156 (0, [some (.ref a), l1, l2], st, M) Q = XX X d 156 (1, [some (.ref a), l1, l2], .ref a :: st, M) Q := H_ld rfl rfl rfl rfl rfl
theorem x156_1 (hd : 0 < d) (hs : stB st = true) : XX X d 156 (1, L, .ref a :: st, M) Q = (mcl M a = some 9 ∧ CC X (d - 1) 157 [.ref a] M (XC X d 156 1 4 L st Q)) := H_virt [] rfl (by decide) rfl rfl rfl rfl rfl hd hs
theorem x156_4 (h : wide (some l0) = false) : XX X d 156 (4, [l0, l1, l2], .int x :: st, M) Q = XX X d 156 (5, [l0, some (.int x), l2], st, M) Q := H_st rfl rfl rfl rfl rfl rfl rfl rfl (Or.inr h)
theorem x156_5 : XX X d 156 (5, [some (.ref a), l1, l2], st, M) Q = XX X d 156 (6, [some (.ref a), l1, l2], .ref a :: st, M) Q := H_ld rfl rfl rfl rfl rfl
theorem x156_6 : XX X d 156 (6, L, .ref a :: st, M) Q = yg (M.2.2 a) 9 18 X d 156 9 L st M Q := G_getf rfl (by decide) rfl rfl rfl
theorem x156_9 (h : -2147483648 ≤ p ∧ p ≤ 2147483647) : XX X d 156 (9, L, .int (ii p) :: st, M) Q = bq (p = 0) X d 156 14 12 L st M Q := H_if rfl ⟨rfl, rfl, rfl, by decide⟩ rfl rfl rfl rfl (D_eq (b := 0) (by omega))
theorem x156_9b : XX X d 156 (9, L, .int (ii (b2i b)) :: st, M) Q = bq (b = false) X d 156 14 12 L st M Q := (x156_9 (b2i_r b)).trans (by rw [b2i_0])
theorem x156_12 : XX X d 156 (12, L, st, M) Q = XX X d 156 (13, L, .int (ii 0) :: st, M) Q := G_cst rfl rfl rfl rfl rfl
theorem x156_13 : XX X d 156 (13, L, [.int (ii p)], M) Q = Q (.inl (some (.int (ii p)))) M := G_ret rfl ⟨⟨⟨rfl, rfl, rfl, by decide⟩, rfl, rfl⟩, rfl, rfl⟩ rfl
theorem x156_14 : XX X d 156 (14, [some (.ref a), l1, l2], st, M) Q = XX X d 156 (15, [some (.ref a), l1, l2], .ref a :: st, M) Q := H_ld rfl rfl rfl rfl rfl
theorem x156_15 (hd : 0 < d) (hs : stB st = true) : XX X d 156 (15, L, .ref a :: st, M) Q = (mcl M a = some 9 ∧ CC X (d - 1) 150 [.ref a] M (XC X d 156 15 18 L st Q)) := H_virt [] rfl (by decide) rfl rfl rfl rfl rfl hd hs
theorem x156_18 (h : wide (some l1) = false) : XX X d 156 (18, [l0, l1, l2], .int x :: st, M) Q = XX X d 156 (19, [l0, l1, some (.int x)], st, M) Q := H_st rfl rfl rfl rfl rfl rfl rfl rfl (Or.inr h)
theorem x156_19 : XX X d 156 (19, [l0, l1, some (.int x)], st, M) Q = XX X d 156 (20, [l0, l1, some (.int x)], .int x :: st, M) Q := H_ld rfl rfl rfl rfl rfl
theorem x156_20 : XX X d 156 (20, L, st, M) Q = XX X d 156 (22, L, .int (ii 63) :: st, M) Q := G_cst rfl rfl rfl rfl rfl
theorem x156_22 (h : -2147483648 ≤ p ∧ p ≤ 2147483647 ∧ -2147483648 ≤ q ∧ q ≤ 2147483647) : XX X d 156 (22, L, .int (ii q) :: .int (ii p) :: st, M) Q = bq (p ≠ q) X d 156 51 25 L st M Q := H_if2 rfl ⟨rfl, rfl, rfl, by decide⟩ rfl rfl rfl rfl (D_ne h)
theorem x156_25 : XX X d 156 (25, [some (.ref a), l1, l2], st, M) Q = XX X d 156 (26, [some (.ref a), l1, l2], .ref a :: st, M) Q := H_ld rfl rfl rfl rfl rfl
theorem x156_26 (h : v.category = 1) : XX X d 156 (26, L, v :: st, M) Q = XX X d 156 (27, L, v :: v :: st, M) Q := G_sop rfl ⟨rfl, rfl, rfl, by decide⟩ (if_pos h) rfl
theorem x156_27 : XX X d 156 (27, L, .ref a :: st, M) Q = yg (M.2.2 a) 9 17 X d 156 30 L st M Q := G_getf rfl (by decide) rfl rfl rfl
theorem x156_30 : XX X d 156 (30, L, st, M) Q = XX X d 156 (31, L, .int (ii 1) :: st, M) Q := G_cst rfl rfl rfl rfl rfl
theorem x156_31 : XX X d 156 (31, L, .int (ii q) :: .int (ii p) :: st, M) Q = XX X d 156 (32, L, .int (ii (p + q)) :: st, M) Q := H_add rfl (by decide) rfl
theorem x156_32 : XX X d 156 (32, L, v :: .ref a :: st, M) Q = yp (M.2.2 a) a 9 17 v X d 156 35 L st M Q := G_putf rfl (by decide) rfl rfl rfl
theorem x156_35 : XX X d 156 (35, [some (.ref a), l1, l2], st, M) Q = XX X d 156 (36, [some (.ref a), l1, l2], .ref a :: st, M) Q := H_ld rfl rfl rfl rfl rfl
theorem x156_36 : XX X d 156 (36, L, st, M) Q = XX X d 156 (38, L, .int (ii 8) :: st, M) Q := G_cst rfl rfl rfl rfl rfl
theorem x156_38 : XX X d 156 (38, [l0, some (.int x), l2], st, M) Q = XX X d 156 (39, [l0, some (.int x), l2], .int x :: st, M) Q := H_ld rfl rfl rfl rfl rfl
theorem x156_39 : XX X d 156 (39, L, st, M) Q = XX X d 156 (40, L, .int (ii 0) :: st, M) Q := G_cst rfl rfl rfl rfl rfl
theorem x156_40 : XX X d 156 (40, L, st, M) Q = XX X d 156 (41, L, .int (ii 0) :: st, M) Q := G_cst rfl rfl rfl rfl rfl
theorem x156_41 : XX X d 156 (41, [some (.ref a), l1, l2], st, M) Q = XX X d 156 (42, [some (.ref a), l1, l2], .ref a :: st, M) Q := H_ld rfl rfl rfl rfl rfl
theorem x156_42 : XX X d 156 (42, L, .ref a :: st, M) Q = yg (M.2.2 a) 9 23 X d 156 45 L st M Q := G_getf rfl (by decide) rfl rfl rfl
theorem x156_45 : XX X d 156 (45, [l0, some (.int x), l2], st, M) Q = XX X d 156 (46, [l0, some (.int x), l2], .int x :: st, M) Q := H_ld rfl rfl rfl rfl rfl
theorem x156_46 : XX X d 156 (46, L, .int x :: .ref a :: st, M) Q = ya (M.2.2 a) .iaload x X d 156 47 L st M Q := G_ald rfl ⟨⟨rfl, rfl, rfl, by decide⟩, rfl, rfl⟩ rfl rfl
theorem x156_47 {v1 v2 v3 v4 v5 : Value} (hd : 0 < d) (hs : stB st = true) : XX X d 156 (47, L, v5 :: v4 :: v3 :: v2 :: v1 :: .ref a :: st, M) Q = (mcl M a = some 9 ∧ CC X (d - 1) 152 [.ref a, v1, v2, v3, v4, v5] M (XC X d 156 47 50 L st Q)) := H_virt [v1, v2, v3, v4, v5] rfl (by decide) rfl rfl rfl rfl rfl hd hs
theorem x156_50 : XX X d 156 (50, L, [.int (ii p)], M) Q = Q (.inl (some (.int (ii p)))) M := G_ret rfl ⟨⟨⟨rfl, rfl, rfl, by decide⟩, rfl, rfl⟩, rfl, rfl⟩ rfl
theorem x156_51 : XX X d 156 (51, [l0, l1, some (.int x)], st, M) Q = XX X d 156 (52, [l0, l1, some (.int x)], .int x :: st, M) Q := H_ld rfl rfl rfl rfl rfl
theorem x156_52 : XX X d 156 (52, L, st, M) Q = XX X d 156 (54, L, .int (ii 42) :: st, M) Q := G_cst rfl rfl rfl rfl rfl
theorem x156_54 (h : -2147483648 ≤ p ∧ p ≤ 2147483647 ∧ -2147483648 ≤ q ∧ q ≤ 2147483647) : XX X d 156 (54, L, .int (ii q) :: .int (ii p) :: st, M) Q = bq (p = q) X d 156 65 57 L st M Q := H_if2 rfl ⟨rfl, rfl, rfl, by decide⟩ rfl rfl rfl rfl (D_eq h)
theorem x156_57 : XX X d 156 (57, [l0, l1, some (.int x)], st, M) Q = XX X d 156 (58, [l0, l1, some (.int x)], .int x :: st, M) Q := H_ld rfl rfl rfl rfl rfl
theorem x156_58 : XX X d 156 (58, L, st, M) Q = XX X d 156 (60, L, .int (ii 43) :: st, M) Q := G_cst rfl rfl rfl rfl rfl
theorem x156_60 (h : -2147483648 ≤ p ∧ p ≤ 2147483647 ∧ -2147483648 ≤ q ∧ q ≤ 2147483647) : XX X d 156 (60, L, .int (ii q) :: .int (ii p) :: st, M) Q = bq (p = q) X d 156 65 63 L st M Q := H_if2 rfl ⟨rfl, rfl, rfl, by decide⟩ rfl rfl rfl rfl (D_eq h)
theorem x156_63 : XX X d 156 (63, [l0, some (.int x), l2], st, M) Q = XX X d 156 (64, [l0, some (.int x), l2], .int x :: st, M) Q := H_ld rfl rfl rfl rfl rfl
theorem x156_64 : XX X d 156 (64, L, [.int (ii p)], M) Q = Q (.inl (some (.int (ii p)))) M := G_ret rfl ⟨⟨⟨rfl, rfl, rfl, by decide⟩, rfl, rfl⟩, rfl, rfl⟩ rfl
theorem x156_65 : XX X d 156 (65, [some (.ref a), l1, l2], st, M) Q = XX X d 156 (66, [some (.ref a), l1, l2], .ref a :: st, M) Q := H_ld rfl rfl rfl rfl rfl
theorem x156_66 : XX X d 156 (66, L, .ref a :: st, M) Q = yg (M.2.2 a) 9 22 X d 156 69 L st M Q := G_getf rfl (by decide) rfl rfl rfl
theorem x156_69 : XX X d 156 (69, [l0, some (.int x), l2], st, M) Q = XX X d 156 (70, [l0, some (.int x), l2], .int x :: st, M) Q := H_ld rfl rfl rfl rfl rfl
theorem x156_70 : XX X d 156 (70, L, .int x :: .ref a :: st, M) Q = ya (M.2.2 a) .iaload x X d 156 71 L st M Q := G_ald rfl ⟨⟨rfl, rfl, rfl, by decide⟩, rfl, rfl⟩ rfl rfl
theorem x156_71 (h : -2147483648 ≤ p ∧ p ≤ 2147483647) : XX X d 156 (71, L, .int (ii p) :: st, M) Q = bq (p ≠ 0) X d 156 79 74 L st M Q := H_if rfl ⟨rfl, rfl, rfl, by decide⟩ rfl rfl rfl rfl (D_ne (b := 0) (by omega))
theorem x156_71b : XX X d 156 (71, L, .int (ii (b2i b)) :: st, M) Q = bq (b = true) X d 156 79 74 L st M Q := (x156_71 (b2i_r b)).trans (by rw [b2i_n0])
theorem x156_74 : XX X d 156 (74, [some (.ref a), l1, l2], st, M) Q = XX X d 156 (75, [some (.ref a), l1, l2], .ref a :: st, M) Q := H_ld rfl rfl rfl rfl rfl
theorem x156_75 (hd : 0 < d) (hs : stB st = true) : XX X d 156 (75, L, .ref a :: st, M) Q = (mcl M a = some 9 ∧ CC X (d - 1) 153 [.ref a] M (XC X d 156 75 78 L st Q)) := H_virt [] rfl (by decide) rfl rfl rfl rfl rfl hd hs
theorem x156_78 : XX X d 156 (78, L, [.int (ii p)], M) Q = Q (.inl (some (.int (ii p)))) M := G_ret rfl ⟨⟨⟨rfl, rfl, rfl, by decide⟩, rfl, rfl⟩, rfl, rfl⟩ rfl
theorem x156_79 : XX X d 156 (79, [some (.ref a), l1, l2], st, M) Q = XX X d 156 (80, [some (.ref a), l1, l2], .ref a :: st, M) Q := H_ld rfl rfl rfl rfl rfl
theorem x156_80 (h : v.category = 1) : XX X d 156 (80, L, v :: st, M) Q = XX X d 156 (81, L, v :: v :: st, M) Q := G_sop rfl ⟨rfl, rfl, rfl, by decide⟩ (if_pos h) rfl
theorem x156_81 : XX X d 156 (81, L, .ref a :: st, M) Q = yg (M.2.2 a) 9 17 X d 156 84 L st M Q := G_getf rfl (by decide) rfl rfl rfl
theorem x156_84 : XX X d 156 (84, L, st, M) Q = XX X d 156 (85, L, .int (ii 1) :: st, M) Q := G_cst rfl rfl rfl rfl rfl
theorem x156_85 : XX X d 156 (85, L, .int (ii q) :: .int (ii p) :: st, M) Q = XX X d 156 (86, L, .int (ii (p + q)) :: st, M) Q := H_add rfl (by decide) rfl
theorem x156_86 : XX X d 156 (86, L, v :: .ref a :: st, M) Q = yp (M.2.2 a) a 9 17 v X d 156 89 L st M Q := G_putf rfl (by decide) rfl rfl rfl
theorem x156_89 : XX X d 156 (89, [l0, l1, some (.int x)], st, M) Q = XX X d 156 (90, [l0, l1, some (.int x)], .int x :: st, M) Q := H_ld rfl rfl rfl rfl rfl
theorem x156_90 : XX X d 156 (90, L, st, M) Q = XX X d 156 (92, L, .int (ii 42) :: st, M) Q := G_cst rfl rfl rfl rfl rfl
theorem x156_92 (h : -2147483648 ≤ p ∧ p ≤ 2147483647 ∧ -2147483648 ≤ q ∧ q ≤ 2147483647) : XX X d 156 (92, L, .int (ii q) :: .int (ii p) :: st, M) Q = bq (p ≠ q) X d 156 109 95 L st M Q := H_if2 rfl ⟨rfl, rfl, rfl, by decide⟩ rfl rfl rfl rfl (D_ne h)
theorem x156_95 : XX X d 156 (95, [some (.ref a), l1, l2], st, M) Q = XX X d 156 (96, [some (.ref a), l1, l2], .ref a :: st, M) Q := H_ld rfl rfl rfl rfl rfl
theorem x156_96 : XX X d 156 (96, L, st, M) Q = XX X d 156 (98, L, .int (ii 6) :: st, M) Q := G_cst rfl rfl rfl rfl rfl
theorem x156_98 : XX X d 156 (98, [l0, some (.int x), l2], st, M) Q = XX X d 156 (99, [l0, some (.int x), l2], .int x :: st, M) Q := H_ld rfl rfl rfl rfl rfl
theorem x156_99 : XX X d 156 (99, L, st, M) Q = XX X d 156 (100, L, .int (ii 0) :: st, M) Q := G_cst rfl rfl rfl rfl rfl
theorem x156_100 : XX X d 156 (100, L, st, M) Q = XX X d 156 (101, L, .int (ii 0) :: st, M) Q := G_cst rfl rfl rfl rfl rfl
theorem x156_101 : XX X d 156 (101, L, st, M) Q = XX X d 156 (103, L, .int (ii 1000000) :: st, M) Q := G_cst rfl rfl rfl rfl rfl
theorem x156_103 {v1 v2 v3 v4 v5 : Value} (hd : 0 < d) (hs : stB st = true) : XX X d 156 (103, L, v5 :: v4 :: v3 :: v2 :: v1 :: .ref a :: st, M) Q = (mcl M a = some 9 ∧ CC X (d - 1) 152 [.ref a, v1, v2, v3, v4, v5] M (XC X d 156 103 106 L st Q)) := H_virt [v1, v2, v3, v4, v5] rfl (by decide) rfl rfl rfl rfl rfl hd hs
theorem x156_106 : XX X d 156 (106, L, st, M) Q = XX X d 156 (125, L, st, M) Q := H_jmp rfl (by decide) rfl
theorem x156_109 : XX X d 156 (109, [some (.ref a), l1, l2], st, M) Q = XX X d 156 (110, [some (.ref a), l1, l2], .ref a :: st, M) Q := H_ld rfl rfl rfl rfl rfl
theorem x156_110 : XX X d 156 (110, L, st, M) Q = XX X d 156 (112, L, .int (ii 7) :: st, M) Q := G_cst rfl rfl rfl rfl rfl
theorem x156_112 : XX X d 156 (112, [l0, some (.int x), l2], st, M) Q = XX X d 156 (113, [l0, some (.int x), l2], .int x :: st, M) Q := H_ld rfl rfl rfl rfl rfl
theorem x156_113 : XX X d 156 (113, L, st, M) Q = XX X d 156 (114, L, .int (ii 0) :: st, M) Q := G_cst rfl rfl rfl rfl rfl
theorem x156_114 : XX X d 156 (114, [some (.ref a), l1, l2], st, M) Q = XX X d 156 (115, [some (.ref a), l1, l2], .ref a :: st, M) Q := H_ld rfl rfl rfl rfl rfl
theorem x156_115 : XX X d 156 (115, L, .ref a :: st, M) Q = yg (M.2.2 a) 9 22 X d 156 118 L st M Q := G_getf rfl (by decide) rfl rfl rfl
theorem x156_118 : XX X d 156 (118, [l0, some (.int x), l2], st, M) Q = XX X d 156 (119, [l0, some (.int x), l2], .int x :: st, M) Q := H_ld rfl rfl rfl rfl rfl
theorem x156_119 : XX X d 156 (119, L, .int x :: .ref a :: st, M) Q = ya (M.2.2 a) .iaload x X d 156 120 L st M Q := G_ald rfl ⟨⟨rfl, rfl, rfl, by decide⟩, rfl, rfl⟩ rfl rfl
theorem x156_120 : XX X d 156 (120, L, st, M) Q = XX X d 156 (122, L, .int (ii 1000000) :: st, M) Q := G_cst rfl rfl rfl rfl rfl
theorem x156_122 {v1 v2 v3 v4 v5 : Value} (hd : 0 < d) (hs : stB st = true) : XX X d 156 (122, L, v5 :: v4 :: v3 :: v2 :: v1 :: .ref a :: st, M) Q = (mcl M a = some 9 ∧ CC X (d - 1) 152 [.ref a, v1, v2, v3, v4, v5] M (XC X d 156 122 125 L st Q)) := H_virt [v1, v2, v3, v4, v5] rfl (by decide) rfl rfl rfl rfl rfl hd hs
theorem x156_125 : XX X d 156 (125, L, [.int (ii p)], M) Q = Q (.inl (some (.int (ii p)))) M := G_ret rfl ⟨⟨⟨rfl, rfl, rfl, by decide⟩, rfl, rfl⟩, rfl, rfl⟩ rfl
theorem e156 : CC X d 156 [.ref a] M Q = XX X d 156 (0, [some (.ref a), none, none], [], M) Q := H_ent rfl rfl
-- 157 X9_atom ()I
theorem x157_0 : XX X d 157 (0, [some (.ref a), l1], st, M) Q = XX X d 157 (1, [some (.ref a), l1], .ref a :: st, M) Q := H_ld rfl rfl rfl rfl rfl
theorem x157_1 (hd : 0 < d) (hs : stB st = true) : XX X d 157 (1, L, .ref a :: st, M) Q = (mcl M a = some 9 ∧ CC X (d - 1) 150 [.ref a] M (XC X d 157 1 4 L st Q)) := H_virt [] rfl (by decide) rfl rfl rfl rfl rfl hd hs
theorem x157_4 (h : wide (some l0) = false) : XX X d 157 (4, [l0, l1], .int x :: st, M) Q = XX X d 157 (5, [l0, some (.int x)], st, M) Q := H_st rfl rfl rfl rfl rfl rfl rfl rfl (Or.inr h)
theorem x157_5 : XX X d 157 (5, [l0, some (.int x)], st, M) Q = XX X d 157 (6, [l0, some (.int x)], .int x :: st, M) Q := H_ld rfl rfl rfl rfl rfl
theorem x157_6 : XX X d 157 (6, L, st, M) Q = XX X d 157 (8, L, .int (ii 40) :: st, M) Q := G_cst rfl rfl rfl rfl rfl
theorem x157_8 (h : -2147483648 ≤ p ∧ p ≤ 2147483647 ∧ -2147483648 ≤ q ∧ q ≤ 2147483647) : XX X d 157 (8, L, .int (ii q) :: .int (ii p) :: st, M) Q = bq (p ≠ q) X d 157 16 11 L st M Q := H_if2 rfl ⟨rfl, rfl, rfl, by decide⟩ rfl rfl rfl rfl (D_ne h)
theorem x157_11 : XX X d 157 (11, [some (.ref a), l1], st, M) Q = XX X d 157 (12, [some (.ref a), l1], .ref a :: st, M) Q := H_ld rfl rfl rfl rfl rfl
theorem x157_12 (hd : 0 < d) (hs : stB st = true) : XX X d 157 (12, L, .ref a :: st, M) Q = (mcl M a = some 9 ∧ CC X (d - 1) 158 [.ref a] M (XC X d 157 12 15 L st Q)) := H_virt [] rfl (by decide) rfl rfl rfl rfl rfl hd hs
theorem x157_15 : XX X d 157 (15, L, [.int (ii p)], M) Q = Q (.inl (some (.int (ii p)))) M := G_ret rfl ⟨⟨⟨rfl, rfl, rfl, by decide⟩, rfl, rfl⟩, rfl, rfl⟩ rfl
theorem x157_16 : XX X d 157 (16, [l0, some (.int x)], st, M) Q = XX X d 157 (17, [l0, some (.int x)], .int x :: st, M) Q := H_ld rfl rfl rfl rfl rfl
theorem x157_17 : XX X d 157 (17, L, st, M) Q = XX X d 157 (19, L, .int (ii 91) :: st, M) Q := G_cst rfl rfl rfl rfl rfl
theorem x157_19 (h : -2147483648 ≤ p ∧ p ≤ 2147483647 ∧ -2147483648 ≤ q ∧ q ≤ 2147483647) : XX X d 157 (19, L, .int (ii q) :: .int (ii p) :: st, M) Q = bq (p ≠ q) X d 157 27 22 L st M Q := H_if2 rfl ⟨rfl, rfl, rfl, by decide⟩ rfl rfl rfl rfl (D_ne h)
theorem x157_22 : XX X d 157 (22, [some (.ref a), l1], st, M) Q = XX X d 157 (23, [some (.ref a), l1], .ref a :: st, M) Q := H_ld rfl rfl rfl rfl rfl
theorem x157_23 (hd : 0 < d) (hs : stB st = true) : XX X d 157 (23, L, .ref a :: st, M) Q = (mcl M a = some 9 ∧ CC X (d - 1) 159 [.ref a] M (XC X d 157 23 26 L st Q)) := H_virt [] rfl (by decide) rfl rfl rfl rfl rfl hd hs
theorem x157_26 : XX X d 157 (26, L, [.int (ii p)], M) Q = Q (.inl (some (.int (ii p)))) M := G_ret rfl ⟨⟨⟨rfl, rfl, rfl, by decide⟩, rfl, rfl⟩, rfl, rfl⟩ rfl
theorem x157_27 : XX X d 157 (27, [some (.ref a), l1], st, M) Q = XX X d 157 (28, [some (.ref a), l1], .ref a :: st, M) Q := H_ld rfl rfl rfl rfl rfl
theorem x157_28 (h : v.category = 1) : XX X d 157 (28, L, v :: st, M) Q = XX X d 157 (29, L, v :: v :: st, M) Q := G_sop rfl ⟨rfl, rfl, rfl, by decide⟩ (if_pos h) rfl
theorem x157_29 : XX X d 157 (29, L, .ref a :: st, M) Q = yg (M.2.2 a) 9 17 X d 157 32 L st M Q := G_getf rfl (by decide) rfl rfl rfl
theorem x157_32 : XX X d 157 (32, L, st, M) Q = XX X d 157 (33, L, .int (ii 1) :: st, M) Q := G_cst rfl rfl rfl rfl rfl
theorem x157_33 : XX X d 157 (33, L, .int (ii q) :: .int (ii p) :: st, M) Q = XX X d 157 (34, L, .int (ii (p + q)) :: st, M) Q := H_add rfl (by decide) rfl
theorem x157_34 : XX X d 157 (34, L, v :: .ref a :: st, M) Q = yp (M.2.2 a) a 9 17 v X d 157 37 L st M Q := G_putf rfl (by decide) rfl rfl rfl
theorem x157_37 : XX X d 157 (37, [l0, some (.int x)], st, M) Q = XX X d 157 (38, [l0, some (.int x)], .int x :: st, M) Q := H_ld rfl rfl rfl rfl rfl
theorem x157_38 : XX X d 157 (38, L, st, M) Q = XX X d 157 (40, L, .int (ii 46) :: st, M) Q := G_cst rfl rfl rfl rfl rfl
theorem x157_40 (h : -2147483648 ≤ p ∧ p ≤ 2147483647 ∧ -2147483648 ≤ q ∧ q ≤ 2147483647) : XX X d 157 (40, L, .int (ii q) :: .int (ii p) :: st, M) Q = bq (p ≠ q) X d 157 55 43 L st M Q := H_if2 rfl ⟨rfl, rfl, rfl, by decide⟩ rfl rfl rfl rfl (D_ne h)
theorem x157_43 : XX X d 157 (43, [some (.ref a), l1], st, M) Q = XX X d 157 (44, [some (.ref a), l1], .ref a :: st, M) Q := H_ld rfl rfl rfl rfl rfl
theorem x157_44 : XX X d 157 (44, L, st, M) Q = XX X d 157 (45, L, .int (ii 2) :: st, M) Q := G_cst rfl rfl rfl rfl rfl
theorem x157_45 : XX X d 157 (45, L, st, M) Q = XX X d 157 (46, L, .int (ii 0) :: st, M) Q := G_cst rfl rfl rfl rfl rfl
theorem x157_46 : XX X d 157 (46, L, st, M) Q = XX X d 157 (47, L, .int (ii 0) :: st, M) Q := G_cst rfl rfl rfl rfl rfl
theorem x157_47 : XX X d 157 (47, L, st, M) Q = XX X d 157 (48, L, .int (ii 1) :: st, M) Q := G_cst rfl rfl rfl rfl rfl
theorem x157_48 : XX X d 157 (48, L, st, M) Q = XX X d 157 (49, L, .int (ii 1) :: st, M) Q := G_cst rfl rfl rfl rfl rfl
theorem x157_49 {v1 v2 v3 v4 v5 : Value} (hd : 0 < d) (hs : stB st = true) : XX X d 157 (49, L, v5 :: v4 :: v3 :: v2 :: v1 :: .ref a :: st, M) Q = (mcl M a = some 9 ∧ CC X (d - 1) 152 [.ref a, v1, v2, v3, v4, v5] M (XC X d 157 49 52 L st Q)) := H_virt [v1, v2, v3, v4, v5] rfl (by decide) rfl rfl rfl rfl rfl hd hs
theorem x157_52 : XX X d 157 (52, L, st, M) Q = XX X d 157 (64, L, st, M) Q := H_jmp rfl (by decide) rfl
theorem x157_55 : XX X d 157 (55, [some (.ref a), l1], st, M) Q = XX X d 157 (56, [some (.ref a), l1], .ref a :: st, M) Q := H_ld rfl rfl rfl rfl rfl
theorem x157_56 : XX X d 157 (56, L, st, M) Q = XX X d 157 (57, L, .int (ii 1) :: st, M) Q := G_cst rfl rfl rfl rfl rfl
theorem x157_57 : XX X d 157 (57, [l0, some (.int x)], st, M) Q = XX X d 157 (58, [l0, some (.int x)], .int x :: st, M) Q := H_ld rfl rfl rfl rfl rfl
theorem x157_58 : XX X d 157 (58, L, st, M) Q = XX X d 157 (59, L, .int (ii 0) :: st, M) Q := G_cst rfl rfl rfl rfl rfl
theorem x157_59 : XX X d 157 (59, L, st, M) Q = XX X d 157 (60, L, .int (ii 1) :: st, M) Q := G_cst rfl rfl rfl rfl rfl
theorem x157_60 : XX X d 157 (60, L, st, M) Q = XX X d 157 (61, L, .int (ii 1) :: st, M) Q := G_cst rfl rfl rfl rfl rfl
theorem x157_61 {v1 v2 v3 v4 v5 : Value} (hd : 0 < d) (hs : stB st = true) : XX X d 157 (61, L, v5 :: v4 :: v3 :: v2 :: v1 :: .ref a :: st, M) Q = (mcl M a = some 9 ∧ CC X (d - 1) 152 [.ref a, v1, v2, v3, v4, v5] M (XC X d 157 61 64 L st Q)) := H_virt [v1, v2, v3, v4, v5] rfl (by decide) rfl rfl rfl rfl rfl hd hs
theorem x157_64 : XX X d 157 (64, L, [.int (ii p)], M) Q = Q (.inl (some (.int (ii p)))) M := G_ret rfl ⟨⟨⟨rfl, rfl, rfl, by decide⟩, rfl, rfl⟩, rfl, rfl⟩ rfl
theorem e157 : CC X d 157 [.ref a] M Q = XX X d 157 (0, [some (.ref a), none], [], M) Q := H_ent rfl rfl
-- 158 X9_group ()I
theorem x158_0 : XX X d 158 (0, [some (.ref a), l1, l2], st, M) Q = XX X d 158 (1, [some (.ref a), l1, l2], .ref a :: st, M) Q := H_ld rfl rfl rfl rfl rfl
theorem x158_1 : XX X d 158 (1, L, .ref a :: st, M) Q = yg (M.2.2 a) 9 25 X d 158 4 L st M Q := G_getf rfl (by decide) rfl rfl rfl
theorem x158_4 : XX X d 158 (4, L, st, M) Q = XX X d 158 (5, L, .int (ii 5) :: st, M) Q := G_cst rfl rfl rfl rfl rfl
theorem x158_5 (h : -2147483648 ≤ p ∧ p ≤ 2147483647 ∧ -2147483648 ≤ q ∧ q ≤ 2147483647) : XX X d 158 (5, L, .int (ii q) :: .int (ii p) :: st, M) Q = bq (p ≠ q) X d 158 13 8 L st M Q := H_if2 rfl ⟨rfl, rfl, rfl, by decide⟩ rfl rfl rfl rfl (D_ne h)
theorem x158_8 : XX X d 158 (8, [some (.ref a), l1, l2], st, M) Q = XX X d 158 (9, [some (.ref a), l1, l2], .ref a :: st, M) Q := H_ld rfl rfl rfl rfl rfl
theorem x158_9 (hd : 0 < d) (hs : stB st = true) : XX X d 158 (9, L, .ref a :: st, M) Q = (mcl M a = some 9 ∧ CC X (d - 1) 153 [.ref a] M (XC X d 158 9 12 L st Q)) := H_virt [] rfl (by decide) rfl rfl rfl rfl rfl hd hs
theorem x158_12 : XX X d 158 (12, L, [.int (ii p)], M) Q = Q (.inl (some (.int (ii p)))) M := G_ret rfl ⟨⟨⟨rfl, rfl, rfl, by decide⟩, rfl, rfl⟩, rfl, rfl⟩ rfl
theorem x158_13 : XX X d 158 (13, [some (.ref a), l1, l2], st, M) Q = XX X d 158 (14, [some (.ref a), l1, l2], .ref a :: st, M) Q := H_ld rfl rfl rfl rfl rfl
theorem x158_14 (h : v.category = 1) : XX X d 158 (14, L, v :: st, M) Q = XX X d 158 (15, L, v :: v :: st, M) Q := G_sop rfl ⟨rfl, rfl, rfl, by decide⟩ (if_pos h) rfl
theorem x158_15 : XX X d 158 (15, L, .ref a :: st, M) Q = yg (M.2.2 a) 9 25 X d 158 18 L st M Q := G_getf rfl (by decide) rfl rfl rfl
theorem x158_18 : XX X d 158 (18, L, st, M) Q = XX X d 158 (19, L, .int (ii 1) :: st, M) Q := G_cst rfl rfl rfl rfl rfl
theorem x158_19 : XX X d 158 (19, L, .int (ii q) :: .int (ii p) :: st, M) Q = XX X d 158 (20, L, .int (ii (p + q)) :: st, M) Q := H_add rfl (by decide) rfl
theorem x158_20 : XX X d 158 (20, L, v :: .ref a :: st, M) Q = yp (M.2.2 a) a 9 25 v X d 158 23 L st M Q := G_putf rfl (by decide) rfl rfl rfl
theorem x158_23 : XX X d 158 (23, [some (.ref a), l1, l2], st, M) Q = XX X d 158 (24, [some (.ref a), l1, l2], .ref a :: st, M) Q := H_ld rfl rfl rfl rfl rfl
theorem x158_24 : XX X d 158 (24, L, .ref a :: st, M) Q = yg (M.2.2 a) 9 25 X d 158 27 L st M Q := G_getf rfl (by decide) rfl rfl rfl
theorem x158_27 (h : wide (some l0) = false) : XX X d 158 (27, [l0, l1, l2], .int x :: st, M) Q = XX X d 158 (28, [l0, some (.int x), l2], st, M) Q := H_st rfl rfl rfl rfl rfl rfl rfl rfl (Or.inr h)
theorem x158_28 : XX X d 158 (28, [some (.ref a), l1, l2], st, M) Q = XX X d 158 (29, [some (.ref a), l1, l2], .ref a :: st, M) Q := H_ld rfl rfl rfl rfl rfl
theorem x158_29 (h : v.category = 1) : XX X d 158 (29, L, v :: st, M) Q = XX X d 158 (30, L, v :: v :: st, M) Q := G_sop rfl ⟨rfl, rfl, rfl, by decide⟩ (if_pos h) rfl
theorem x158_30 : XX X d 158 (30, L, .ref a :: st, M) Q = yg (M.2.2 a) 9 17 X d 158 33 L st M Q := G_getf rfl (by decide) rfl rfl rfl
theorem x158_33 : XX X d 158 (33, L, st, M) Q = XX X d 158 (34, L, .int (ii 1) :: st, M) Q := G_cst rfl rfl rfl rfl rfl
theorem x158_34 : XX X d 158 (34, L, .int (ii q) :: .int (ii p) :: st, M) Q = XX X d 158 (35, L, .int (ii (p + q)) :: st, M) Q := H_add rfl (by decide) rfl
theorem x158_35 : XX X d 158 (35, L, v :: .ref a :: st, M) Q = yp (M.2.2 a) a 9 17 v X d 158 38 L st M Q := G_putf rfl (by decide) rfl rfl rfl
theorem x158_38 : XX X d 158 (38, [some (.ref a), l1, l2], st, M) Q = XX X d 158 (39, [some (.ref a), l1, l2], .ref a :: st, M) Q := H_ld rfl rfl rfl rfl rfl
theorem x158_39 (hd : 0 < d) (hs : stB st = true) : XX X d 158 (39, L, .ref a :: st, M) Q = (mcl M a = some 9 ∧ CC X (d - 1) 154 [.ref a] M (XC X d 158 39 42 L st Q)) := H_virt [] rfl (by decide) rfl rfl rfl rfl rfl hd hs
theorem x158_42 (h : wide (some l1) = false) : XX X d 158 (42, [l0, l1, l2], .int x :: st, M) Q = XX X d 158 (43, [l0, l1, some (.int x)], st, M) Q := H_st rfl rfl rfl rfl rfl rfl rfl rfl (Or.inr h)
theorem x158_43 : XX X d 158 (43, [some (.ref a), l1, l2], st, M) Q = XX X d 158 (44, [some (.ref a), l1, l2], .ref a :: st, M) Q := H_ld rfl rfl rfl rfl rfl
theorem x158_44 : XX X d 158 (44, L, .ref a :: st, M) Q = yg (M.2.2 a) 9 18 X d 158 47 L st M Q := G_getf rfl (by decide) rfl rfl rfl
theorem x158_47 (h : -2147483648 ≤ p ∧ p ≤ 2147483647) : XX X d 158 (47, L, .int (ii p) :: st, M) Q = bq (p ≠ 0) X d 158 59 50 L st M Q := H_if rfl ⟨rfl, rfl, rfl, by decide⟩ rfl rfl rfl rfl (D_ne (b := 0) (by omega))
theorem x158_47b : XX X d 158 (47, L, .int (ii (b2i b)) :: st, M) Q = bq (b = true) X d 158 59 50 L st M Q := (x158_47 (b2i_r b)).trans (by rw [b2i_n0])
theorem x158_50 : XX X d 158 (50, [some (.ref a), l1, l2], st, M) Q = XX X d 158 (51, [some (.ref a), l1, l2], .ref a :: st, M) Q := H_ld rfl rfl rfl rfl rfl
theorem x158_51 (hd : 0 < d) (hs : stB st = true) : XX X d 158 (51, L, .ref a :: st, M) Q = (mcl M a = some 9 ∧ CC X (d - 1) 150 [.ref a] M (XC X d 158 51 54 L st Q)) := H_virt [] rfl (by decide) rfl rfl rfl rfl rfl hd hs
theorem x158_54 : XX X d 158 (54, L, st, M) Q = XX X d 158 (56, L, .int (ii 41) :: st, M) Q := G_cst rfl rfl rfl rfl rfl
theorem x158_56 (h : -2147483648 ≤ p ∧ p ≤ 2147483647 ∧ -2147483648 ≤ q ∧ q ≤ 2147483647) : XX X d 158 (56, L, .int (ii q) :: .int (ii p) :: st, M) Q = bq (p = q) X d 158 64 59 L st M Q := H_if2 rfl ⟨rfl, rfl, rfl, by decide⟩ rfl rfl rfl rfl (D_eq h)
theorem x158_59 : XX X d 158 (59, [some (.ref a), l1, l2], st, M) Q = XX X d 158 (60, [some (.ref a), l1, l2], .ref a :: st, M) Q := H_ld rfl rfl rfl rfl rfl
theorem x158_60 (hd : 0 < d) (hs : stB st = true) : XX X d 158 (60, L, .ref a :: st, M) Q = (mcl M a = some 9 ∧ CC X (d - 1) 153 [.ref a] M (XC X d 158 60 63 L st Q)) := H_virt [] rfl (by decide) rfl rfl rfl rfl rfl hd hs
theorem x158_63 : XX X d 158 (63, L, [.int (ii p)], M) Q = Q (.inl (some (.int (ii p)))) M := G_ret rfl ⟨⟨⟨rfl, rfl, rfl, by decide⟩, rfl, rfl⟩, rfl, rfl⟩ rfl
theorem x158_64 : XX X d 158 (64, [some (.ref a), l1, l2], st, M) Q = XX X d 158 (65, [some (.ref a), l1, l2], .ref a :: st, M) Q := H_ld rfl rfl rfl rfl rfl
theorem x158_65 (h : v.category = 1) : XX X d 158 (65, L, v :: st, M) Q = XX X d 158 (66, L, v :: v :: st, M) Q := G_sop rfl ⟨rfl, rfl, rfl, by decide⟩ (if_pos h) rfl
theorem x158_66 : XX X d 158 (66, L, .ref a :: st, M) Q = yg (M.2.2 a) 9 17 X d 158 69 L st M Q := G_getf rfl (by decide) rfl rfl rfl
theorem x158_69 : XX X d 158 (69, L, st, M) Q = XX X d 158 (70, L, .int (ii 1) :: st, M) Q := G_cst rfl rfl rfl rfl rfl
theorem x158_70 : XX X d 158 (70, L, .int (ii q) :: .int (ii p) :: st, M) Q = XX X d 158 (71, L, .int (ii (p + q)) :: st, M) Q := H_add rfl (by decide) rfl
theorem x158_71 : XX X d 158 (71, L, v :: .ref a :: st, M) Q = yp (M.2.2 a) a 9 17 v X d 158 74 L st M Q := G_putf rfl (by decide) rfl rfl rfl
theorem x158_74 : XX X d 158 (74, [some (.ref a), l1, l2], st, M) Q = XX X d 158 (75, [some (.ref a), l1, l2], .ref a :: st, M) Q := H_ld rfl rfl rfl rfl rfl
theorem x158_75 : XX X d 158 (75, L, st, M) Q = XX X d 158 (77, L, .int (ii 9) :: st, M) Q := G_cst rfl rfl rfl rfl rfl
theorem x158_77 : XX X d 158 (77, [l0, l1, some (.int x)], st, M) Q = XX X d 158 (78, [l0, l1, some (.int x)], .int x :: st, M) Q := H_ld rfl rfl rfl rfl rfl
theorem x158_78 : XX X d 158 (78, [l0, some (.int x), l2], st, M) Q = XX X d 158 (79, [l0, some (.int x), l2], .int x :: st, M) Q := H_ld rfl rfl rfl rfl rfl
theorem x158_79 : XX X d 158 (79, [some (.ref a), l1, l2], st, M) Q = XX X d 158 (80, [some (.ref a), l1, l2], .ref a :: st, M) Q := H_ld rfl rfl rfl rfl rfl
theorem x158_80 : XX X d 158 (80, L, .ref a :: st, M) Q = yg (M.2.2 a) 9 22 X d 158 83 L st M Q := G_getf rfl (by decide) rfl rfl rfl
theorem x158_83 : XX X d 158 (83, [l0, l1, some (.int x)], st, M) Q = XX X d 158 (84, [l0, l1, some (.int x)], .int x :: st, M) Q := H_ld rfl rfl rfl rfl rfl
theorem x158_84 : XX X d 158 (84, L, .int x :: .ref a :: st, M) Q = ya (M.2.2 a) .iaload x X d 158 85 L st M Q := G_ald rfl ⟨⟨rfl, rfl, rfl, by decide⟩, rfl, rfl⟩ rfl rfl
theorem x158_85 : XX X d 158 (85, [some (.ref a), l1, l2], st, M) Q = XX X d 158 (86, [some (.ref a), l1, l2], .ref a :: st, M) Q := H_ld rfl rfl rfl rfl rfl
theorem x158_86 : XX X d 158 (86, L, .ref a :: st, M) Q = yg (M.2.2 a) 9 23 X d 158 89 L st M Q := G_getf rfl (by decide) rfl rfl rfl
theorem x158_89 : XX X d 158 (89, [l0, l1, some (.int x)], st, M) Q = XX X d 158 (90, [l0, l1, some (.int x)], .int x :: st, M) Q := H_ld rfl rfl rfl rfl rfl
theorem x158_90 : XX X d 158 (90, L, .int x :: .ref a :: st, M) Q = ya (M.2.2 a) .iaload x X d 158 91 L st M Q := G_ald rfl ⟨⟨rfl, rfl, rfl, by decide⟩, rfl, rfl⟩ rfl rfl
theorem x158_91 {v1 v2 v3 v4 v5 : Value} (hd : 0 < d) (hs : stB st = true) : XX X d 158 (91, L, v5 :: v4 :: v3 :: v2 :: v1 :: .ref a :: st, M) Q = (mcl M a = some 9 ∧ CC X (d - 1) 152 [.ref a, v1, v2, v3, v4, v5] M (XC X d 158 91 94 L st Q)) := H_virt [v1, v2, v3, v4, v5] rfl (by decide) rfl rfl rfl rfl rfl hd hs
theorem x158_94 : XX X d 158 (94, L, [.int (ii p)], M) Q = Q (.inl (some (.int (ii p)))) M := G_ret rfl ⟨⟨⟨rfl, rfl, rfl, by decide⟩, rfl, rfl⟩, rfl, rfl⟩ rfl
theorem e158 : CC X d 158 [.ref a] M Q = XX X d 158 (0, [some (.ref a), none, none], [], M) Q := H_ent rfl rfl
-- 159 X9_set ()I
theorem x159_0 : XX X d 159 (0, [some (.ref a), l1, l2], st, M) Q = XX X d 159 (1, [some (.ref a), l1, l2], .ref a :: st, M) Q := H_ld rfl rfl rfl rfl rfl
theorem x159_1 (h : v.category = 1) : XX X d 159 (1, L, v :: st, M) Q = XX X d 159 (2, L, v :: v :: st, M) Q := G_sop rfl ⟨rfl, rfl, rfl, by decide⟩ (if_pos h) rfl
theorem x159_2 : XX X d 159 (2, L, .ref a :: st, M) Q = yg (M.2.2 a) 9 17 X d 159 5 L st M Q := G_getf rfl (by decide) rfl rfl rfl
theorem x159_5 : XX X d 159 (5, L, st, M) Q = XX X d 159 (6, L, .int (ii 1) :: st, M) Q := G_cst rfl rfl rfl rfl rfl
theorem x159_6 : XX X d 159 (6, L, .int (ii q) :: .int (ii p) :: st, M) Q = XX X d 159 (7, L, .int (ii (p + q)) :: st, M) Q := H_add rfl (by decide) rfl
theorem x159_7 : XX X d 159 (7, L, v :: .ref a :: st, M) Q = yp (M.2.2 a) a 9 17 v X d 159 10 L st M Q := G_putf rfl (by decide) rfl rfl rfl
theorem x159_10 : XX X d 159 (10, [some (.ref a), l1, l2], st, M) Q = XX X d 159 (11, [some (.ref a), l1, l2], .ref a :: st, M) Q := H_ld rfl rfl rfl rfl rfl
theorem x159_11 (hd : 0 < d) (hs : stB st = true) : XX X d 159 (11, L, .ref a :: st, M) Q = (mcl M a = some 9 ∧ CC X (d - 1) 150 [.ref a] M (XC X d 159 11 14 L st Q)) := H_virt [] rfl (by decide) rfl rfl rfl rfl rfl hd hs
theorem x159_14 : XX X d 159 (14, L, st, M) Q = XX X d 159 (16, L, .int (ii 94) :: st, M) Q := G_cst rfl rfl rfl rfl rfl
theorem x159_16 (h : -2147483648 ≤ p ∧ p ≤ 2147483647 ∧ -2147483648 ≤ q ∧ q ≤ 2147483647) : XX X d 159 (16, L, .int (ii q) :: .int (ii p) :: st, M) Q = bq (p ≠ q) X d 159 23 19 L st M Q := H_if2 rfl ⟨rfl, rfl, rfl, by decide⟩ rfl rfl rfl rfl (D_ne h)
theorem x159_19 : XX X d 159 (19, L, st, M) Q = XX X d 159 (20, L, .int (ii 1) :: st, M) Q := G_cst rfl rfl rfl rfl rfl
theorem x159_20 : XX X d 159 (20, L, st, M) Q = XX X d 159 (24, L, st, M) Q := H_jmp rfl (by decide) rfl
theorem x159_23 : XX X d 159 (23, L, st, M) Q = XX X d 159 (24, L, .int (ii 0) :: st, M) Q := G_cst rfl rfl rfl rfl rfl
theorem x159_24 (h : wide (some l0) = false) : XX X d 159 (24, [l0, l1, l2], .int x :: st, M) Q = XX X d 159 (25, [l0, some (.int x), l2], st, M) Q := H_st rfl rfl rfl rfl rfl rfl rfl rfl (Or.inr h)
theorem x159_25 : XX X d 159 (25, [l0, some (.int x), l2], st, M) Q = XX X d 159 (26, [l0, some (.int x), l2], .int x :: st, M) Q := H_ld rfl rfl rfl rfl rfl
theorem x159_26 (h : -2147483648 ≤ p ∧ p ≤ 2147483647) : XX X d 159 (26, L, .int (ii p) :: st, M) Q = bq (p = 0) X d 159 39 29 L st M Q := H_if rfl ⟨rfl, rfl, rfl, by decide⟩ rfl rfl rfl rfl (D_eq (b := 0) (by omega))
theorem x159_26b : XX X d 159 (26, L, .int (ii (b2i b)) :: st, M) Q = bq (b = false) X d 159 39 29 L st M Q := (x159_26 (b2i_r b)).trans (by rw [b2i_0])
theorem x159_29 : XX X d 159 (29, [some (.ref a), l1, l2], st, M) Q = XX X d 159 (30, [some (.ref a), l1, l2], .ref a :: st, M) Q := H_ld rfl rfl rfl rfl rfl
theorem x159_30 (h : v.category = 1) : XX X d 159 (30, L, v :: st, M) Q = XX X d 159 (31, L, v :: v :: st, M) Q := G_sop rfl ⟨rfl, rfl, rfl, by decide⟩ (if_pos h) rfl
theorem x159_31 : XX X d 159 (31, L, .ref a :: st, M) Q = yg (M.2.2 a) 9 17 X d 159 34 L st M Q := G_getf rfl (by decide) rfl rfl rfl
theorem x159_34 : XX X d 159 (34, L, st, M) Q = XX X d 159 (35, L, .int (ii 1) :: st, M) Q := G_cst rfl rfl rfl rfl rfl
theorem x159_35 : XX X d 159 (35, L, .int (ii q) :: .int (ii p) :: st, M) Q = XX X d 159 (36, L, .int (ii (p + q)) :: st, M) Q := H_add rfl (by decide) rfl
theorem x159_36 : XX X d 159 (36, L, v :: .ref a :: st, M) Q = yp (M.2.2 a) a 9 17 v X d 159 39 L st M Q := G_putf rfl (by decide) rfl rfl rfl
theorem x159_39 : XX X d 159 (39, [some (.ref a), l1, l2], st, M) Q = XX X d 159 (40, [some (.ref a), l1, l2], .ref a :: st, M) Q := H_ld rfl rfl rfl rfl rfl
theorem x159_40 : XX X d 159 (40, L, .ref a :: st, M) Q = yg (M.2.2 a) 9 17 X d 159 43 L st M Q := G_getf rfl (by decide) rfl rfl rfl
theorem x159_43 (h : wide (some l1) = false) : XX X d 159 (43, [l0, l1, l2], .int x :: st, M) Q = XX X d 159 (44, [l0, l1, some (.int x)], st, M) Q := H_st rfl rfl rfl rfl rfl rfl rfl rfl (Or.inr h)
theorem x159_44 : XX X d 159 (44, [some (.ref a), l1, l2], st, M) Q = XX X d 159 (45, [some (.ref a), l1, l2], .ref a :: st, M) Q := H_ld rfl rfl rfl rfl rfl
theorem x159_45 (hd : 0 < d) (hs : stB st = true) : XX X d 159 (45, L, .ref a :: st, M) Q = (mcl M a = some 9 ∧ CC X (d - 1) 150 [.ref a] M (XC X d 159 45 48 L st Q)) := H_virt [] rfl (by decide) rfl rfl rfl rfl rfl hd hs
theorem x159_48 {v1 : Value} (hd : 0 < d) (hs : stB st = true) : XX X d 159 (48, L, v1 :: st, M) Q = CC X (d - 1) 151 [v1] M (XC X d 159 48 51 L st Q) := H_static [v1] rfl (by decide) rfl rfl (by decide) rfl rfl hd hs
theorem x159_51 (h : -2147483648 ≤ p ∧ p ≤ 2147483647) : XX X d 159 (51, L, .int (ii p) :: st, M) Q = bq (p = 0) X d 159 67 54 L st M Q := H_if rfl ⟨rfl, rfl, rfl, by decide⟩ rfl rfl rfl rfl (D_eq (b := 0) (by omega))
theorem x159_51b : XX X d 159 (51, L, .int (ii (b2i b)) :: st, M) Q = bq (b = false) X d 159 67 54 L st M Q := (x159_51 (b2i_r b)).trans (by rw [b2i_0])
theorem x159_54 : XX X d 159 (54, [some (.ref a), l1, l2], st, M) Q = XX X d 159 (55, [some (.ref a), l1, l2], .ref a :: st, M) Q := H_ld rfl rfl rfl rfl rfl
theorem x159_55 (h : v.category = 1) : XX X d 159 (55, L, v :: st, M) Q = XX X d 159 (56, L, v :: v :: st, M) Q := G_sop rfl ⟨rfl, rfl, rfl, by decide⟩ (if_pos h) rfl
theorem x159_56 : XX X d 159 (56, L, .ref a :: st, M) Q = yg (M.2.2 a) 9 17 X d 159 59 L st M Q := G_getf rfl (by decide) rfl rfl rfl
theorem x159_59 : XX X d 159 (59, L, st, M) Q = XX X d 159 (60, L, .int (ii 1) :: st, M) Q := G_cst rfl rfl rfl rfl rfl
theorem x159_60 : XX X d 159 (60, L, .int (ii q) :: .int (ii p) :: st, M) Q = XX X d 159 (61, L, .int (ii (p + q)) :: st, M) Q := H_add rfl (by decide) rfl
theorem x159_61 : XX X d 159 (61, L, v :: .ref a :: st, M) Q = yp (M.2.2 a) a 9 17 v X d 159 64 L st M Q := G_putf rfl (by decide) rfl rfl rfl
theorem x159_64 : XX X d 159 (64, L, st, M) Q = XX X d 159 (44, L, st, M) Q := H_jmp rfl (by decide) rfl
theorem x159_67 : XX X d 159 (67, [some (.ref a), l1, l2], st, M) Q = XX X d 159 (68, [some (.ref a), l1, l2], .ref a :: st, M) Q := H_ld rfl rfl rfl rfl rfl
theorem x159_68 : XX X d 159 (68, L, .ref a :: st, M) Q = yg (M.2.2 a) 9 17 X d 159 71 L st M Q := G_getf rfl (by decide) rfl rfl rfl
theorem x159_71 : XX X d 159 (71, [l0, l1, some (.int x)], st, M) Q = XX X d 159 (72, [l0, l1, some (.int x)], .int x :: st, M) Q := H_ld rfl rfl rfl rfl rfl
theorem x159_72 (h : -2147483648 ≤ p ∧ p ≤ 2147483647 ∧ -2147483648 ≤ q ∧ q ≤ 2147483647) : XX X d 159 (72, L, .int (ii q) :: .int (ii p) :: st, M) Q = bq (p = q) X d 159 84 75 L st M Q := H_if2 rfl ⟨rfl, rfl, rfl, by decide⟩ rfl rfl rfl rfl (D_eq h)
theorem x159_75 : XX X d 159 (75, [some (.ref a), l1, l2], st, M) Q = XX X d 159 (76, [some (.ref a), l1, l2], .ref a :: st, M) Q := H_ld rfl rfl rfl rfl rfl
theorem x159_76 (hd : 0 < d) (hs : stB st = true) : XX X d 159 (76, L, .ref a :: st, M) Q = (mcl M a = some 9 ∧ CC X (d - 1) 150 [.ref a] M (XC X d 159 76 79 L st Q)) := H_virt [] rfl (by decide) rfl rfl rfl rfl rfl hd hs
theorem x159_79 : XX X d 159 (79, L, st, M) Q = XX X d 159 (81, L, .int (ii 93) :: st, M) Q := G_cst rfl rfl rfl rfl rfl
theorem x159_81 (h : -2147483648 ≤ p ∧ p ≤ 2147483647 ∧ -2147483648 ≤ q ∧ q ≤ 2147483647) : XX X d 159 (81, L, .int (ii q) :: .int (ii p) :: st, M) Q = bq (p = q) X d 159 89 84 L st M Q := H_if2 rfl ⟨rfl, rfl, rfl, by decide⟩ rfl rfl rfl rfl (D_eq h)
theorem x159_84 : XX X d 159 (84, [some (.ref a), l1, l2], st, M) Q = XX X d 159 (85, [some (.ref a), l1, l2], .ref a :: st, M) Q := H_ld rfl rfl rfl rfl rfl
theorem x159_85 (hd : 0 < d) (hs : stB st = true) : XX X d 159 (85, L, .ref a :: st, M) Q = (mcl M a = some 9 ∧ CC X (d - 1) 153 [.ref a] M (XC X d 159 85 88 L st Q)) := H_virt [] rfl (by decide) rfl rfl rfl rfl rfl hd hs
theorem x159_88 : XX X d 159 (88, L, [.int (ii p)], M) Q = Q (.inl (some (.int (ii p)))) M := G_ret rfl ⟨⟨⟨rfl, rfl, rfl, by decide⟩, rfl, rfl⟩, rfl, rfl⟩ rfl
theorem x159_89 : XX X d 159 (89, [some (.ref a), l1, l2], st, M) Q = XX X d 159 (90, [some (.ref a), l1, l2], .ref a :: st, M) Q := H_ld rfl rfl rfl rfl rfl
theorem x159_90 (h : v.category = 1) : XX X d 159 (90, L, v :: st, M) Q = XX X d 159 (91, L, v :: v :: st, M) Q := G_sop rfl ⟨rfl, rfl, rfl, by decide⟩ (if_pos h) rfl
theorem x159_91 : XX X d 159 (91, L, .ref a :: st, M) Q = yg (M.2.2 a) 9 17 X d 159 94 L st M Q := G_getf rfl (by decide) rfl rfl rfl
theorem x159_94 : XX X d 159 (94, L, st, M) Q = XX X d 159 (95, L, .int (ii 1) :: st, M) Q := G_cst rfl rfl rfl rfl rfl
theorem x159_95 : XX X d 159 (95, L, .int (ii q) :: .int (ii p) :: st, M) Q = XX X d 159 (96, L, .int (ii (p + q)) :: st, M) Q := H_add rfl (by decide) rfl
theorem x159_96 : XX X d 159 (96, L, v :: .ref a :: st, M) Q = yp (M.2.2 a) a 9 17 v X d 159 99 L st M Q := G_putf rfl (by decide) rfl rfl rfl
theorem x159_99 : XX X d 159 (99, [some (.ref a), l1, l2], st, M) Q = XX X d 159 (100, [some (.ref a), l1, l2], .ref a :: st, M) Q := H_ld rfl rfl rfl rfl rfl
theorem x159_100 : XX X d 159 (100, L, st, M) Q = XX X d 159 (101, L, .int (ii 3) :: st, M) Q := G_cst rfl rfl rfl rfl rfl
theorem x159_101 : XX X d 159 (101, [l0, l1, some (.int x)], st, M) Q = XX X d 159 (102, [l0, l1, some (.int x)], .int x :: st, M) Q := H_ld rfl rfl rfl rfl rfl
theorem x159_102 : XX X d 159 (102, [l0, some (.int x), l2], st, M) Q = XX X d 159 (103, [l0, some (.int x), l2], .int x :: st, M) Q := H_ld rfl rfl rfl rfl rfl
theorem x159_103 (h : -2147483648 ≤ p ∧ p ≤ 2147483647) : XX X d 159 (103, L, .int (ii p) :: st, M) Q = bq (p = 0) X d 159 114 106 L st M Q := H_if rfl ⟨rfl, rfl, rfl, by decide⟩ rfl rfl rfl rfl (D_eq (b := 0) (by omega))
theorem x159_103b : XX X d 159 (103, L, .int (ii (b2i b)) :: st, M) Q = bq (b = false) X d 159 114 106 L st M Q := (x159_103 (b2i_r b)).trans (by rw [b2i_0])
theorem x159_106 : XX X d 159 (106, [some (.ref a), l1, l2], st, M) Q = XX X d 159 (107, [some (.ref a), l1, l2], .ref a :: st, M) Q := H_ld rfl rfl rfl rfl rfl
theorem x159_107 : XX X d 159 (107, L, .ref a :: st, M) Q = yg (M.2.2 a) 9 17 X d 159 110 L st M Q := G_getf rfl (by decide) rfl rfl rfl
theorem x159_110 : XX X d 159 (110, L, .int (ii p) :: st, M) Q = XX X d 159 (111, L, .int (ii (-p)) :: st, M) Q := H_neg rfl (by decide) rfl
theorem x159_111 : XX X d 159 (111, L, st, M) Q = XX X d 159 (120, L, st, M) Q := H_jmp rfl (by decide) rfl
theorem x159_114 : XX X d 159 (114, [some (.ref a), l1, l2], st, M) Q = XX X d 159 (115, [some (.ref a), l1, l2], .ref a :: st, M) Q := H_ld rfl rfl rfl rfl rfl
theorem x159_115 : XX X d 159 (115, L, .ref a :: st, M) Q = yg (M.2.2 a) 9 17 X d 159 118 L st M Q := G_getf rfl (by decide) rfl rfl rfl
theorem x159_118 : XX X d 159 (118, L, st, M) Q = XX X d 159 (119, L, .int (ii 1) :: st, M) Q := G_cst rfl rfl rfl rfl rfl
theorem x159_119 : XX X d 159 (119, L, .int (ii q) :: .int (ii p) :: st, M) Q = XX X d 159 (120, L, .int (ii (p - q)) :: st, M) Q := H_sub rfl (by decide) rfl
theorem x159_120 : XX X d 159 (120, L, st, M) Q = XX X d 159 (121, L, .int (ii 1) :: st, M) Q := G_cst rfl rfl rfl rfl rfl
theorem x159_121 : XX X d 159 (121, L, st, M) Q = XX X d 159 (122, L, .int (ii 1) :: st, M) Q := G_cst rfl rfl rfl rfl rfl
theorem x159_122 {v1 v2 v3 v4 v5 : Value} (hd : 0 < d) (hs : stB st = true) : XX X d 159 (122, L, v5 :: v4 :: v3 :: v2 :: v1 :: .ref a :: st, M) Q = (mcl M a = some 9 ∧ CC X (d - 1) 152 [.ref a, v1, v2, v3, v4, v5] M (XC X d 159 122 125 L st Q)) := H_virt [v1, v2, v3, v4, v5] rfl (by decide) rfl rfl rfl rfl rfl hd hs
theorem x159_125 : XX X d 159 (125, L, [.int (ii p)], M) Q = Q (.inl (some (.int (ii p)))) M := G_ret rfl ⟨⟨⟨rfl, rfl, rfl, by decide⟩, rfl, rfl⟩, rfl, rfl⟩ rfl
theorem e159 : CC X d 159 [.ref a] M Q = XX X d 159 (0, [some (.ref a), none, none], [], M) Q := H_ent rfl rfl
-- 160 X9_parses ()I
theorem x160_0 : XX X d 160 (0, [some (.ref a), l1], st, M) Q = XX X d 160 (1, [some (.ref a), l1], .ref a :: st, M) Q := H_ld rfl rfl rfl rfl rfl
theorem x160_1 : XX X d 160 (1, L, st, M) Q = XX X d 160 (2, L, .int (ii 0) :: st, M) Q := G_cst rfl rfl rfl rfl rfl
theorem x160_2 : XX X d 160 (2, L, v :: .ref a :: st, M) Q = yp (M.2.2 a) a 9 17 v X d 160 5 L st M Q := G_putf rfl (by decide) rfl rfl rfl
theorem x160_5 : XX X d 160 (5, [some (.ref a), l1], st, M) Q = XX X d 160 (6, [some (.ref a), l1], .ref a :: st, M) Q := H_ld rfl rfl rfl rfl rfl
theorem x160_6 : XX X d 160 (6, L, st, M) Q = XX X d 160 (7, L, .int (ii 0) :: st, M) Q := G_cst rfl rfl rfl rfl rfl
theorem x160_7 : XX X d 160 (7, L, v :: .ref a :: st, M) Q = yp (M.2.2 a) a 9 24 v X d 160 10 L st M Q := G_putf rfl (by decide) rfl rfl rfl
theorem x160_10 : XX X d 160 (10, [some (.ref a), l1], st, M) Q = XX X d 160 (11, [some (.ref a), l1], .ref a :: st, M) Q := H_ld rfl rfl rfl rfl rfl
theorem x160_11 : XX X d 160 (11, L, st, M) Q = XX X d 160 (12, L, .int (ii 0) :: st, M) Q := G_cst rfl rfl rfl rfl rfl
theorem x160_12 : XX X d 160 (12, L, v :: .ref a :: st, M) Q = yp (M.2.2 a) a 9 25 v X d 160 15 L st M Q := G_putf rfl (by decide) rfl rfl rfl
theorem x160_15 : XX X d 160 (15, [some (.ref a), l1], st, M) Q = XX X d 160 (16, [some (.ref a), l1], .ref a :: st, M) Q := H_ld rfl rfl rfl rfl rfl
theorem x160_16 : XX X d 160 (16, L, st, M) Q = XX X d 160 (17, L, .int (ii 0) :: st, M) Q := G_cst rfl rfl rfl rfl rfl
theorem x160_17 : XX X d 160 (17, L, v :: .ref a :: st, M) Q = yp (M.2.2 a) a 9 18 v X d 160 20 L st M Q := G_putf rfl (by decide) rfl rfl rfl
theorem x160_20 : XX X d 160 (20, [some (.ref a), l1], st, M) Q = XX X d 160 (21, [some (.ref a), l1], .ref a :: st, M) Q := H_ld rfl rfl rfl rfl rfl
theorem x160_21 (hd : 0 < d) (hs : stB st = true) : XX X d 160 (21, L, .ref a :: st, M) Q = (mcl M a = some 9 ∧ CC X (d - 1) 154 [.ref a] M (XC X d 160 21 24 L st Q)) := H_virt [] rfl (by decide) rfl rfl rfl rfl rfl hd hs
theorem x160_24 (h : wide (some l0) = false) : XX X d 160 (24, [l0, l1], .int x :: st, M) Q = XX X d 160 (25, [l0, some (.int x)], st, M) Q := H_st rfl rfl rfl rfl rfl rfl rfl rfl (Or.inr h)
theorem x160_25 : XX X d 160 (25, [some (.ref a), l1], st, M) Q = XX X d 160 (26, [some (.ref a), l1], .ref a :: st, M) Q := H_ld rfl rfl rfl rfl rfl
theorem x160_26 : XX X d 160 (26, L, .ref a :: st, M) Q = yg (M.2.2 a) 9 18 X d 160 29 L st M Q := G_getf rfl (by decide) rfl rfl rfl
theorem x160_29 (h : -2147483648 ≤ p ∧ p ≤ 2147483647) : XX X d 160 (29, L, .int (ii p) :: st, M) Q = bq (p ≠ 0) X d 160 48 32 L st M Q := H_if rfl ⟨rfl, rfl, rfl, by decide⟩ rfl rfl rfl rfl (D_ne (b := 0) (by omega))
theorem x160_29b : XX X d 160 (29, L, .int (ii (b2i b)) :: st, M) Q = bq (b = true) X d 160 48 32 L st M Q := (x160_29 (b2i_r b)).trans (by rw [b2i_n0])
theorem x160_32 : XX X d 160 (32, [some (.ref a), l1], st, M) Q = XX X d 160 (33, [some (.ref a), l1], .ref a :: st, M) Q := H_ld rfl rfl rfl rfl rfl
theorem x160_33 : XX X d 160 (33, L, .ref a :: st, M) Q = yg (M.2.2 a) 9 17 X d 160 36 L st M Q := G_getf rfl (by decide) rfl rfl rfl
theorem x160_36 : XX X d 160 (36, [some (.ref a), l1], st, M) Q = XX X d 160 (37, [some (.ref a), l1], .ref a :: st, M) Q := H_ld rfl rfl rfl rfl rfl
theorem x160_37 : XX X d 160 (37, L, .ref a :: st, M) Q = yg (M.2.2 a) 9 16 X d 160 40 L st M Q := G_getf rfl (by decide) rfl rfl rfl
theorem x160_40 (h : -2147483648 ≤ p ∧ p ≤ 2147483647 ∧ -2147483648 ≤ q ∧ q ≤ 2147483647) : XX X d 160 (40, L, .int (ii q) :: .int (ii p) :: st, M) Q = bq (q ≤ p) X d 160 48 43 L st M Q := H_if2 rfl ⟨rfl, rfl, rfl, by decide⟩ rfl rfl rfl rfl (D_le h)
theorem x160_43 : XX X d 160 (43, [some (.ref a), l1], st, M) Q = XX X d 160 (44, [some (.ref a), l1], .ref a :: st, M) Q := H_ld rfl rfl rfl rfl rfl
theorem x160_44 : XX X d 160 (44, L, st, M) Q = XX X d 160 (45, L, .int (ii 1) :: st, M) Q := G_cst rfl rfl rfl rfl rfl
theorem x160_45 : XX X d 160 (45, L, v :: .ref a :: st, M) Q = yp (M.2.2 a) a 9 18 v X d 160 48 L st M Q := G_putf rfl (by decide) rfl rfl rfl
theorem x160_48 : XX X d 160 (48, [l0, some (.int x)], st, M) Q = XX X d 160 (49, [l0, some (.int x)], .int x :: st, M) Q := H_ld rfl rfl rfl rfl rfl
theorem x160_49 : XX X d 160 (49, L, [.int (ii p)], M) Q = Q (.inl (some (.int (ii p)))) M := G_ret rfl ⟨⟨⟨rfl, rfl, rfl, by decide⟩, rfl, rfl⟩, rfl, rfl⟩ rfl
theorem e160 : CC X d 160 [.ref a] M Q = XX X d 160 (0, [some (.ref a), none], [], M) Q := H_ent rfl rfl
-- 161 X9_lays (III)I
theorem x161_0 : XX X d 161 (0, [some (.ref a), l1, l2, l3], st, M) Q = XX X d 161 (1, [some (.ref a), l1, l2, l3], .ref a :: st, M) Q := H_ld rfl rfl rfl rfl rfl
theorem x161_1 : XX X d 161 (1, L, .ref a :: st, M) Q = yg (M.2.2 a) 9 26 X d 161 4 L st M Q := G_getf rfl (by decide) rfl rfl rfl
theorem x161_4 : XX X d 161 (4, [some (.ref a), l1, l2, l3], st, M) Q = XX X d 161 (5, [some (.ref a), l1, l2, l3], .ref a :: st, M) Q := H_ld rfl rfl rfl rfl rfl
theorem x161_5 : XX X d 161 (5, L, .ref a :: st, M) Q = yg (M.2.2 a) 9 29 X d 161 8 L st M Q := G_getf rfl (by decide) rfl rfl rfl
theorem x161_8 : XX X d 161 (8, [l0, some (.int x), l2, l3], st, M) Q = XX X d 161 (9, [l0, some (.int x), l2, l3], .int x :: st, M) Q := H_ld rfl rfl rfl rfl rfl
theorem x161_9 : XX X d 161 (9, L, v :: .int x :: .ref a :: st, M) Q = yw (M.2.2 a) a .iastore v x X d 161 10 L st M Q := G_ast rfl ⟨⟨rfl, rfl, rfl, by decide⟩, rfl, rfl⟩ rfl rfl rfl
theorem x161_10 : XX X d 161 (10, [some (.ref a), l1, l2, l3], st, M) Q = XX X d 161 (11, [some (.ref a), l1, l2, l3], .ref a :: st, M) Q := H_ld rfl rfl rfl rfl rfl
theorem x161_11 : XX X d 161 (11, L, .ref a :: st, M) Q = yg (M.2.2 a) 9 27 X d 161 14 L st M Q := G_getf rfl (by decide) rfl rfl rfl
theorem x161_14 : XX X d 161 (14, [some (.ref a), l1, l2, l3], st, M) Q = XX X d 161 (15, [some (.ref a), l1, l2, l3], .ref a :: st, M) Q := H_ld rfl rfl rfl rfl rfl
theorem x161_15 : XX X d 161 (15, L, .ref a :: st, M) Q = yg (M.2.2 a) 9 29 X d 161 18 L st M Q := G_getf rfl (by decide) rfl rfl rfl
theorem x161_18 : XX X d 161 (18, [l0, l1, some (.int x), l3], st, M) Q = XX X d 161 (19, [l0, l1, some (.int x), l3], .int x :: st, M) Q := H_ld rfl rfl rfl rfl rfl
theorem x161_19 : XX X d 161 (19, L, v :: .int x :: .ref a :: st, M) Q = yw (M.2.2 a) a .iastore v x X d 161 20 L st M Q := G_ast rfl ⟨⟨rfl, rfl, rfl, by decide⟩, rfl, rfl⟩ rfl rfl rfl
theorem x161_20 : XX X d 161 (20, [some (.ref a), l1, l2, l3], st, M) Q = XX X d 161 (21, [some (.ref a), l1, l2, l3], .ref a :: st, M) Q := H_ld rfl rfl rfl rfl rfl
theorem x161_21 : XX X d 161 (21, L, .ref a :: st, M) Q = yg (M.2.2 a) 9 28 X d 161 24 L st M Q := G_getf rfl (by decide) rfl rfl rfl
theorem x161_24 : XX X d 161 (24, [some (.ref a), l1, l2, l3], st, M) Q = XX X d 161 (25, [some (.ref a), l1, l2, l3], .ref a :: st, M) Q := H_ld rfl rfl rfl rfl rfl
theorem x161_25 : XX X d 161 (25, L, .ref a :: st, M) Q = yg (M.2.2 a) 9 29 X d 161 28 L st M Q := G_getf rfl (by decide) rfl rfl rfl
theorem x161_28 : XX X d 161 (28, [l0, l1, l2, some (.int x)], st, M) Q = XX X d 161 (29, [l0, l1, l2, some (.int x)], .int x :: st, M) Q := H_ld rfl rfl rfl rfl rfl
theorem x161_29 : XX X d 161 (29, L, v :: .int x :: .ref a :: st, M) Q = yw (M.2.2 a) a .iastore v x X d 161 30 L st M Q := G_ast rfl ⟨⟨rfl, rfl, rfl, by decide⟩, rfl, rfl⟩ rfl rfl rfl
theorem x161_30 : XX X d 161 (30, [some (.ref a), l1, l2, l3], st, M) Q = XX X d 161 (31, [some (.ref a), l1, l2, l3], .ref a :: st, M) Q := H_ld rfl rfl rfl rfl rfl
theorem x161_31 (h : v.category = 1) : XX X d 161 (31, L, v :: st, M) Q = XX X d 161 (32, L, v :: v :: st, M) Q := G_sop rfl ⟨rfl, rfl, rfl, by decide⟩ (if_pos h) rfl
theorem x161_32 : XX X d 161 (32, L, .ref a :: st, M) Q = yg (M.2.2 a) 9 29 X d 161 35 L st M Q := G_getf rfl (by decide) rfl rfl rfl
theorem x161_35 : XX X d 161 (35, L, st, M) Q = XX X d 161 (36, L, .int (ii 1) :: st, M) Q := G_cst rfl rfl rfl rfl rfl
theorem x161_36 : XX X d 161 (36, L, .int (ii q) :: .int (ii p) :: st, M) Q = XX X d 161 (37, L, .int (ii (p + q)) :: st, M) Q := H_add rfl (by decide) rfl
theorem x161_37 : XX X d 161 (37, L, v :: .ref a :: st, M) Q = yp (M.2.2 a) a 9 29 v X d 161 40 L st M Q := G_putf rfl (by decide) rfl rfl rfl
theorem x161_40 : XX X d 161 (40, [some (.ref a), l1, l2, l3], st, M) Q = XX X d 161 (41, [some (.ref a), l1, l2, l3], .ref a :: st, M) Q := H_ld rfl rfl rfl rfl rfl
theorem x161_41 : XX X d 161 (41, L, .ref a :: st, M) Q = yg (M.2.2 a) 9 29 X d 161 44 L st M Q := G_getf rfl (by decide) rfl rfl rfl
theorem x161_44 : XX X d 161 (44, L, st, M) Q = XX X d 161 (45, L, .int (ii 1) :: st, M) Q := G_cst rfl rfl rfl rfl rfl
theorem x161_45 : XX X d 161 (45, L, .int (ii q) :: .int (ii p) :: st, M) Q = XX X d 161 (46, L, .int (ii (p - q)) :: st, M) Q := H_sub rfl (by decide) rfl
theorem x161_46 : XX X d 161 (46, L, [.int (ii p)], M) Q = Q (.inl (some (.int (ii p)))) M := G_ret rfl ⟨⟨⟨rfl, rfl, rfl, by decide⟩, rfl, rfl⟩, rfl, rfl⟩ rfl
theorem e161 : CC X d 161 [.ref a, .int x, .int x2, .int x3] M Q = XX X d 161 (0, [some (.ref a), some (.int x), some (.int x2), some (.int x3)], [], M) Q := H_ent rfl rfl
-- 162 X9_lay (I)V
theorem x162_0 : XX X d 162 (0, [some (.ref a), l1, l2], st, M) Q = XX X d 162 (1, [some (.ref a), l1, l2], .ref a :: st, M) Q := H_ld rfl rfl rfl rfl rfl
theorem x162_1 : XX X d 162 (1, L, .ref a :: st, M) Q = yg (M.2.2 a) 9 19 X d 162 4 L st M Q := G_getf rfl (by decide) rfl rfl rfl
theorem x162_4 : XX X d 162 (4, [l0, some (.int x), l2], st, M) Q = XX X d 162 (5, [l0, some (.int x), l2], .int x :: st, M) Q := H_ld rfl rfl rfl rfl rfl
theorem x162_5 : XX X d 162 (5, L, .int x :: .ref a :: st, M) Q = ya (M.2.2 a) .iaload x X d 162 6 L st M Q := G_ald rfl ⟨⟨rfl, rfl, rfl, by decide⟩, rfl, rfl⟩ rfl rfl
theorem x162_6 (h : wide (some l1) = false) : XX X d 162 (6, [l0, l1, l2], .int x :: st, M) Q = XX X d 162 (7, [l0, l1, some (.int x)], st, M) Q := H_st rfl rfl rfl rfl rfl rfl rfl rfl (Or.inr h)
theorem x162_7 : XX X d 162 (7, [l0, l1, some (.int x)], st, M) Q = XX X d 162 (8, [l0, l1, some (.int x)], .int x :: st, M) Q := H_ld rfl rfl rfl rfl rfl
theorem x162_8 (h : -2147483648 ≤ p ∧ p ≤ 2147483647) : XX X d 162 (8, L, .int (ii p) :: st, M) Q = bq (p ≠ 0) X d 162 12 11 L st M Q := H_if rfl ⟨rfl, rfl, rfl, by decide⟩ rfl rfl rfl rfl (D_ne (b := 0) (by omega))
theorem x162_8b : XX X d 162 (8, L, .int (ii (b2i b)) :: st, M) Q = bq (b = true) X d 162 12 11 L st M Q := (x162_8 (b2i_r b)).trans (by rw [b2i_n0])
theorem x162_11 : XX X d 162 (11, L, [], M) Q = Q (.inl none) M := G_retv rfl (by decide) rfl
theorem x162_12 : XX X d 162 (12, [l0, l1, some (.int x)], st, M) Q = XX X d 162 (13, [l0, l1, some (.int x)], .int x :: st, M) Q := H_ld rfl rfl rfl rfl rfl
theorem x162_13 : XX X d 162 (13, L, st, M) Q = XX X d 162 (14, L, .int (ii 1) :: st, M) Q := G_cst rfl rfl rfl rfl rfl
theorem x162_14 (h : -2147483648 ≤ p ∧ p ≤ 2147483647 ∧ -2147483648 ≤ q ∧ q ≤ 2147483647) : XX X d 162 (14, L, .int (ii q) :: .int (ii p) :: st, M) Q = bq (p = q) X d 162 27 17 L st M Q := H_if2 rfl ⟨rfl, rfl, rfl, by decide⟩ rfl rfl rfl rfl (D_eq h)
theorem x162_17 : XX X d 162 (17, [l0, l1, some (.int x)], st, M) Q = XX X d 162 (18, [l0, l1, some (.int x)], .int x :: st, M) Q := H_ld rfl rfl rfl rfl rfl
theorem x162_18 : XX X d 162 (18, L, st, M) Q = XX X d 162 (19, L, .int (ii 2) :: st, M) Q := G_cst rfl rfl rfl rfl rfl
theorem x162_19 (h : -2147483648 ≤ p ∧ p ≤ 2147483647 ∧ -2147483648 ≤ q ∧ q ≤ 2147483647) : XX X d 162 (19, L, .int (ii q) :: .int (ii p) :: st, M) Q = bq (p = q) X d 162 27 22 L st M Q := H_if2 rfl ⟨rfl, rfl, rfl, by decide⟩ rfl rfl rfl rfl (D_eq h)
theorem x162_22 : XX X d 162 (22, [l0, l1, some (.int x)], st, M) Q = XX X d 162 (23, [l0, l1, some (.int x)], .int x :: st, M) Q := H_ld rfl rfl rfl rfl rfl
theorem x162_23 : XX X d 162 (23, L, st, M) Q = XX X d 162 (24, L, .int (ii 3) :: st, M) Q := G_cst rfl rfl rfl rfl rfl
theorem x162_24 (h : -2147483648 ≤ p ∧ p ≤ 2147483647 ∧ -2147483648 ≤ q ∧ q ≤ 2147483647) : XX X d 162 (24, L, .int (ii q) :: .int (ii p) :: st, M) Q = bq (p ≠ q) X d 162 46 27 L st M Q := H_if2 rfl ⟨rfl, rfl, rfl, by decide⟩ rfl rfl rfl rfl (D_ne h)
theorem x162_27 : XX X d 162 (27, [some (.ref a), l1, l2], st, M) Q = XX X d 162 (28, [some (.ref a), l1, l2], .ref a :: st, M) Q := H_ld rfl rfl rfl rfl rfl
theorem x162_28 : XX X d 162 (28, [l0, l1, some (.int x)], st, M) Q = XX X d 162 (29, [l0, l1, some (.int x)], .int x :: st, M) Q := H_ld rfl rfl rfl rfl rfl
theorem x162_29 : XX X d 162 (29, [some (.ref a), l1, l2], st, M) Q = XX X d 162 (30, [some (.ref a), l1, l2], .ref a :: st, M) Q := H_ld rfl rfl rfl rfl rfl
theorem x162_30 : XX X d 162 (30, L, .ref a :: st, M) Q = yg (M.2.2 a) 9 20 X d 162 33 L st M Q := G_getf rfl (by decide) rfl rfl rfl
theorem x162_33 : XX X d 162 (33, [l0, some (.int x), l2], st, M) Q = XX X d 162 (34, [l0, some (.int x), l2], .int x :: st, M) Q := H_ld rfl rfl rfl rfl rfl
theorem x162_34 : XX X d 162 (34, L, .int x :: .ref a :: st, M) Q = ya (M.2.2 a) .iaload x X d 162 35 L st M Q := G_ald rfl ⟨⟨rfl, rfl, rfl, by decide⟩, rfl, rfl⟩ rfl rfl
theorem x162_35 : XX X d 162 (35, [some (.ref a), l1, l2], st, M) Q = XX X d 162 (36, [some (.ref a), l1, l2], .ref a :: st, M) Q := H_ld rfl rfl rfl rfl rfl
theorem x162_36 : XX X d 162 (36, L, .ref a :: st, M) Q = yg (M.2.2 a) 9 21 X d 162 39 L st M Q := G_getf rfl (by decide) rfl rfl rfl
theorem x162_39 : XX X d 162 (39, [l0, some (.int x), l2], st, M) Q = XX X d 162 (40, [l0, some (.int x), l2], .int x :: st, M) Q := H_ld rfl rfl rfl rfl rfl
theorem x162_40 : XX X d 162 (40, L, .int x :: .ref a :: st, M) Q = ya (M.2.2 a) .iaload x X d 162 41 L st M Q := G_ald rfl ⟨⟨rfl, rfl, rfl, by decide⟩, rfl, rfl⟩ rfl rfl
theorem x162_41 {v1 v2 v3 : Value} (hd : 0 < d) (hs : stB st = true) : XX X d 162 (41, L, v3 :: v2 :: v1 :: .ref a :: st, M) Q = (mcl M a = some 9 ∧ CC X (d - 1) 161 [.ref a, v1, v2, v3] M (XC X d 162 41 44 L st Q)) := H_virt [v1, v2, v3] rfl (by decide) rfl rfl rfl rfl rfl hd hs
theorem x162_44 (h : v.category = 1) : XX X d 162 (44, L, v :: st, M) Q = XX X d 162 (45, L, st, M) Q := G_sop rfl ⟨rfl, rfl, rfl, by decide⟩ (if_pos h) rfl
theorem x162_45 : XX X d 162 (45, L, [], M) Q = Q (.inl none) M := G_retv rfl (by decide) rfl
theorem x162_46 : XX X d 162 (46, [l0, l1, some (.int x)], st, M) Q = XX X d 162 (47, [l0, l1, some (.int x)], .int x :: st, M) Q := H_ld rfl rfl rfl rfl rfl
theorem x162_47 : XX X d 162 (47, L, st, M) Q = XX X d 162 (48, L, .int (ii 4) :: st, M) Q := G_cst rfl rfl rfl rfl rfl
theorem x162_48 (h : -2147483648 ≤ p ∧ p ≤ 2147483647 ∧ -2147483648 ≤ q ∧ q ≤ 2147483647) : XX X d 162 (48, L, .int (ii q) :: .int (ii p) :: st, M) Q = bq (p ≠ q) X d 162 72 51 L st M Q := H_if2 rfl ⟨rfl, rfl, rfl, by decide⟩ rfl rfl rfl rfl (D_ne h)
theorem x162_51 : XX X d 162 (51, [some (.ref a), l1, l2], st, M) Q = XX X d 162 (52, [some (.ref a), l1, l2], .ref a :: st, M) Q := H_ld rfl rfl rfl rfl rfl
theorem x162_52 : XX X d 162 (52, [some (.ref a), l1, l2], st, M) Q = XX X d 162 (53, [some (.ref a), l1, l2], .ref a :: st, M) Q := H_ld rfl rfl rfl rfl rfl
theorem x162_53 : XX X d 162 (53, L, .ref a :: st, M) Q = yg (M.2.2 a) 9 20 X d 162 56 L st M Q := G_getf rfl (by decide) rfl rfl rfl
theorem x162_56 : XX X d 162 (56, [l0, some (.int x), l2], st, M) Q = XX X d 162 (57, [l0, some (.int x), l2], .int x :: st, M) Q := H_ld rfl rfl rfl rfl rfl
theorem x162_57 : XX X d 162 (57, L, .int x :: .ref a :: st, M) Q = ya (M.2.2 a) .iaload x X d 162 58 L st M Q := G_ald rfl ⟨⟨rfl, rfl, rfl, by decide⟩, rfl, rfl⟩ rfl rfl
theorem x162_58 {v1 : Value} (hd : 0 < d) (hs : stB st = true) : XX X d 162 (58, L, v1 :: .ref a :: st, M) Q = (mcl M a = some 9 ∧ CC X (d - 1) 162 [.ref a, v1] M (XC X d 162 58 61 L st Q)) := H_virt [v1] rfl (by decide) rfl rfl rfl rfl rfl hd hs
theorem x162_61 : XX X d 162 (61, [some (.ref a), l1, l2], st, M) Q = XX X d 162 (62, [some (.ref a), l1, l2], .ref a :: st, M) Q := H_ld rfl rfl rfl rfl rfl
theorem x162_62 : XX X d 162 (62, [some (.ref a), l1, l2], st, M) Q = XX X d 162 (63, [some (.ref a), l1, l2], .ref a :: st, M) Q := H_ld rfl rfl rfl rfl rfl
theorem x162_63 : XX X d 162 (63, L, .ref a :: st, M) Q = yg (M.2.2 a) 9 21 X d 162 66 L st M Q := G_getf rfl (by decide) rfl rfl rfl
theorem x162_66 : XX X d 162 (66, [l0, some (.int x), l2], st, M) Q = XX X d 162 (67, [l0, some (.int x), l2], .int x :: st, M) Q := H_ld rfl rfl rfl rfl rfl
theorem x162_67 : XX X d 162 (67, L, .int x :: .ref a :: st, M) Q = ya (M.2.2 a) .iaload x X d 162 68 L st M Q := G_ald rfl ⟨⟨rfl, rfl, rfl, by decide⟩, rfl, rfl⟩ rfl rfl
theorem x162_68 {v1 : Value} (hd : 0 < d) (hs : stB st = true) : XX X d 162 (68, L, v1 :: .ref a :: st, M) Q = (mcl M a = some 9 ∧ CC X (d - 1) 162 [.ref a, v1] M (XC X d 162 68 71 L st Q)) := H_virt [v1] rfl (by decide) rfl rfl rfl rfl rfl hd hs
theorem x162_71 : XX X d 162 (71, L, [], M) Q = Q (.inl none) M := G_retv rfl (by decide) rfl
theorem x162_72 : XX X d 162 (72, [l0, l1, some (.int x)], st, M) Q = XX X d 162 (73, [l0, l1, some (.int x)], .int x :: st, M) Q := H_ld rfl rfl rfl rfl rfl
theorem x162_73 : XX X d 162 (73, L, st, M) Q = XX X d 162 (75, L, .int (ii 9) :: st, M) Q := G_cst rfl rfl rfl rfl rfl
theorem x162_75 (h : -2147483648 ≤ p ∧ p ≤ 2147483647 ∧ -2147483648 ≤ q ∧ q ≤ 2147483647) : XX X d 162 (75, L, .int (ii q) :: .int (ii p) :: st, M) Q = bq (p ≠ q) X d 162 125 78 L st M Q := H_if2 rfl ⟨rfl, rfl, rfl, by decide⟩ rfl rfl rfl rfl (D_ne h)
theorem x162_78 : XX X d 162 (78, [some (.ref a), l1, l2], st, M) Q = XX X d 162 (79, [some (.ref a), l1, l2], .ref a :: st, M) Q := H_ld rfl rfl rfl rfl rfl
theorem x162_79 : XX X d 162 (79, L, st, M) Q = XX X d 162 (81, L, .int (ii 12) :: st, M) Q := G_cst rfl rfl rfl rfl rfl
theorem x162_81 : XX X d 162 (81, L, st, M) Q = XX X d 162 (82, L, .int (ii 2) :: st, M) Q := G_cst rfl rfl rfl rfl rfl
theorem x162_82 : XX X d 162 (82, [some (.ref a), l1, l2], st, M) Q = XX X d 162 (83, [some (.ref a), l1, l2], .ref a :: st, M) Q := H_ld rfl rfl rfl rfl rfl
theorem x162_83 : XX X d 162 (83, L, .ref a :: st, M) Q = yg (M.2.2 a) 9 21 X d 162 86 L st M Q := G_getf rfl (by decide) rfl rfl rfl
theorem x162_86 : XX X d 162 (86, [l0, some (.int x), l2], st, M) Q = XX X d 162 (87, [l0, some (.int x), l2], .int x :: st, M) Q := H_ld rfl rfl rfl rfl rfl
theorem x162_87 : XX X d 162 (87, L, .int x :: .ref a :: st, M) Q = ya (M.2.2 a) .iaload x X d 162 88 L st M Q := G_ald rfl ⟨⟨rfl, rfl, rfl, by decide⟩, rfl, rfl⟩ rfl rfl
theorem x162_88 : XX X d 162 (88, L, .int (ii q) :: .int (ii p) :: st, M) Q = XX X d 162 (89, L, .int (ii (p * q)) :: st, M) Q := H_mul rfl (by decide) rfl
theorem x162_89 : XX X d 162 (89, L, st, M) Q = XX X d 162 (90, L, .int (ii 2) :: st, M) Q := G_cst rfl rfl rfl rfl rfl
theorem x162_90 : XX X d 162 (90, L, .int (ii q) :: .int (ii p) :: st, M) Q = XX X d 162 (91, L, .int (ii (p - q)) :: st, M) Q := H_sub rfl (by decide) rfl
theorem x162_91 : XX X d 162 (91, L, st, M) Q = XX X d 162 (92, L, .int (ii 0) :: st, M) Q := G_cst rfl rfl rfl rfl rfl
theorem x162_92 {v1 v2 v3 : Value} (hd : 0 < d) (hs : stB st = true) : XX X d 162 (92, L, v3 :: v2 :: v1 :: .ref a :: st, M) Q = (mcl M a = some 9 ∧ CC X (d - 1) 161 [.ref a, v1, v2, v3] M (XC X d 162 92 95 L st Q)) := H_virt [v1, v2, v3] rfl (by decide) rfl rfl rfl rfl rfl hd hs
theorem x162_95 (h : v.category = 1) : XX X d 162 (95, L, v :: st, M) Q = XX X d 162 (96, L, st, M) Q := G_sop rfl ⟨rfl, rfl, rfl, by decide⟩ (if_pos h) rfl
theorem x162_96 : XX X d 162 (96, [some (.ref a), l1, l2], st, M) Q = XX X d 162 (97, [some (.ref a), l1, l2], .ref a :: st, M) Q := H_ld rfl rfl rfl rfl rfl
theorem x162_97 : XX X d 162 (97, [some (.ref a), l1, l2], st, M) Q = XX X d 162 (98, [some (.ref a), l1, l2], .ref a :: st, M) Q := H_ld rfl rfl rfl rfl rfl
theorem x162_98 : XX X d 162 (98, L, .ref a :: st, M) Q = yg (M.2.2 a) 9 20 X d 162 101 L st M Q := G_getf rfl (by decide) rfl rfl rfl
theorem x162_101 : XX X d 162 (101, [l0, some (.int x), l2], st, M) Q = XX X d 162 (102, [l0, some (.int x), l2], .int x :: st, M) Q := H_ld rfl rfl rfl rfl rfl
theorem x162_102 : XX X d 162 (102, L, .int x :: .ref a :: st, M) Q = ya (M.2.2 a) .iaload x X d 162 103 L st M Q := G_ald rfl ⟨⟨rfl, rfl, rfl, by decide⟩, rfl, rfl⟩ rfl rfl
theorem x162_103 {v1 : Value} (hd : 0 < d) (hs : stB st = true) : XX X d 162 (103, L, v1 :: .ref a :: st, M) Q = (mcl M a = some 9 ∧ CC X (d - 1) 162 [.ref a, v1] M (XC X d 162 103 106 L st Q)) := H_virt [v1] rfl (by decide) rfl rfl rfl rfl rfl hd hs
theorem x162_106 : XX X d 162 (106, [some (.ref a), l1, l2], st, M) Q = XX X d 162 (107, [some (.ref a), l1, l2], .ref a :: st, M) Q := H_ld rfl rfl rfl rfl rfl
theorem x162_107 : XX X d 162 (107, L, st, M) Q = XX X d 162 (109, L, .int (ii 12) :: st, M) Q := G_cst rfl rfl rfl rfl rfl
theorem x162_109 : XX X d 162 (109, L, st, M) Q = XX X d 162 (110, L, .int (ii 2) :: st, M) Q := G_cst rfl rfl rfl rfl rfl
theorem x162_110 : XX X d 162 (110, [some (.ref a), l1, l2], st, M) Q = XX X d 162 (111, [some (.ref a), l1, l2], .ref a :: st, M) Q := H_ld rfl rfl rfl rfl rfl
theorem x162_111 : XX X d 162 (111, L, .ref a :: st, M) Q = yg (M.2.2 a) 9 21 X d 162 114 L st M Q := G_getf rfl (by decide) rfl rfl rfl
theorem x162_114 : XX X d 162 (114, [l0, some (.int x), l2], st, M) Q = XX X d 162 (115, [l0, some (.int x), l2], .int x :: st, M) Q := H_ld rfl rfl rfl rfl rfl
theorem x162_115 : XX X d 162 (115, L, .int x :: .ref a :: st, M) Q = ya (M.2.2 a) .iaload x X d 162 116 L st M Q := G_ald rfl ⟨⟨rfl, rfl, rfl, by decide⟩, rfl, rfl⟩ rfl rfl
theorem x162_116 : XX X d 162 (116, L, .int (ii q) :: .int (ii p) :: st, M) Q = XX X d 162 (117, L, .int (ii (p * q)) :: st, M) Q := H_mul rfl (by decide) rfl
theorem x162_117 : XX X d 162 (117, L, st, M) Q = XX X d 162 (118, L, .int (ii 1) :: st, M) Q := G_cst rfl rfl rfl rfl rfl
theorem x162_118 : XX X d 162 (118, L, .int (ii q) :: .int (ii p) :: st, M) Q = XX X d 162 (119, L, .int (ii (p - q)) :: st, M) Q := H_sub rfl (by decide) rfl
theorem x162_119 : XX X d 162 (119, L, st, M) Q = XX X d 162 (120, L, .int (ii 0) :: st, M) Q := G_cst rfl rfl rfl rfl rfl
theorem x162_120 {v1 v2 v3 : Value} (hd : 0 < d) (hs : stB st = true) : XX X d 162 (120, L, v3 :: v2 :: v1 :: .ref a :: st, M) Q = (mcl M a = some 9 ∧ CC X (d - 1) 161 [.ref a, v1, v2, v3] M (XC X d 162 120 123 L st Q)) := H_virt [v1, v2, v3] rfl (by decide) rfl rfl rfl rfl rfl hd hs
theorem x162_123 (h : v.category = 1) : XX X d 162 (123, L, v :: st, M) Q = XX X d 162 (124, L, st, M) Q := G_sop rfl ⟨rfl, rfl, rfl, by decide⟩ (if_pos h) rfl
theorem x162_124 : XX X d 162 (124, L, [], M) Q = Q (.inl none) M := G_retv rfl (by decide) rfl
theorem x162_125 : XX X d 162 (125, [some (.ref a), l1, l2], st, M) Q = XX X d 162 (126, [some (.ref a), l1, l2], .ref a :: st, M) Q := H_ld rfl rfl rfl rfl rfl
theorem x162_126 : XX X d 162 (126, [l0, some (.int x), l2], st, M) Q = XX X d 162 (127, [l0, some (.int x), l2], .int x :: st, M) Q := H_ld rfl rfl rfl rfl rfl
theorem x162_127 : XX X d 162 (127, [l0, l1, some (.int x)], st, M) Q = XX X d 162 (128, [l0, l1, some (.int x)], .int x :: st, M) Q := H_ld rfl rfl rfl rfl rfl
theorem x162_128 {v1 v2 : Value} (hd : 0 < d) (hs : stB st = true) : XX X d 162 (128, L, v2 :: v1 :: .ref a :: st, M) Q = (mcl M a = some 9 ∧ CC X (d - 1) 163 [.ref a, v1, v2] M (XC X d 162 128 131 L st Q)) := H_virt [v1, v2] rfl (by decide) rfl rfl rfl rfl rfl hd hs
theorem x162_131 : XX X d 162 (131, L, [], M) Q = Q (.inl none) M := G_retv rfl (by decide) rfl
theorem e162 : CC X d 162 [.ref a, .int x] M Q = XX X d 162 (0, [some (.ref a), some (.int x), none], [], M) Q := H_ent rfl rfl
-- 163 X9_layChoice (II)V
theorem x163_0 : XX X d 163 (0, [some (.ref a), l1, l2, l3, l4], st, M) Q = XX X d 163 (1, [some (.ref a), l1, l2, l3, l4], .ref a :: st, M) Q := H_ld rfl rfl rfl rfl rfl
theorem x163_1 : XX X d 163 (1, L, .ref a :: st, M) Q = yg (M.2.2 a) 9 29 X d 163 4 L st M Q := G_getf rfl (by decide) rfl rfl rfl
theorem x163_4 (h : wide (some l2) = false) : XX X d 163 (4, [l0, l1, l2, l3, l4], .int x :: st, M) Q = XX X d 163 (5, [l0, l1, l2, some (.int x), l4], st, M) Q := H_st rfl rfl rfl rfl rfl rfl rfl rfl (Or.inr h)
theorem x163_5 : XX X d 163 (5, [l0, l1, some (.int x), l3, l4], st, M) Q = XX X d 163 (6, [l0, l1, some (.int x), l3, l4], .int x :: st, M) Q := H_ld rfl rfl rfl rfl rfl
theorem x163_6 : XX X d 163 (6, L, st, M) Q = XX X d 163 (8, L, .int (ii 7) :: st, M) Q := G_cst rfl rfl rfl rfl rfl
theorem x163_8 (h : -2147483648 ≤ p ∧ p ≤ 2147483647 ∧ -2147483648 ≤ q ∧ q ≤ 2147483647) : XX X d 163 (8, L, .int (ii q) :: .int (ii p) :: st, M) Q = bq (p ≠ q) X d 163 36 11 L st M Q := H_if2 rfl ⟨rfl, rfl, rfl, by decide⟩ rfl rfl rfl rfl (D_ne h)
theorem x163_11 : XX X d 163 (11, [some (.ref a), l1, l2, l3, l4], st, M) Q = XX X d 163 (12, [some (.ref a), l1, l2, l3, l4], .ref a :: st, M) Q := H_ld rfl rfl rfl rfl rfl
theorem x163_12 : XX X d 163 (12, [some (.ref a), l1, l2, l3, l4], st, M) Q = XX X d 163 (13, [some (.ref a), l1, l2, l3, l4], .ref a :: st, M) Q := H_ld rfl rfl rfl rfl rfl
theorem x163_13 : XX X d 163 (13, L, .ref a :: st, M) Q = yg (M.2.2 a) 9 20 X d 163 16 L st M Q := G_getf rfl (by decide) rfl rfl rfl
theorem x163_16 : XX X d 163 (16, [l0, some (.int x), l2, l3, l4], st, M) Q = XX X d 163 (17, [l0, some (.int x), l2, l3, l4], .int x :: st, M) Q := H_ld rfl rfl rfl rfl rfl
theorem x163_17 : XX X d 163 (17, L, .int x :: .ref a :: st, M) Q = ya (M.2.2 a) .iaload x X d 163 18 L st M Q := G_ald rfl ⟨⟨rfl, rfl, rfl, by decide⟩, rfl, rfl⟩ rfl rfl
theorem x163_18 {v1 : Value} (hd : 0 < d) (hs : stB st = true) : XX X d 163 (18, L, v1 :: .ref a :: st, M) Q = (mcl M a = some 9 ∧ CC X (d - 1) 162 [.ref a, v1] M (XC X d 163 18 21 L st Q)) := H_virt [v1] rfl (by decide) rfl rfl rfl rfl rfl hd hs
theorem x163_21 : XX X d 163 (21, [some (.ref a), l1, l2, l3, l4], st, M) Q = XX X d 163 (22, [some (.ref a), l1, l2, l3, l4], .ref a :: st, M) Q := H_ld rfl rfl rfl rfl rfl
theorem x163_22 : XX X d 163 (22, L, st, M) Q = XX X d 163 (24, L, .int (ii 10) :: st, M) Q := G_cst rfl rfl rfl rfl rfl
theorem x163_24 : XX X d 163 (24, [l0, l1, l2, some (.int x), l4], st, M) Q = XX X d 163 (25, [l0, l1, l2, some (.int x), l4], .int x :: st, M) Q := H_ld rfl rfl rfl rfl rfl
theorem x163_25 : XX X d 163 (25, [some (.ref a), l1, l2, l3, l4], st, M) Q = XX X d 163 (26, [some (.ref a), l1, l2, l3, l4], .ref a :: st, M) Q := H_ld rfl rfl rfl rfl rfl
theorem x163_26 : XX X d 163 (26, L, .ref a :: st, M) Q = yg (M.2.2 a) 9 29 X d 163 29 L st M Q := G_getf rfl (by decide) rfl rfl rfl
theorem x163_29 : XX X d 163 (29, L, st, M) Q = XX X d 163 (30, L, .int (ii 1) :: st, M) Q := G_cst rfl rfl rfl rfl rfl
theorem x163_30 : XX X d 163 (30, L, .int (ii q) :: .int (ii p) :: st, M) Q = XX X d 163 (31, L, .int (ii (p + q)) :: st, M) Q := H_add rfl (by decide) rfl
theorem x163_31 {v1 v2 v3 : Value} (hd : 0 < d) (hs : stB st = true) : XX X d 163 (31, L, v3 :: v2 :: v1 :: .ref a :: st, M) Q = (mcl M a = some 9 ∧ CC X (d - 1) 161 [.ref a, v1, v2, v3] M (XC X d 163 31 34 L st Q)) := H_virt [v1, v2, v3] rfl (by decide) rfl rfl rfl rfl rfl hd hs
theorem x163_34 (h : v.category = 1) : XX X d 163 (34, L, v :: st, M) Q = XX X d 163 (35, L, st, M) Q := G_sop rfl ⟨rfl, rfl, rfl, by decide⟩ (if_pos h) rfl
theorem x163_35 : XX X d 163 (35, L, [], M) Q = Q (.inl none) M := G_retv rfl (by decide) rfl
theorem x163_36 : XX X d 163 (36, [some (.ref a), l1, l2, l3, l4], st, M) Q = XX X d 163 (37, [some (.ref a), l1, l2, l3, l4], .ref a :: st, M) Q := H_ld rfl rfl rfl rfl rfl
theorem x163_37 : XX X d 163 (37, L, st, M) Q = XX X d 163 (39, L, .int (ii 10) :: st, M) Q := G_cst rfl rfl rfl rfl rfl
theorem x163_39 : XX X d 163 (39, [l0, l1, l2, some (.int x), l4], st, M) Q = XX X d 163 (40, [l0, l1, l2, some (.int x), l4], .int x :: st, M) Q := H_ld rfl rfl rfl rfl rfl
theorem x163_40 : XX X d 163 (40, L, st, M) Q = XX X d 163 (41, L, .int (ii 1) :: st, M) Q := G_cst rfl rfl rfl rfl rfl
theorem x163_41 : XX X d 163 (41, L, .int (ii q) :: .int (ii p) :: st, M) Q = XX X d 163 (42, L, .int (ii (p + q)) :: st, M) Q := H_add rfl (by decide) rfl
theorem x163_42 : XX X d 163 (42, L, st, M) Q = XX X d 163 (43, L, .int (ii 0) :: st, M) Q := G_cst rfl rfl rfl rfl rfl
theorem x163_43 {v1 v2 v3 : Value} (hd : 0 < d) (hs : stB st = true) : XX X d 163 (43, L, v3 :: v2 :: v1 :: .ref a :: st, M) Q = (mcl M a = some 9 ∧ CC X (d - 1) 161 [.ref a, v1, v2, v3] M (XC X d 163 43 46 L st Q)) := H_virt [v1, v2, v3] rfl (by decide) rfl rfl rfl rfl rfl hd hs
theorem x163_46 (h : v.category = 1) : XX X d 163 (46, L, v :: st, M) Q = XX X d 163 (47, L, st, M) Q := G_sop rfl ⟨rfl, rfl, rfl, by decide⟩ (if_pos h) rfl
theorem x163_47 : XX X d 163 (47, [some (.ref a), l1, l2, l3, l4], st, M) Q = XX X d 163 (48, [some (.ref a), l1, l2, l3, l4], .ref a :: st, M) Q := H_ld rfl rfl rfl rfl rfl
theorem x163_48 : XX X d 163 (48, [some (.ref a), l1, l2, l3, l4], st, M) Q = XX X d 163 (49, [some (.ref a), l1, l2, l3, l4], .ref a :: st, M) Q := H_ld rfl rfl rfl rfl rfl
theorem x163_49 : XX X d 163 (49, L, .ref a :: st, M) Q = yg (M.2.2 a) 9 20 X d 163 52 L st M Q := G_getf rfl (by decide) rfl rfl rfl
theorem x163_52 : XX X d 163 (52, [l0, some (.int x), l2, l3, l4], st, M) Q = XX X d 163 (53, [l0, some (.int x), l2, l3, l4], .int x :: st, M) Q := H_ld rfl rfl rfl rfl rfl
theorem x163_53 : XX X d 163 (53, L, .int x :: .ref a :: st, M) Q = ya (M.2.2 a) .iaload x X d 163 54 L st M Q := G_ald rfl ⟨⟨rfl, rfl, rfl, by decide⟩, rfl, rfl⟩ rfl rfl
theorem x163_54 {v1 : Value} (hd : 0 < d) (hs : stB st = true) : XX X d 163 (54, L, v1 :: .ref a :: st, M) Q = (mcl M a = some 9 ∧ CC X (d - 1) 162 [.ref a, v1] M (XC X d 163 54 57 L st Q)) := H_virt [v1] rfl (by decide) rfl rfl rfl rfl rfl hd hs
theorem x163_57 : XX X d 163 (57, [l0, l1, some (.int x), l3, l4], st, M) Q = XX X d 163 (58, [l0, l1, some (.int x), l3, l4], .int x :: st, M) Q := H_ld rfl rfl rfl rfl rfl
theorem x163_58 : XX X d 163 (58, L, st, M) Q = XX X d 163 (60, L, .int (ii 8) :: st, M) Q := G_cst rfl rfl rfl rfl rfl
theorem x163_60 (h : -2147483648 ≤ p ∧ p ≤ 2147483647 ∧ -2147483648 ≤ q ∧ q ≤ 2147483647) : XX X d 163 (60, L, .int (ii q) :: .int (ii p) :: st, M) Q = bq (p ≠ q) X d 163 74 63 L st M Q := H_if2 rfl ⟨rfl, rfl, rfl, by decide⟩ rfl rfl rfl rfl (D_ne h)
theorem x163_63 : XX X d 163 (63, [some (.ref a), l1, l2, l3, l4], st, M) Q = XX X d 163 (64, [some (.ref a), l1, l2, l3, l4], .ref a :: st, M) Q := H_ld rfl rfl rfl rfl rfl
theorem x163_64 : XX X d 163 (64, L, .ref a :: st, M) Q = yg (M.2.2 a) 9 28 X d 163 67 L st M Q := G_getf rfl (by decide) rfl rfl rfl
theorem x163_67 : XX X d 163 (67, [l0, l1, l2, some (.int x), l4], st, M) Q = XX X d 163 (68, [l0, l1, l2, some (.int x), l4], .int x :: st, M) Q := H_ld rfl rfl rfl rfl rfl
theorem x163_68 : XX X d 163 (68, [some (.ref a), l1, l2, l3, l4], st, M) Q = XX X d 163 (69, [some (.ref a), l1, l2, l3, l4], .ref a :: st, M) Q := H_ld rfl rfl rfl rfl rfl
theorem x163_69 : XX X d 163 (69, L, .ref a :: st, M) Q = yg (M.2.2 a) 9 29 X d 163 72 L st M Q := G_getf rfl (by decide) rfl rfl rfl
theorem x163_72 : XX X d 163 (72, L, v :: .int x :: .ref a :: st, M) Q = yw (M.2.2 a) a .iastore v x X d 163 73 L st M Q := G_ast rfl ⟨⟨rfl, rfl, rfl, by decide⟩, rfl, rfl⟩ rfl rfl rfl
theorem x163_73 : XX X d 163 (73, L, [], M) Q = Q (.inl none) M := G_retv rfl (by decide) rfl
theorem x163_74 : XX X d 163 (74, [some (.ref a), l1, l2, l3, l4], st, M) Q = XX X d 163 (75, [some (.ref a), l1, l2, l3, l4], .ref a :: st, M) Q := H_ld rfl rfl rfl rfl rfl
theorem x163_75 : XX X d 163 (75, L, st, M) Q = XX X d 163 (77, L, .int (ii 11) :: st, M) Q := G_cst rfl rfl rfl rfl rfl
theorem x163_77 : XX X d 163 (77, [l0, l1, l2, some (.int x), l4], st, M) Q = XX X d 163 (78, [l0, l1, l2, some (.int x), l4], .int x :: st, M) Q := H_ld rfl rfl rfl rfl rfl
theorem x163_78 : XX X d 163 (78, L, st, M) Q = XX X d 163 (79, L, .int (ii 0) :: st, M) Q := G_cst rfl rfl rfl rfl rfl
theorem x163_79 {v1 v2 v3 : Value} (hd : 0 < d) (hs : stB st = true) : XX X d 163 (79, L, v3 :: v2 :: v1 :: .ref a :: st, M) Q = (mcl M a = some 9 ∧ CC X (d - 1) 161 [.ref a, v1, v2, v3] M (XC X d 163 79 82 L st Q)) := H_virt [v1, v2, v3] rfl (by decide) rfl rfl rfl rfl rfl hd hs
theorem x163_82 (h : wide (some l3) = false) : XX X d 163 (82, [l0, l1, l2, l3, l4], .int x :: st, M) Q = XX X d 163 (84, [l0, l1, l2, l3, some (.int x)], st, M) Q := H_st rfl rfl rfl rfl rfl rfl rfl rfl (Or.inr h)
theorem x163_84 : XX X d 163 (84, [some (.ref a), l1, l2, l3, l4], st, M) Q = XX X d 163 (85, [some (.ref a), l1, l2, l3, l4], .ref a :: st, M) Q := H_ld rfl rfl rfl rfl rfl
theorem x163_85 : XX X d 163 (85, L, .ref a :: st, M) Q = yg (M.2.2 a) 9 28 X d 163 88 L st M Q := G_getf rfl (by decide) rfl rfl rfl
theorem x163_88 : XX X d 163 (88, [l0, l1, l2, some (.int x), l4], st, M) Q = XX X d 163 (89, [l0, l1, l2, some (.int x), l4], .int x :: st, M) Q := H_ld rfl rfl rfl rfl rfl
theorem x163_89 : XX X d 163 (89, [some (.ref a), l1, l2, l3, l4], st, M) Q = XX X d 163 (90, [some (.ref a), l1, l2, l3, l4], .ref a :: st, M) Q := H_ld rfl rfl rfl rfl rfl
theorem x163_90 : XX X d 163 (90, L, .ref a :: st, M) Q = yg (M.2.2 a) 9 29 X d 163 93 L st M Q := G_getf rfl (by decide) rfl rfl rfl
theorem x163_93 : XX X d 163 (93, L, v :: .int x :: .ref a :: st, M) Q = yw (M.2.2 a) a .iastore v x X d 163 94 L st M Q := G_ast rfl ⟨⟨rfl, rfl, rfl, by decide⟩, rfl, rfl⟩ rfl rfl rfl
theorem x163_94 : XX X d 163 (94, [l0, l1, some (.int x), l3, l4], st, M) Q = XX X d 163 (95, [l0, l1, some (.int x), l3, l4], .int x :: st, M) Q := H_ld rfl rfl rfl rfl rfl
theorem x163_95 : XX X d 163 (95, L, st, M) Q = XX X d 163 (97, L, .int (ii 6) :: st, M) Q := G_cst rfl rfl rfl rfl rfl
theorem x163_97 (h : -2147483648 ≤ p ∧ p ≤ 2147483647 ∧ -2147483648 ≤ q ∧ q ≤ 2147483647) : XX X d 163 (97, L, .int (ii q) :: .int (ii p) :: st, M) Q = bq (p ≠ q) X d 163 101 100 L st M Q := H_if2 rfl ⟨rfl, rfl, rfl, by decide⟩ rfl rfl rfl rfl (D_ne h)
theorem x163_100 : XX X d 163 (100, L, [], M) Q = Q (.inl none) M := G_retv rfl (by decide) rfl
theorem x163_101 : XX X d 163 (101, [some (.ref a), l1, l2, l3, l4], st, M) Q = XX X d 163 (102, [some (.ref a), l1, l2, l3, l4], .ref a :: st, M) Q := H_ld rfl rfl rfl rfl rfl
theorem x163_102 : XX X d 163 (102, [some (.ref a), l1, l2, l3, l4], st, M) Q = XX X d 163 (103, [some (.ref a), l1, l2, l3, l4], .ref a :: st, M) Q := H_ld rfl rfl rfl rfl rfl
theorem x163_103 : XX X d 163 (103, L, .ref a :: st, M) Q = yg (M.2.2 a) 9 21 X d 163 106 L st M Q := G_getf rfl (by decide) rfl rfl rfl
theorem x163_106 : XX X d 163 (106, [l0, some (.int x), l2, l3, l4], st, M) Q = XX X d 163 (107, [l0, some (.int x), l2, l3, l4], .int x :: st, M) Q := H_ld rfl rfl rfl rfl rfl
theorem x163_107 : XX X d 163 (107, L, .int x :: .ref a :: st, M) Q = ya (M.2.2 a) .iaload x X d 163 108 L st M Q := G_ald rfl ⟨⟨rfl, rfl, rfl, by decide⟩, rfl, rfl⟩ rfl rfl
theorem x163_108 {v1 : Value} (hd : 0 < d) (hs : stB st = true) : XX X d 163 (108, L, v1 :: .ref a :: st, M) Q = (mcl M a = some 9 ∧ CC X (d - 1) 162 [.ref a, v1] M (XC X d 163 108 111 L st Q)) := H_virt [v1] rfl (by decide) rfl rfl rfl rfl rfl hd hs
theorem x163_111 : XX X d 163 (111, [some (.ref a), l1, l2, l3, l4], st, M) Q = XX X d 163 (112, [some (.ref a), l1, l2, l3, l4], .ref a :: st, M) Q := H_ld rfl rfl rfl rfl rfl
theorem x163_112 : XX X d 163 (112, L, .ref a :: st, M) Q = yg (M.2.2 a) 9 27 X d 163 115 L st M Q := G_getf rfl (by decide) rfl rfl rfl
theorem x163_115 : XX X d 163 (115, [l0, l1, l2, l3, some (.int x)], st, M) Q = XX X d 163 (117, [l0, l1, l2, l3, some (.int x)], .int x :: st, M) Q := H_ld rfl rfl rfl rfl rfl
theorem x163_117 : XX X d 163 (117, [some (.ref a), l1, l2, l3, l4], st, M) Q = XX X d 163 (118, [some (.ref a), l1, l2, l3, l4], .ref a :: st, M) Q := H_ld rfl rfl rfl rfl rfl
theorem x163_118 : XX X d 163 (118, L, .ref a :: st, M) Q = yg (M.2.2 a) 9 29 X d 163 121 L st M Q := G_getf rfl (by decide) rfl rfl rfl
theorem x163_121 : XX X d 163 (121, L, v :: .int x :: .ref a :: st, M) Q = yw (M.2.2 a) a .iastore v x X d 163 122 L st M Q := G_ast rfl ⟨⟨rfl, rfl, rfl, by decide⟩, rfl, rfl⟩ rfl rfl rfl
theorem x163_122 : XX X d 163 (122, L, [], M) Q = Q (.inl none) M := G_retv rfl (by decide) rfl
theorem e163 : CC X d 163 [.ref a, .int x, .int x2] M Q = XX X d 163 (0, [some (.ref a), some (.int x), some (.int x2), none, none], [], M) Q := H_ent rfl rfl
-- 164 X9_layPattern (I)V
theorem x164_0 : XX X d 164 (0, [some (.ref a), l1, l2], st, M) Q = XX X d 164 (1, [some (.ref a), l1, l2], .ref a :: st, M) Q := H_ld rfl rfl rfl rfl rfl
theorem x164_1 : XX X d 164 (1, [some (.ref a), l1, l2], st, M) Q = XX X d 164 (2, [some (.ref a), l1, l2], .ref a :: st, M) Q := H_ld rfl rfl rfl rfl rfl
theorem x164_2 : XX X d 164 (2, L, .ref a :: st, M) Q = yg (M.2.2 a) 9 0 X d 164 5 L st M Q := G_getf rfl (by decide) rfl rfl rfl
theorem x164_5 : XX X d 164 (5, L, st, M) Q = XX X d 164 (6, L, .int (ii 1) :: st, M) Q := G_cst rfl rfl rfl rfl rfl
theorem x164_6 : XX X d 164 (6, [l0, some (.int x), l2], st, M) Q = XX X d 164 (7, [l0, some (.int x), l2], .int x :: st, M) Q := H_ld rfl rfl rfl rfl rfl
theorem x164_7 : XX X d 164 (7, L, .int (ii q) :: .int (ii p) :: st, M) Q = XX X d 164 (8, L, .int (ii (p + q)) :: st, M) Q := H_add rfl (by decide) rfl
theorem x164_8 : XX X d 164 (8, L, .int x :: .ref a :: st, M) Q = ya (M.2.2 a) .iaload x X d 164 9 L st M Q := G_ald rfl ⟨⟨rfl, rfl, rfl, by decide⟩, rfl, rfl⟩ rfl rfl
theorem x164_9 : XX X d 164 (9, L, v :: .ref a :: st, M) Q = yp (M.2.2 a) a 9 16 v X d 164 12 L st M Q := G_putf rfl (by decide) rfl rfl rfl
theorem x164_12 : XX X d 164 (12, L, st, M) Q = XX X d 164 (13, L, .int (ii 0) :: st, M) Q := G_cst rfl rfl rfl rfl rfl
theorem x164_13 (h : wide (some l1) = false) : XX X d 164 (13, [l0, l1, l2], .int x :: st, M) Q = XX X d 164 (14, [l0, l1, some (.int x)], st, M) Q := H_st rfl rfl rfl rfl rfl rfl rfl rfl (Or.inr h)
theorem x164_14 : XX X d 164 (14, [l0, l1, some (.int x)], st, M) Q = XX X d 164 (15, [l0, l1, some (.int x)], .int x :: st, M) Q := H_ld rfl rfl rfl rfl rfl
theorem x164_15 : XX X d 164 (15, [some (.ref a), l1, l2], st, M) Q = XX X d 164 (16, [some (.ref a), l1, l2], .ref a :: st, M) Q := H_ld rfl rfl rfl rfl rfl
theorem x164_16 : XX X d 164 (16, L, .ref a :: st, M) Q = yg (M.2.2 a) 9 16 X d 164 19 L st M Q := G_getf rfl (by decide) rfl rfl rfl
theorem x164_19 (h : -2147483648 ≤ p ∧ p ≤ 2147483647 ∧ -2147483648 ≤ q ∧ q ≤ 2147483647) : XX X d 164 (19, L, .int (ii q) :: .int (ii p) :: st, M) Q = bq (q ≤ p) X d 164 47 22 L st M Q := H_if2 rfl ⟨rfl, rfl, rfl, by decide⟩ rfl rfl rfl rfl (D_le h)
theorem x164_22 : XX X d 164 (22, [some (.ref a), l1, l2], st, M) Q = XX X d 164 (23, [some (.ref a), l1, l2], .ref a :: st, M) Q := H_ld rfl rfl rfl rfl rfl
theorem x164_23 : XX X d 164 (23, L, .ref a :: st, M) Q = yg (M.2.2 a) 9 15 X d 164 26 L st M Q := G_getf rfl (by decide) rfl rfl rfl
theorem x164_26 : XX X d 164 (26, [l0, l1, some (.int x)], st, M) Q = XX X d 164 (27, [l0, l1, some (.int x)], .int x :: st, M) Q := H_ld rfl rfl rfl rfl rfl
theorem x164_27 : XX X d 164 (27, [some (.ref a), l1, l2], st, M) Q = XX X d 164 (28, [some (.ref a), l1, l2], .ref a :: st, M) Q := H_ld rfl rfl rfl rfl rfl
theorem x164_28 : XX X d 164 (28, L, .ref a :: st, M) Q = yg (M.2.2 a) 9 0 X d 164 31 L st M Q := G_getf rfl (by decide) rfl rfl rfl
theorem x164_31 : XX X d 164 (31, L, st, M) Q = XX X d 164 (32, L, .int (ii 5) :: st, M) Q := G_cst rfl rfl rfl rfl rfl
theorem x164_32 : XX X d 164 (32, L, st, M) Q = XX X d 164 (34, L, .int (ii 30) :: st, M) Q := G_cst rfl rfl rfl rfl rfl
theorem x164_34 : XX X d 164 (34, [l0, some (.int x), l2], st, M) Q = XX X d 164 (35, [l0, some (.int x), l2], .int x :: st, M) Q := H_ld rfl rfl rfl rfl rfl
theorem x164_35 : XX X d 164 (35, L, .int (ii q) :: .int (ii p) :: st, M) Q = XX X d 164 (36, L, .int (ii (p * q)) :: st, M) Q := H_mul rfl (by decide) rfl
theorem x164_36 : XX X d 164 (36, L, .int (ii q) :: .int (ii p) :: st, M) Q = XX X d 164 (37, L, .int (ii (p + q)) :: st, M) Q := H_add rfl (by decide) rfl
theorem x164_37 : XX X d 164 (37, [l0, l1, some (.int x)], st, M) Q = XX X d 164 (38, [l0, l1, some (.int x)], .int x :: st, M) Q := H_ld rfl rfl rfl rfl rfl
theorem x164_38 : XX X d 164 (38, L, .int (ii q) :: .int (ii p) :: st, M) Q = XX X d 164 (39, L, .int (ii (p + q)) :: st, M) Q := H_add rfl (by decide) rfl
theorem x164_39 : XX X d 164 (39, L, .int x :: .ref a :: st, M) Q = ya (M.2.2 a) .iaload x X d 164 40 L st M Q := G_ald rfl ⟨⟨rfl, rfl, rfl, by decide⟩, rfl, rfl⟩ rfl rfl
theorem x164_40 : XX X d 164 (40, L, v :: .int x :: .ref a :: st, M) Q = yw (M.2.2 a) a .iastore v x X d 164 41 L st M Q := G_ast rfl ⟨⟨rfl, rfl, rfl, by decide⟩, rfl, rfl⟩ rfl rfl rfl
theorem x164_41 (h : wide (some l1) = false) : XX X d 164 (41, [l0, l1, some (.int (ii p))], st, M) Q = XX X d 164 (44, [l0, l1, some (.int (ii (p + 1)))], st, M) Q := H_inc rfl (by decide) rfl rfl rfl (Or.inr h)
theorem x164_44 : XX X d 164 (44, L, st, M) Q = XX X d 164 (14, L, st, M) Q := H_jmp rfl (by decide) rfl
theorem x164_47 : XX X d 164 (47, [some (.ref a), l1, l2], st, M) Q = XX X d 164 (48, [some (.ref a), l1, l2], .ref a :: st, M) Q := H_ld rfl rfl rfl rfl rfl
theorem x164_48 (hd : 0 < d) (hs : stB st = true) : XX X d 164 (48, L, .ref a :: st, M) Q = (mcl M a = some 9 ∧ CC X (d - 1) 160 [.ref a] M (XC X d 164 48 51 L st Q)) := H_virt [] rfl (by decide) rfl rfl rfl rfl rfl hd hs
theorem x164_51 (h : wide (some l1) = false) : XX X d 164 (51, [l0, l1, l2], .int x :: st, M) Q = XX X d 164 (52, [l0, l1, some (.int x)], st, M) Q := H_st rfl rfl rfl rfl rfl rfl rfl rfl (Or.inr h)
theorem x164_52 : XX X d 164 (52, [some (.ref a), l1, l2], st, M) Q = XX X d 164 (53, [some (.ref a), l1, l2], .ref a :: st, M) Q := H_ld rfl rfl rfl rfl rfl
theorem x164_53 : XX X d 164 (53, L, st, M) Q = XX X d 164 (54, L, .int (ii 0) :: st, M) Q := G_cst rfl rfl rfl rfl rfl
theorem x164_54 : XX X d 164 (54, L, v :: .ref a :: st, M) Q = yp (M.2.2 a) a 9 29 v X d 164 57 L st M Q := G_putf rfl (by decide) rfl rfl rfl
theorem x164_57 : XX X d 164 (57, [some (.ref a), l1, l2], st, M) Q = XX X d 164 (58, [some (.ref a), l1, l2], .ref a :: st, M) Q := H_ld rfl rfl rfl rfl rfl
theorem x164_58 : XX X d 164 (58, [l0, l1, some (.int x)], st, M) Q = XX X d 164 (59, [l0, l1, some (.int x)], .int x :: st, M) Q := H_ld rfl rfl rfl rfl rfl
theorem x164_59 {v1 : Value} (hd : 0 < d) (hs : stB st = true) : XX X d 164 (59, L, v1 :: .ref a :: st, M) Q = (mcl M a = some 9 ∧ CC X (d - 1) 162 [.ref a, v1] M (XC X d 164 59 62 L st Q)) := H_virt [v1] rfl (by decide) rfl rfl rfl rfl rfl hd hs
theorem x164_62 : XX X d 164 (62, [some (.ref a), l1, l2], st, M) Q = XX X d 164 (63, [some (.ref a), l1, l2], .ref a :: st, M) Q := H_ld rfl rfl rfl rfl rfl
theorem x164_63 : XX X d 164 (63, L, st, M) Q = XX X d 164 (65, L, .int (ii 13) :: st, M) Q := G_cst rfl rfl rfl rfl rfl
theorem x164_65 : XX X d 164 (65, L, st, M) Q = XX X d 164 (66, L, .int (ii 0) :: st, M) Q := G_cst rfl rfl rfl rfl rfl
theorem x164_66 : XX X d 164 (66, L, st, M) Q = XX X d 164 (67, L, .int (ii 0) :: st, M) Q := G_cst rfl rfl rfl rfl rfl
theorem x164_67 {v1 v2 v3 : Value} (hd : 0 < d) (hs : stB st = true) : XX X d 164 (67, L, v3 :: v2 :: v1 :: .ref a :: st, M) Q = (mcl M a = some 9 ∧ CC X (d - 1) 161 [.ref a, v1, v2, v3] M (XC X d 164 67 70 L st Q)) := H_virt [v1, v2, v3] rfl (by decide) rfl rfl rfl rfl rfl hd hs
theorem x164_70 (h : v.category = 1) : XX X d 164 (70, L, v :: st, M) Q = XX X d 164 (71, L, st, M) Q := G_sop rfl ⟨rfl, rfl, rfl, by decide⟩ (if_pos h) rfl
theorem x164_71 : XX X d 164 (71, L, [], M) Q = Q (.inl none) M := G_retv rfl (by decide) rfl
theorem e164 : CC X d 164 [.ref a, .int x] M Q = XX X d 164 (0, [some (.ref a), some (.int x), none], [], M) Q := H_ent rfl rfl
-- 165 X9_isIn (III)Z
theorem x165_0 : XX X d 165 (0, [l0, l1, l2, some (.int x), l4, l5, l6], st, M) Q = XX X d 165 (1, [l0, l1, l2, some (.int x), l4, l5, l6], .int x :: st, M) Q := H_ld rfl rfl rfl rfl rfl
theorem x165_1 (h : -2147483648 ≤ p ∧ p ≤ 2147483647) : XX X d 165 (1, L, .int (ii p) :: st, M) Q = bq (0 ≤ p) X d 165 8 4 L st M Q := H_if rfl ⟨rfl, rfl, rfl, by decide⟩ rfl rfl rfl rfl (D_le (b := 0) (by omega))
theorem x165_4 : XX X d 165 (4, L, st, M) Q = XX X d 165 (5, L, .int (ii 1) :: st, M) Q := G_cst rfl rfl rfl rfl rfl
theorem x165_5 : XX X d 165 (5, L, st, M) Q = XX X d 165 (9, L, st, M) Q := H_jmp rfl (by decide) rfl
theorem x165_8 : XX X d 165 (8, L, st, M) Q = XX X d 165 (9, L, .int (ii 0) :: st, M) Q := G_cst rfl rfl rfl rfl rfl
theorem x165_9 (h : wide (some l3) = false) : XX X d 165 (9, [l0, l1, l2, l3, l4, l5, l6], .int x :: st, M) Q = XX X d 165 (11, [l0, l1, l2, l3, some (.int x), l5, l6], st, M) Q := H_st rfl rfl rfl rfl rfl rfl rfl rfl (Or.inr h)
theorem x165_11 : XX X d 165 (11, [l0, l1, l2, l3, some (.int x), l5, l6], st, M) Q = XX X d 165 (13, [l0, l1, l2, l3, some (.int x), l5, l6], .int x :: st, M) Q := H_ld rfl rfl rfl rfl rfl
theorem x165_13 (h : -2147483648 ≤ p ∧ p ≤ 2147483647) : XX X d 165 (13, L, .int (ii p) :: st, M) Q = bq (p = 0) X d 165 23 16 L st M Q := H_if rfl ⟨rfl, rfl, rfl, by decide⟩ rfl rfl rfl rfl (D_eq (b := 0) (by omega))
theorem x165_13b : XX X d 165 (13, L, .int (ii (b2i b)) :: st, M) Q = bq (b = false) X d 165 23 16 L st M Q := (x165_13 (b2i_r b)).trans (by rw [b2i_0])
theorem x165_16 : XX X d 165 (16, [l0, l1, l2, some (.int x), l4, l5, l6], st, M) Q = XX X d 165 (17, [l0, l1, l2, some (.int x), l4, l5, l6], .int x :: st, M) Q := H_ld rfl rfl rfl rfl rfl
theorem x165_17 : XX X d 165 (17, L, .int (ii p) :: st, M) Q = XX X d 165 (18, L, .int (ii (-p)) :: st, M) Q := H_neg rfl (by decide) rfl
theorem x165_18 : XX X d 165 (18, L, st, M) Q = XX X d 165 (19, L, .int (ii 1) :: st, M) Q := G_cst rfl rfl rfl rfl rfl
theorem x165_19 : XX X d 165 (19, L, .int (ii q) :: .int (ii p) :: st, M) Q = XX X d 165 (20, L, .int (ii (p - q)) :: st, M) Q := H_sub rfl (by decide) rfl
theorem x165_20 : XX X d 165 (20, L, st, M) Q = XX X d 165 (24, L, st, M) Q := H_jmp rfl (by decide) rfl
theorem x165_23 : XX X d 165 (23, [l0, l1, l2, some (.int x), l4, l5, l6], st, M) Q = XX X d 165 (24, [l0, l1, l2, some (.int x), l4, l5, l6], .int x :: st, M) Q := H_ld rfl rfl rfl rfl rfl
theorem x165_24 (h : wide (some l4) = false) : XX X d 165 (24, [l0, l1, l2, l3, l4, l5, l6], .int x :: st, M) Q = XX X d 165 (26, [l0, l1, l2, l3, l4, some (.int x), l6], st, M) Q := H_st rfl rfl rfl rfl rfl rfl rfl rfl (Or.inr h)
theorem x165_26 : XX X d 165 (26, [l0, l1, some (.int x), l3, l4, l5, l6], st, M) Q = XX X d 165 (27, [l0, l1, some (.int x), l3, l4, l5, l6], .int x :: st, M) Q := H_ld rfl rfl rfl rfl rfl
theorem x165_27 (h : wide (some l5) = false) : XX X d 165 (27, [l0, l1, l2, l3, l4, l5, l6], .int x :: st, M) Q = XX X d 165 (29, [l0, l1, l2, l3, l4, l5, some (.int x)], st, M) Q := H_st rfl rfl rfl rfl rfl rfl rfl rfl (Or.inr h)
theorem x165_29 : XX X d 165 (29, [l0, l1, l2, l3, l4, l5, some (.int x)], st, M) Q = XX X d 165 (31, [l0, l1, l2, l3, l4, l5, some (.int x)], .int x :: st, M) Q := H_ld rfl rfl rfl rfl rfl
theorem x165_31 : XX X d 165 (31, [l0, l1, l2, l3, l4, some (.int x), l6], st, M) Q = XX X d 165 (33, [l0, l1, l2, l3, l4, some (.int x), l6], .int x :: st, M) Q := H_ld rfl rfl rfl rfl rfl
theorem x165_33 (h : -2147483648 ≤ p ∧ p ≤ 2147483647 ∧ -2147483648 ≤ q ∧ q ≤ 2147483647) : XX X d 165 (33, L, .int (ii q) :: .int (ii p) :: st, M) Q = bq (q ≤ p) X d 165 64 36 L st M Q := H_if2 rfl ⟨rfl, rfl, rfl, by decide⟩ rfl rfl rfl rfl (D_le h)
theorem x165_36 : XX X d 165 (36, [some (.ref a), l1, l2, l3, l4, l5, l6], st, M) Q = XX X d 165 (37, [some (.ref a), l1, l2, l3, l4, l5, l6], .ref a :: st, M) Q := H_ld rfl rfl rfl rfl rfl
theorem x165_37 : XX X d 165 (37, L, .ref a :: st, M) Q = yg (M.2.2 a) 9 15 X d 165 40 L st M Q := G_getf rfl (by decide) rfl rfl rfl
theorem x165_40 : XX X d 165 (40, [l0, l1, l2, l3, l4, l5, some (.int x)], st, M) Q = XX X d 165 (42, [l0, l1, l2, l3, l4, l5, some (.int x)], .int x :: st, M) Q := H_ld rfl rfl rfl rfl rfl
theorem x165_42 : XX X d 165 (42, L, .int x :: .ref a :: st, M) Q = ya (M.2.2 a) .iaload x X d 165 43 L st M Q := G_ald rfl ⟨⟨rfl, rfl, rfl, by decide⟩, rfl, rfl⟩ rfl rfl
theorem x165_43 : XX X d 165 (43, [l0, some (.int x), l2, l3, l4, l5, l6], st, M) Q = XX X d 165 (44, [l0, some (.int x), l2, l3, l4, l5, l6], .int x :: st, M) Q := H_ld rfl rfl rfl rfl rfl
theorem x165_44 (h : -2147483648 ≤ p ∧ p ≤ 2147483647 ∧ -2147483648 ≤ q ∧ q ≤ 2147483647) : XX X d 165 (44, L, .int (ii q) :: .int (ii p) :: st, M) Q = bq (p ≠ q) X d 165 58 47 L st M Q := H_if2 rfl ⟨rfl, rfl, rfl, by decide⟩ rfl rfl rfl rfl (D_ne h)
theorem x165_47 : XX X d 165 (47, [l0, l1, l2, l3, some (.int x), l5, l6], st, M) Q = XX X d 165 (49, [l0, l1, l2, l3, some (.int x), l5, l6], .int x :: st, M) Q := H_ld rfl rfl rfl rfl rfl
theorem x165_49 (h : -2147483648 ≤ p ∧ p ≤ 2147483647) : XX X d 165 (49, L, .int (ii p) :: st, M) Q = bq (p ≠ 0) X d 165 56 52 L st M Q := H_if rfl ⟨rfl, rfl, rfl, by decide⟩ rfl rfl rfl rfl (D_ne (b := 0) (by omega))
theorem x165_49b : XX X d 165 (49, L, .int (ii (b2i b)) :: st, M) Q = bq (b = true) X d 165 56 52 L st M Q := (x165_49 (b2i_r b)).trans (by rw [b2i_n0])
theorem x165_52 : XX X d 165 (52, L, st, M) Q = XX X d 165 (53, L, .int (ii 1) :: st, M) Q := G_cst rfl rfl rfl rfl rfl
theorem x165_53 : XX X d 165 (53, L, st, M) Q = XX X d 165 (57, L, st, M) Q := H_jmp rfl (by decide) rfl
theorem x165_56 : XX X d 165 (56, L, st, M) Q = XX X d 165 (57, L, .int (ii 0) :: st, M) Q := G_cst rfl rfl rfl rfl rfl
theorem x165_57 (h : p = 0 ∨ p = 1) : XX X d 165 (57, L, [.int (ii p)], M) Q = Q (.inl (some (.int (ii p)))) M := G_ret rfl ⟨⟨⟨rfl, rfl, rfl, by decide⟩, rfl, rfl⟩, rfl, rfl⟩ (bz_ok h)
theorem x165_58 (h : wide (some l5) = false) : XX X d 165 (58, [l0, l1, l2, l3, l4, l5, some (.int (ii p))], st, M) Q = XX X d 165 (61, [l0, l1, l2, l3, l4, l5, some (.int (ii (p + 1)))], st, M) Q := H_inc rfl (by decide) rfl rfl rfl (Or.inr h)
theorem x165_61 : XX X d 165 (61, L, st, M) Q = XX X d 165 (29, L, st, M) Q := H_jmp rfl (by decide) rfl
theorem x165_64 : XX X d 165 (64, [l0, l1, l2, l3, some (.int x), l5, l6], st, M) Q = XX X d 165 (66, [l0, l1, l2, l3, some (.int x), l5, l6], .int x :: st, M) Q := H_ld rfl rfl rfl rfl rfl
theorem x165_66 (h : p = 0 ∨ p = 1) : XX X d 165 (66, L, [.int (ii p)], M) Q = Q (.inl (some (.int (ii p)))) M := G_ret rfl ⟨⟨⟨rfl, rfl, rfl, by decide⟩, rfl, rfl⟩, rfl, rfl⟩ (bz_ok h)
theorem e165 : CC X d 165 [.ref a, .int x, .int x2, .int x3] M Q = XX X d 165 (0, [some (.ref a), some (.int x), some (.int x2), some (.int x3), none, none, none], [], M) Q := H_ent rfl rfl
-- 166 X9_fits (II)Z
theorem x166_0 : XX X d 166 (0, [l0, l1, some (.int x), l3], st, M) Q = XX X d 166 (1, [l0, l1, some (.int x), l3], .int x :: st, M) Q := H_ld rfl rfl rfl rfl rfl
theorem x166_1 : XX X d 166 (1, [some (.ref a), l1, l2, l3], st, M) Q = XX X d 166 (2, [some (.ref a), l1, l2, l3], .ref a :: st, M) Q := H_ld rfl rfl rfl rfl rfl
theorem x166_2 : XX X d 166 (2, L, .ref a :: st, M) Q = yg (M.2.2 a) 9 0 X d 166 5 L st M Q := G_getf rfl (by decide) rfl rfl rfl
theorem x166_5 : XX X d 166 (5, L, st, M) Q = XX X d 166 (7, L, .int (ii 125) :: st, M) Q := G_cst rfl rfl rfl rfl rfl
theorem x166_7 : XX X d 166 (7, L, .int x :: .ref a :: st, M) Q = ya (M.2.2 a) .iaload x X d 166 8 L st M Q := G_ald rfl ⟨⟨rfl, rfl, rfl, by decide⟩, rfl, rfl⟩ rfl rfl
theorem x166_8 (h : -2147483648 ≤ p ∧ p ≤ 2147483647 ∧ -2147483648 ≤ q ∧ q ≤ 2147483647) : XX X d 166 (8, L, .int (ii q) :: .int (ii p) :: st, M) Q = bq (p ≠ q) X d 166 13 11 L st M Q := H_if2 rfl ⟨rfl, rfl, rfl, by decide⟩ rfl rfl rfl rfl (D_ne h)
theorem x166_11 : XX X d 166 (11, L, st, M) Q = XX X d 166 (12, L, .int (ii 0) :: st, M) Q := G_cst rfl rfl rfl rfl rfl
theorem x166_12 (h : p = 0 ∨ p = 1) : XX X d 166 (12, L, [.int (ii p)], M) Q = Q (.inl (some (.int (ii p)))) M := G_ret rfl ⟨⟨⟨rfl, rfl, rfl, by decide⟩, rfl, rfl⟩, rfl, rfl⟩ (bz_ok h)
theorem x166_13 : XX X d 166 (13, [some (.ref a), l1, l2, l3], st, M) Q = XX X d 166 (14, [some (.ref a), l1, l2, l3], .ref a :: st, M) Q := H_ld rfl rfl rfl rfl rfl
theorem x166_14 : XX X d 166 (14, L, .ref a :: st, M) Q = yg (M.2.2 a) 9 0 X d 166 17 L st M Q := G_getf rfl (by decide) rfl rfl rfl
theorem x166_17 : XX X d 166 (17, L, st, M) Q = XX X d 166 (19, L, .int (ii 126) :: st, M) Q := G_cst rfl rfl rfl rfl rfl
theorem x166_19 : XX X d 166 (19, [l0, l1, some (.int x), l3], st, M) Q = XX X d 166 (20, [l0, l1, some (.int x), l3], .int x :: st, M) Q := H_ld rfl rfl rfl rfl rfl
theorem x166_20 : XX X d 166 (20, L, .int (ii q) :: .int (ii p) :: st, M) Q = XX X d 166 (21, L, .int (ii (p + q)) :: st, M) Q := H_add rfl (by decide) rfl
theorem x166_21 : XX X d 166 (21, L, .int x :: .ref a :: st, M) Q = ya (M.2.2 a) .iaload x X d 166 22 L st M Q := G_ald rfl ⟨⟨rfl, rfl, rfl, by decide⟩, rfl, rfl⟩ rfl rfl
theorem x166_22 (h : wide (some l2) = false) : XX X d 166 (22, [l0, l1, l2, l3], .int x :: st, M) Q = XX X d 166 (23, [l0, l1, l2, some (.int x)], st, M) Q := H_st rfl rfl rfl rfl rfl rfl rfl rfl (Or.inr h)
theorem x166_23 : XX X d 166 (23, [some (.ref a), l1, l2, l3], st, M) Q = XX X d 166 (24, [some (.ref a), l1, l2, l3], .ref a :: st, M) Q := H_ld rfl rfl rfl rfl rfl
theorem x166_24 : XX X d 166 (24, L, .ref a :: st, M) Q = yg (M.2.2 a) 9 26 X d 166 27 L st M Q := G_getf rfl (by decide) rfl rfl rfl
theorem x166_27 : XX X d 166 (27, [l0, some (.int x), l2, l3], st, M) Q = XX X d 166 (28, [l0, some (.int x), l2, l3], .int x :: st, M) Q := H_ld rfl rfl rfl rfl rfl
theorem x166_28 : XX X d 166 (28, L, .int x :: .ref a :: st, M) Q = ya (M.2.2 a) .iaload x X d 166 29 L st M Q := G_ald rfl ⟨⟨rfl, rfl, rfl, by decide⟩, rfl, rfl⟩ rfl rfl
theorem x166_29 : XX X d 166 (29, L, st, M) Q = XX X d 166 (30, L, .int (ii 2) :: st, M) Q := G_cst rfl rfl rfl rfl rfl
theorem x166_30 (h : -2147483648 ≤ p ∧ p ≤ 2147483647 ∧ -2147483648 ≤ q ∧ q ≤ 2147483647) : XX X d 166 (30, L, .int (ii q) :: .int (ii p) :: st, M) Q = bq (p = q) X d 166 83 33 L st M Q := H_if2 rfl ⟨rfl, rfl, rfl, by decide⟩ rfl rfl rfl rfl (D_eq h)
theorem x166_33 : XX X d 166 (33, [some (.ref a), l1, l2, l3], st, M) Q = XX X d 166 (34, [some (.ref a), l1, l2, l3], .ref a :: st, M) Q := H_ld rfl rfl rfl rfl rfl
theorem x166_34 : XX X d 166 (34, L, .ref a :: st, M) Q = yg (M.2.2 a) 9 26 X d 166 37 L st M Q := G_getf rfl (by decide) rfl rfl rfl
theorem x166_37 : XX X d 166 (37, [l0, some (.int x), l2, l3], st, M) Q = XX X d 166 (38, [l0, some (.int x), l2, l3], .int x :: st, M) Q := H_ld rfl rfl rfl rfl rfl
theorem x166_38 : XX X d 166 (38, L, .int x :: .ref a :: st, M) Q = ya (M.2.2 a) .iaload x X d 166 39 L st M Q := G_ald rfl ⟨⟨rfl, rfl, rfl, by decide⟩, rfl, rfl⟩ rfl rfl
theorem x166_39 : XX X d 166 (39, L, st, M) Q = XX X d 166 (40, L, .int (ii 1) :: st, M) Q := G_cst rfl rfl rfl rfl rfl
theorem x166_40 (h : -2147483648 ≤ p ∧ p ≤ 2147483647 ∧ -2147483648 ≤ q ∧ q ≤ 2147483647) : XX X d 166 (40, L, .int (ii q) :: .int (ii p) :: st, M) Q = bq (p ≠ q) X d 166 53 43 L st M Q := H_if2 rfl ⟨rfl, rfl, rfl, by decide⟩ rfl rfl rfl rfl (D_ne h)
theorem x166_43 : XX X d 166 (43, [l0, l1, l2, some (.int x)], st, M) Q = XX X d 166 (44, [l0, l1, l2, some (.int x)], .int x :: st, M) Q := H_ld rfl rfl rfl rfl rfl
theorem x166_44 : XX X d 166 (44, [some (.ref a), l1, l2, l3], st, M) Q = XX X d 166 (45, [some (.ref a), l1, l2, l3], .ref a :: st, M) Q := H_ld rfl rfl rfl rfl rfl
theorem x166_45 : XX X d 166 (45, L, .ref a :: st, M) Q = yg (M.2.2 a) 9 27 X d 166 48 L st M Q := G_getf rfl (by decide) rfl rfl rfl
theorem x166_48 : XX X d 166 (48, [l0, some (.int x), l2, l3], st, M) Q = XX X d 166 (49, [l0, some (.int x), l2, l3], .int x :: st, M) Q := H_ld rfl rfl rfl rfl rfl
theorem x166_49 : XX X d 166 (49, L, .int x :: .ref a :: st, M) Q = ya (M.2.2 a) .iaload x X d 166 50 L st M Q := G_ald rfl ⟨⟨rfl, rfl, rfl, by decide⟩, rfl, rfl⟩ rfl rfl
theorem x166_50 (h : -2147483648 ≤ p ∧ p ≤ 2147483647 ∧ -2147483648 ≤ q ∧ q ≤ 2147483647) : XX X d 166 (50, L, .int (ii q) :: .int (ii p) :: st, M) Q = bq (p = q) X d 166 83 53 L st M Q := H_if2 rfl ⟨rfl, rfl, rfl, by decide⟩ rfl rfl rfl rfl (D_eq h)
theorem x166_53 : XX X d 166 (53, [some (.ref a), l1, l2, l3], st, M) Q = XX X d 166 (54, [some (.ref a), l1, l2, l3], .ref a :: st, M) Q := H_ld rfl rfl rfl rfl rfl
theorem x166_54 : XX X d 166 (54, L, .ref a :: st, M) Q = yg (M.2.2 a) 9 26 X d 166 57 L st M Q := G_getf rfl (by decide) rfl rfl rfl
theorem x166_57 : XX X d 166 (57, [l0, some (.int x), l2, l3], st, M) Q = XX X d 166 (58, [l0, some (.int x), l2, l3], .int x :: st, M) Q := H_ld rfl rfl rfl rfl rfl
theorem x166_58 : XX X d 166 (58, L, .int x :: .ref a :: st, M) Q = ya (M.2.2 a) .iaload x X d 166 59 L st M Q := G_ald rfl ⟨⟨rfl, rfl, rfl, by decide⟩, rfl, rfl⟩ rfl rfl
theorem x166_59 : XX X d 166 (59, L, st, M) Q = XX X d 166 (60, L, .int (ii 3) :: st, M) Q := G_cst rfl rfl rfl rfl rfl
theorem x166_60 (h : -2147483648 ≤ p ∧ p ≤ 2147483647 ∧ -2147483648 ≤ q ∧ q ≤ 2147483647) : XX X d 166 (60, L, .int (ii q) :: .int (ii p) :: st, M) Q = bq (p ≠ q) X d 166 87 63 L st M Q := H_if2 rfl ⟨rfl, rfl, rfl, by decide⟩ rfl rfl rfl rfl (D_ne h)
theorem x166_63 : XX X d 166 (63, [some (.ref a), l1, l2, l3], st, M) Q = XX X d 166 (64, [some (.ref a), l1, l2, l3], .ref a :: st, M) Q := H_ld rfl rfl rfl rfl rfl
theorem x166_64 : XX X d 166 (64, [l0, l1, l2, some (.int x)], st, M) Q = XX X d 166 (65, [l0, l1, l2, some (.int x)], .int x :: st, M) Q := H_ld rfl rfl rfl rfl rfl
theorem x166_65 : XX X d 166 (65, [some (.ref a), l1, l2, l3], st, M) Q = XX X d 166 (66, [some (.ref a), l1, l2, l3], .ref a :: st, M) Q := H_ld rfl rfl rfl rfl rfl
theorem x166_66 : XX X d 166 (66, L, .ref a :: st, M) Q = yg (M.2.2 a) 9 27 X d 166 69 L st M Q := G_getf rfl (by decide) rfl rfl rfl
theorem x166_69 : XX X d 166 (69, [l0, some (.int x), l2, l3], st, M) Q = XX X d 166 (70, [l0, some (.int x), l2, l3], .int x :: st, M) Q := H_ld rfl rfl rfl rfl rfl
theorem x166_70 : XX X d 166 (70, L, .int x :: .ref a :: st, M) Q = ya (M.2.2 a) .iaload x X d 166 71 L st M Q := G_ald rfl ⟨⟨rfl, rfl, rfl, by decide⟩, rfl, rfl⟩ rfl rfl
theorem x166_71 : XX X d 166 (71, [some (.ref a), l1, l2, l3], st, M) Q = XX X d 166 (72, [some (.ref a), l1, l2, l3], .ref a :: st, M) Q := H_ld rfl rfl rfl rfl rfl
theorem x166_72 : XX X d 166 (72, L, .ref a :: st, M) Q = yg (M.2.2 a) 9 28 X d 166 75 L st M Q := G_getf rfl (by decide) rfl rfl rfl
theorem x166_75 : XX X d 166 (75, [l0, some (.int x), l2, l3], st, M) Q = XX X d 166 (76, [l0, some (.int x), l2, l3], .int x :: st, M) Q := H_ld rfl rfl rfl rfl rfl
theorem x166_76 : XX X d 166 (76, L, .int x :: .ref a :: st, M) Q = ya (M.2.2 a) .iaload x X d 166 77 L st M Q := G_ald rfl ⟨⟨rfl, rfl, rfl, by decide⟩, rfl, rfl⟩ rfl rfl
theorem x166_77 {v1 v2 v3 : Value} (hd : 0 < d) (hs : stB st = true) : XX X d 166 (77, L, v3 :: v2 :: v1 :: .ref a :: st, M) Q = (mcl M a = some 9 ∧ CC X (d - 1) 165 [.ref a, v1, v2, v3] M (XC X d 166 77 80 L st Q)) := H_virt [v1, v2, v3] rfl (by decide) rfl rfl rfl rfl rfl hd hs
theorem x166_80 (h : -2147483648 ≤ p ∧ p ≤ 2147483647) : XX X d 166 (80, L, .int (ii p) :: st, M) Q = bq (p = 0) X d 166 87 83 L st M Q := H_if rfl ⟨rfl, rfl, rfl, by decide⟩ rfl rfl rfl rfl (D_eq (b := 0) (by omega))
theorem x166_80b : XX X d 166 (80, L, .int (ii (b2i b)) :: st, M) Q = bq (b = false) X d 166 87 83 L st M Q := (x166_80 (b2i_r b)).trans (by rw [b2i_0])
theorem x166_83 : XX X d 166 (83, L, st, M) Q = XX X d 166 (84, L, .int (ii 1) :: st, M) Q := G_cst rfl rfl rfl rfl rfl
theorem x166_84 : XX X d 166 (84, L, st, M) Q = XX X d 166 (88, L, st, M) Q := H_jmp rfl (by decide) rfl
theorem x166_87 : XX X d 166 (87, L, st, M) Q = XX X d 166 (88, L, .int (ii 0) :: st, M) Q := G_cst rfl rfl rfl rfl rfl
theorem x166_88 (h : p = 0 ∨ p = 1) : XX X d 166 (88, L, [.int (ii p)], M) Q = Q (.inl (some (.int (ii p)))) M := G_ret rfl ⟨⟨⟨rfl, rfl, rfl, by decide⟩, rfl, rfl⟩, rfl, rfl⟩ (bz_ok h)
theorem e166 : CC X d 166 [.ref a, .int x, .int x2] M Q = XX X d 166 (0, [some (.ref a), some (.int x), some (.int x2), none], [], M) Q := H_ent rfl rfl
-- 167 X9_leaves (II)V
theorem x167_0 : XX X d 167 (0, [some (.ref a), l1, l2], st, M) Q = XX X d 167 (1, [some (.ref a), l1, l2], .ref a :: st, M) Q := H_ld rfl rfl rfl rfl rfl
theorem x167_1 : XX X d 167 (1, L, .ref a :: st, M) Q = yg (M.2.2 a) 9 32 X d 167 4 L st M Q := G_getf rfl (by decide) rfl rfl rfl
theorem x167_4 : XX X d 167 (4, [some (.ref a), l1, l2], st, M) Q = XX X d 167 (5, [some (.ref a), l1, l2], .ref a :: st, M) Q := H_ld rfl rfl rfl rfl rfl
theorem x167_5 : XX X d 167 (5, L, .ref a :: st, M) Q = yg (M.2.2 a) 9 34 X d 167 8 L st M Q := G_getf rfl (by decide) rfl rfl rfl
theorem x167_8 : XX X d 167 (8, [l0, some (.int x), l2], st, M) Q = XX X d 167 (9, [l0, some (.int x), l2], .int x :: st, M) Q := H_ld rfl rfl rfl rfl rfl
theorem x167_9 : XX X d 167 (9, L, v :: .int x :: .ref a :: st, M) Q = yw (M.2.2 a) a .iastore v x X d 167 10 L st M Q := G_ast rfl ⟨⟨rfl, rfl, rfl, by decide⟩, rfl, rfl⟩ rfl rfl rfl
theorem x167_10 : XX X d 167 (10, [some (.ref a), l1, l2], st, M) Q = XX X d 167 (11, [some (.ref a), l1, l2], .ref a :: st, M) Q := H_ld rfl rfl rfl rfl rfl
theorem x167_11 : XX X d 167 (11, L, .ref a :: st, M) Q = yg (M.2.2 a) 9 33 X d 167 14 L st M Q := G_getf rfl (by decide) rfl rfl rfl
theorem x167_14 : XX X d 167 (14, [some (.ref a), l1, l2], st, M) Q = XX X d 167 (15, [some (.ref a), l1, l2], .ref a :: st, M) Q := H_ld rfl rfl rfl rfl rfl
theorem x167_15 : XX X d 167 (15, L, .ref a :: st, M) Q = yg (M.2.2 a) 9 34 X d 167 18 L st M Q := G_getf rfl (by decide) rfl rfl rfl
theorem x167_18 : XX X d 167 (18, [l0, l1, some (.int x)], st, M) Q = XX X d 167 (19, [l0, l1, some (.int x)], .int x :: st, M) Q := H_ld rfl rfl rfl rfl rfl
theorem x167_19 : XX X d 167 (19, L, v :: .int x :: .ref a :: st, M) Q = yw (M.2.2 a) a .iastore v x X d 167 20 L st M Q := G_ast rfl ⟨⟨rfl, rfl, rfl, by decide⟩, rfl, rfl⟩ rfl rfl rfl
theorem x167_20 : XX X d 167 (20, [some (.ref a), l1, l2], st, M) Q = XX X d 167 (21, [some (.ref a), l1, l2], .ref a :: st, M) Q := H_ld rfl rfl rfl rfl rfl
theorem x167_21 (h : v.category = 1) : XX X d 167 (21, L, v :: st, M) Q = XX X d 167 (22, L, v :: v :: st, M) Q := G_sop rfl ⟨rfl, rfl, rfl, by decide⟩ (if_pos h) rfl
theorem x167_22 : XX X d 167 (22, L, .ref a :: st, M) Q = yg (M.2.2 a) 9 34 X d 167 25 L st M Q := G_getf rfl (by decide) rfl rfl rfl
theorem x167_25 : XX X d 167 (25, L, st, M) Q = XX X d 167 (26, L, .int (ii 1) :: st, M) Q := G_cst rfl rfl rfl rfl rfl
theorem x167_26 : XX X d 167 (26, L, .int (ii q) :: .int (ii p) :: st, M) Q = XX X d 167 (27, L, .int (ii (p + q)) :: st, M) Q := H_add rfl (by decide) rfl
theorem x167_27 : XX X d 167 (27, L, v :: .ref a :: st, M) Q = yp (M.2.2 a) a 9 34 v X d 167 30 L st M Q := G_putf rfl (by decide) rfl rfl rfl
theorem x167_30 : XX X d 167 (30, L, [], M) Q = Q (.inl none) M := G_retv rfl (by decide) rfl
theorem e167 : CC X d 167 [.ref a, .int x, .int x2] M Q = XX X d 167 (0, [some (.ref a), some (.int x), some (.int x2)], [], M) Q := H_ent rfl rfl
-- 168 X9_turnsBack ()Z
theorem x168_0 : XX X d 168 (0, [some (.ref a)], st, M) Q = XX X d 168 (1, [some (.ref a)], .ref a :: st, M) Q := H_ld rfl rfl rfl rfl rfl
theorem x168_1 : XX X d 168 (1, L, .ref a :: st, M) Q = yg (M.2.2 a) 9 34 X d 168 4 L st M Q := G_getf rfl (by decide) rfl rfl rfl
theorem x168_4 (h : -2147483648 ≤ p ∧ p ≤ 2147483647) : XX X d 168 (4, L, .int (ii p) :: st, M) Q = bq (p ≤ 0) X d 168 59 7 L st M Q := H_if rfl ⟨rfl, rfl, rfl, by decide⟩ rfl rfl rfl rfl (D_ge (b := 0) (by omega))
theorem x168_7 : XX X d 168 (7, [some (.ref a)], st, M) Q = XX X d 168 (8, [some (.ref a)], .ref a :: st, M) Q := H_ld rfl rfl rfl rfl rfl
theorem x168_8 : XX X d 168 (8, L, .ref a :: st, M) Q = yg (M.2.2 a) 9 32 X d 168 11 L st M Q := G_getf rfl (by decide) rfl rfl rfl
theorem x168_11 : XX X d 168 (11, [some (.ref a)], st, M) Q = XX X d 168 (12, [some (.ref a)], .ref a :: st, M) Q := H_ld rfl rfl rfl rfl rfl
theorem x168_12 : XX X d 168 (12, L, .ref a :: st, M) Q = yg (M.2.2 a) 9 34 X d 168 15 L st M Q := G_getf rfl (by decide) rfl rfl rfl
theorem x168_15 : XX X d 168 (15, L, st, M) Q = XX X d 168 (16, L, .int (ii 1) :: st, M) Q := G_cst rfl rfl rfl rfl rfl
theorem x168_16 : XX X d 168 (16, L, .int (ii q) :: .int (ii p) :: st, M) Q = XX X d 168 (17, L, .int (ii (p - q)) :: st, M) Q := H_sub rfl (by decide) rfl
theorem x168_17 : XX X d 168 (17, L, .int x :: .ref a :: st, M) Q = ya (M.2.2 a) .iaload x X d 168 18 L st M Q := G_ald rfl ⟨⟨rfl, rfl, rfl, by decide⟩, rfl, rfl⟩ rfl rfl
theorem x168_18 (h : -2147483648 ≤ p ∧ p ≤ 2147483647) : XX X d 168 (18, L, .int (ii p) :: st, M) Q = bq (0 ≤ p) X d 168 59 21 L st M Q := H_if rfl ⟨rfl, rfl, rfl, by decide⟩ rfl rfl rfl rfl (D_le (b := 0) (by omega))
theorem x168_21 : XX X d 168 (21, [some (.ref a)], st, M) Q = XX X d 168 (22, [some (.ref a)], .ref a :: st, M) Q := H_ld rfl rfl rfl rfl rfl
theorem x168_22 (h : v.category = 1) : XX X d 168 (22, L, v :: st, M) Q = XX X d 168 (23, L, v :: v :: st, M) Q := G_sop rfl ⟨rfl, rfl, rfl, by decide⟩ (if_pos h) rfl
theorem x168_23 : XX X d 168 (23, L, .ref a :: st, M) Q = yg (M.2.2 a) 9 34 X d 168 26 L st M Q := G_getf rfl (by decide) rfl rfl rfl
theorem x168_26 : XX X d 168 (26, L, st, M) Q = XX X d 168 (27, L, .int (ii 1) :: st, M) Q := G_cst rfl rfl rfl rfl rfl
theorem x168_27 : XX X d 168 (27, L, .int (ii q) :: .int (ii p) :: st, M) Q = XX X d 168 (28, L, .int (ii (p - q)) :: st, M) Q := H_sub rfl (by decide) rfl
theorem x168_28 : XX X d 168 (28, L, v :: .ref a :: st, M) Q = yp (M.2.2 a) a 9 34 v X d 168 31 L st M Q := G_putf rfl (by decide) rfl rfl rfl
theorem x168_31 : XX X d 168 (31, [some (.ref a)], st, M) Q = XX X d 168 (32, [some (.ref a)], .ref a :: st, M) Q := H_ld rfl rfl rfl rfl rfl
theorem x168_32 : XX X d 168 (32, L, .ref a :: st, M) Q = yg (M.2.2 a) 9 31 X d 168 35 L st M Q := G_getf rfl (by decide) rfl rfl rfl
theorem x168_35 : XX X d 168 (35, L, st, M) Q = XX X d 168 (36, L, .int (ii (-1)) :: st, M) Q := G_cst rfl rfl rfl rfl rfl
theorem x168_36 : XX X d 168 (36, [some (.ref a)], st, M) Q = XX X d 168 (37, [some (.ref a)], .ref a :: st, M) Q := H_ld rfl rfl rfl rfl rfl
theorem x168_37 : XX X d 168 (37, L, .ref a :: st, M) Q = yg (M.2.2 a) 9 32 X d 168 40 L st M Q := G_getf rfl (by decide) rfl rfl rfl
theorem x168_40 : XX X d 168 (40, [some (.ref a)], st, M) Q = XX X d 168 (41, [some (.ref a)], .ref a :: st, M) Q := H_ld rfl rfl rfl rfl rfl
theorem x168_41 : XX X d 168 (41, L, .ref a :: st, M) Q = yg (M.2.2 a) 9 34 X d 168 44 L st M Q := G_getf rfl (by decide) rfl rfl rfl
theorem x168_44 : XX X d 168 (44, L, .int x :: .ref a :: st, M) Q = ya (M.2.2 a) .iaload x X d 168 45 L st M Q := G_ald rfl ⟨⟨rfl, rfl, rfl, by decide⟩, rfl, rfl⟩ rfl rfl
theorem x168_45 : XX X d 168 (45, L, .int (ii q) :: .int (ii p) :: st, M) Q = XX X d 168 (46, L, .int (ii (p - q)) :: st, M) Q := H_sub rfl (by decide) rfl
theorem x168_46 : XX X d 168 (46, [some (.ref a)], st, M) Q = XX X d 168 (47, [some (.ref a)], .ref a :: st, M) Q := H_ld rfl rfl rfl rfl rfl
theorem x168_47 : XX X d 168 (47, L, .ref a :: st, M) Q = yg (M.2.2 a) 9 33 X d 168 50 L st M Q := G_getf rfl (by decide) rfl rfl rfl
theorem x168_50 : XX X d 168 (50, [some (.ref a)], st, M) Q = XX X d 168 (51, [some (.ref a)], .ref a :: st, M) Q := H_ld rfl rfl rfl rfl rfl
theorem x168_51 : XX X d 168 (51, L, .ref a :: st, M) Q = yg (M.2.2 a) 9 34 X d 168 54 L st M Q := G_getf rfl (by decide) rfl rfl rfl
theorem x168_54 : XX X d 168 (54, L, .int x :: .ref a :: st, M) Q = ya (M.2.2 a) .iaload x X d 168 55 L st M Q := G_ald rfl ⟨⟨rfl, rfl, rfl, by decide⟩, rfl, rfl⟩ rfl rfl
theorem x168_55 : XX X d 168 (55, L, v :: .int x :: .ref a :: st, M) Q = yw (M.2.2 a) a .iastore v x X d 168 56 L st M Q := G_ast rfl ⟨⟨rfl, rfl, rfl, by decide⟩, rfl, rfl⟩ rfl rfl rfl
theorem x168_56 : XX X d 168 (56, L, st, M) Q = XX X d 168 (0, L, st, M) Q := H_jmp rfl (by decide) rfl
theorem x168_59 : XX X d 168 (59, [some (.ref a)], st, M) Q = XX X d 168 (60, [some (.ref a)], .ref a :: st, M) Q := H_ld rfl rfl rfl rfl rfl
theorem x168_60 : XX X d 168 (60, L, .ref a :: st, M) Q = yg (M.2.2 a) 9 34 X d 168 63 L st M Q := G_getf rfl (by decide) rfl rfl rfl
theorem x168_63 (h : -2147483648 ≤ p ∧ p ≤ 2147483647) : XX X d 168 (63, L, .int (ii p) :: st, M) Q = bq (p ≤ 0) X d 168 70 66 L st M Q := H_if rfl ⟨rfl, rfl, rfl, by decide⟩ rfl rfl rfl rfl (D_ge (b := 0) (by omega))
theorem x168_66 : XX X d 168 (66, L, st, M) Q = XX X d 168 (67, L, .int (ii 1) :: st, M) Q := G_cst rfl rfl rfl rfl rfl
theorem x168_67 : XX X d 168 (67, L, st, M) Q = XX X d 168 (71, L, st, M) Q := H_jmp rfl (by decide) rfl
theorem x168_70 : XX X d 168 (70, L, st, M) Q = XX X d 168 (71, L, .int (ii 0) :: st, M) Q := G_cst rfl rfl rfl rfl rfl
theorem x168_71 (h : p = 0 ∨ p = 1) : XX X d 168 (71, L, [.int (ii p)], M) Q = Q (.inl (some (.int (ii p)))) M := G_ret rfl ⟨⟨⟨rfl, rfl, rfl, by decide⟩, rfl, rfl⟩, rfl, rfl⟩ (bz_ok h)
theorem e168 : CC X d 168 [.ref a] M Q = XX X d 168 (0, [some (.ref a)], [], M) Q := H_ent rfl rfl
-- 169 X9_forgets ()V
theorem x169_0 : XX X d 169 (0, L, st, M) Q = XX X d 169 (1, L, .int (ii 0) :: st, M) Q := G_cst rfl rfl rfl rfl rfl
theorem x169_1 (h : wide (some l0) = false) : XX X d 169 (1, [l0, l1], .int x :: st, M) Q = XX X d 169 (2, [l0, some (.int x)], st, M) Q := H_st rfl rfl rfl rfl rfl rfl rfl rfl (Or.inr h)
theorem x169_2 : XX X d 169 (2, [l0, some (.int x)], st, M) Q = XX X d 169 (3, [l0, some (.int x)], .int x :: st, M) Q := H_ld rfl rfl rfl rfl rfl
theorem x169_3 : XX X d 169 (3, L, st, M) Q = XX X d 169 (5, L, .int (ii 41) :: st, M) Q := G_cst rfl rfl rfl rfl rfl
theorem x169_5 : XX X d 169 (5, [some (.ref a), l1], st, M) Q = XX X d 169 (6, [some (.ref a), l1], .ref a :: st, M) Q := H_ld rfl rfl rfl rfl rfl
theorem x169_6 : XX X d 169 (6, L, .ref a :: st, M) Q = yg (M.2.2 a) 9 29 X d 169 9 L st M Q := G_getf rfl (by decide) rfl rfl rfl
theorem x169_9 : XX X d 169 (9, L, .int (ii q) :: .int (ii p) :: st, M) Q = XX X d 169 (10, L, .int (ii (p * q)) :: st, M) Q := H_mul rfl (by decide) rfl
theorem x169_10 (h : -2147483648 ≤ p ∧ p ≤ 2147483647 ∧ -2147483648 ≤ q ∧ q ≤ 2147483647) : XX X d 169 (10, L, .int (ii q) :: .int (ii p) :: st, M) Q = bq (q ≤ p) X d 169 26 13 L st M Q := H_if2 rfl ⟨rfl, rfl, rfl, by decide⟩ rfl rfl rfl rfl (D_le h)
theorem x169_13 : XX X d 169 (13, [some (.ref a), l1], st, M) Q = XX X d 169 (14, [some (.ref a), l1], .ref a :: st, M) Q := H_ld rfl rfl rfl rfl rfl
theorem x169_14 : XX X d 169 (14, L, .ref a :: st, M) Q = yg (M.2.2 a) 9 30 X d 169 17 L st M Q := G_getf rfl (by decide) rfl rfl rfl
theorem x169_17 : XX X d 169 (17, [l0, some (.int x)], st, M) Q = XX X d 169 (18, [l0, some (.int x)], .int x :: st, M) Q := H_ld rfl rfl rfl rfl rfl
theorem x169_18 : XX X d 169 (18, L, st, M) Q = XX X d 169 (19, L, .int (ii 0) :: st, M) Q := G_cst rfl rfl rfl rfl rfl
theorem x169_19 : XX X d 169 (19, L, v :: .int x :: .ref a :: st, M) Q = yw (M.2.2 a) a .bastore v x X d 169 20 L st M Q := G_ast rfl ⟨⟨rfl, rfl, rfl, by decide⟩, rfl, rfl⟩ rfl rfl rfl
theorem x169_20 (h : wide (some l0) = false) : XX X d 169 (20, [l0, some (.int (ii p))], st, M) Q = XX X d 169 (23, [l0, some (.int (ii (p + 1)))], st, M) Q := H_inc rfl (by decide) rfl rfl rfl (Or.inr h)
theorem x169_23 : XX X d 169 (23, L, st, M) Q = XX X d 169 (2, L, st, M) Q := H_jmp rfl (by decide) rfl
theorem x169_26 : XX X d 169 (26, L, [], M) Q = Q (.inl none) M := G_retv rfl (by decide) rfl
theorem e169 : CC X d 169 [.ref a] M Q = XX X d 169 (0, [some (.ref a), none], [], M) Q := H_ent rfl rfl
-- 170 X9_walks (IZ)Z
theorem x170_0 : XX X d 170 (0, L, st, M) Q = XX X d 170 (1, L, .int (ii 0) :: st, M) Q := G_cst rfl rfl rfl rfl rfl
theorem x170_1 (h : wide (some l2) = false) : XX X d 170 (1, [l0, l1, l2, l3, l4, l5], .int x :: st, M) Q = XX X d 170 (2, [l0, l1, l2, some (.int x), l4, l5], st, M) Q := H_st rfl rfl rfl rfl rfl rfl rfl rfl (Or.inr h)
theorem x170_2 : XX X d 170 (2, [l0, l1, l2, some (.int x), l4, l5], st, M) Q = XX X d 170 (3, [l0, l1, l2, some (.int x), l4, l5], .int x :: st, M) Q := H_ld rfl rfl rfl rfl rfl
theorem x170_3 : XX X d 170 (3, L, st, M) Q = XX X d 170 (5, L, .int (ii 10) :: st, M) Q := G_cst rfl rfl rfl rfl rfl
theorem x170_5 (h : -2147483648 ≤ p ∧ p ≤ 2147483647 ∧ -2147483648 ≤ q ∧ q ≤ 2147483647) : XX X d 170 (5, L, .int (ii q) :: .int (ii p) :: st, M) Q = bq (q ≤ p) X d 170 21 8 L st M Q := H_if2 rfl ⟨rfl, rfl, rfl, by decide⟩ rfl rfl rfl rfl (D_le h)
theorem x170_8 : XX X d 170 (8, [some (.ref a), l1, l2, l3, l4, l5], st, M) Q = XX X d 170 (9, [some (.ref a), l1, l2, l3, l4, l5], .ref a :: st, M) Q := H_ld rfl rfl rfl rfl rfl
theorem x170_9 : XX X d 170 (9, L, .ref a :: st, M) Q = yg (M.2.2 a) 9 31 X d 170 12 L st M Q := G_getf rfl (by decide) rfl rfl rfl
theorem x170_12 : XX X d 170 (12, [l0, l1, l2, some (.int x), l4, l5], st, M) Q = XX X d 170 (13, [l0, l1, l2, some (.int x), l4, l5], .int x :: st, M) Q := H_ld rfl rfl rfl rfl rfl
theorem x170_13 : XX X d 170 (13, L, st, M) Q = XX X d 170 (14, L, .int (ii (-1)) :: st, M) Q := G_cst rfl rfl rfl rfl rfl
theorem x170_14 : XX X d 170 (14, L, v :: .int x :: .ref a :: st, M) Q = yw (M.2.2 a) a .iastore v x X d 170 15 L st M Q := G_ast rfl ⟨⟨rfl, rfl, rfl, by decide⟩, rfl, rfl⟩ rfl rfl rfl
theorem x170_15 (h : wide (some l2) = false) : XX X d 170 (15, [l0, l1, l2, some (.int (ii p)), l4, l5], st, M) Q = XX X d 170 (18, [l0, l1, l2, some (.int (ii (p + 1))), l4, l5], st, M) Q := H_inc rfl (by decide) rfl rfl rfl (Or.inr h)
theorem x170_18 : XX X d 170 (18, L, st, M) Q = XX X d 170 (2, L, st, M) Q := H_jmp rfl (by decide) rfl
theorem x170_21 : XX X d 170 (21, [some (.ref a), l1, l2, l3, l4, l5], st, M) Q = XX X d 170 (22, [some (.ref a), l1, l2, l3, l4, l5], .ref a :: st, M) Q := H_ld rfl rfl rfl rfl rfl
theorem x170_22 : XX X d 170 (22, L, st, M) Q = XX X d 170 (23, L, .int (ii 0) :: st, M) Q := G_cst rfl rfl rfl rfl rfl
theorem x170_23 : XX X d 170 (23, L, v :: .ref a :: st, M) Q = yp (M.2.2 a) a 9 34 v X d 170 26 L st M Q := G_putf rfl (by decide) rfl rfl rfl
theorem x170_26 : XX X d 170 (26, [some (.ref a), l1, l2, l3, l4, l5], st, M) Q = XX X d 170 (27, [some (.ref a), l1, l2, l3, l4, l5], .ref a :: st, M) Q := H_ld rfl rfl rfl rfl rfl
theorem x170_27 : XX X d 170 (27, L, st, M) Q = XX X d 170 (28, L, .int (ii 0) :: st, M) Q := G_cst rfl rfl rfl rfl rfl
theorem x170_28 : XX X d 170 (28, [l0, some (.int x), l2, l3, l4, l5], st, M) Q = XX X d 170 (29, [l0, some (.int x), l2, l3, l4, l5], .int x :: st, M) Q := H_ld rfl rfl rfl rfl rfl
theorem x170_29 {v1 v2 : Value} (hd : 0 < d) (hs : stB st = true) : XX X d 170 (29, L, v2 :: v1 :: .ref a :: st, M) Q = (mcl M a = some 9 ∧ CC X (d - 1) 167 [.ref a, v1, v2] M (XC X d 170 29 32 L st Q)) := H_virt [v1, v2] rfl (by decide) rfl rfl rfl rfl rfl hd hs
theorem x170_32 : XX X d 170 (32, [some (.ref a), l1, l2, l3, l4, l5], st, M) Q = XX X d 170 (33, [some (.ref a), l1, l2, l3, l4, l5], .ref a :: st, M) Q := H_ld rfl rfl rfl rfl rfl
theorem x170_33 (hd : 0 < d) (hs : stB st = true) : XX X d 170 (33, L, .ref a :: st, M) Q = (mcl M a = some 9 ∧ CC X (d - 1) 168 [.ref a] M (XC X d 170 33 36 L st Q)) := H_virt [] rfl (by decide) rfl rfl rfl rfl rfl hd hs
theorem x170_36 (h : -2147483648 ≤ p ∧ p ≤ 2147483647) : XX X d 170 (36, L, .int (ii p) :: st, M) Q = bq (p = 0) X d 170 274 39 L st M Q := H_if rfl ⟨rfl, rfl, rfl, by decide⟩ rfl rfl rfl rfl (D_eq (b := 0) (by omega))
theorem x170_36b : XX X d 170 (36, L, .int (ii (b2i b)) :: st, M) Q = bq (b = false) X d 170 274 39 L st M Q := (x170_36 (b2i_r b)).trans (by rw [b2i_0])
theorem x170_39 : XX X d 170 (39, [some (.ref a), l1, l2, l3, l4, l5], st, M) Q = XX X d 170 (40, [some (.ref a), l1, l2, l3, l4, l5], .ref a :: st, M) Q := H_ld rfl rfl rfl rfl rfl
theorem x170_40 (h : v.category = 1) : XX X d 170 (40, L, v :: st, M) Q = XX X d 170 (41, L, v :: v :: st, M) Q := G_sop rfl ⟨rfl, rfl, rfl, by decide⟩ (if_pos h) rfl
theorem x170_41 : XX X d 170 (41, L, .ref a :: st, M) Q = yg (M.2.2 a) 9 34 X d 170 44 L st M Q := G_getf rfl (by decide) rfl rfl rfl
theorem x170_44 : XX X d 170 (44, L, st, M) Q = XX X d 170 (45, L, .int (ii 1) :: st, M) Q := G_cst rfl rfl rfl rfl rfl
theorem x170_45 : XX X d 170 (45, L, .int (ii q) :: .int (ii p) :: st, M) Q = XX X d 170 (46, L, .int (ii (p - q)) :: st, M) Q := H_sub rfl (by decide) rfl
theorem x170_46 : XX X d 170 (46, L, v :: .ref a :: st, M) Q = yp (M.2.2 a) a 9 34 v X d 170 49 L st M Q := G_putf rfl (by decide) rfl rfl rfl
theorem x170_49 : XX X d 170 (49, [some (.ref a), l1, l2, l3, l4, l5], st, M) Q = XX X d 170 (50, [some (.ref a), l1, l2, l3, l4, l5], .ref a :: st, M) Q := H_ld rfl rfl rfl rfl rfl
theorem x170_50 : XX X d 170 (50, L, .ref a :: st, M) Q = yg (M.2.2 a) 9 32 X d 170 53 L st M Q := G_getf rfl (by decide) rfl rfl rfl
theorem x170_53 : XX X d 170 (53, [some (.ref a), l1, l2, l3, l4, l5], st, M) Q = XX X d 170 (54, [some (.ref a), l1, l2, l3, l4, l5], .ref a :: st, M) Q := H_ld rfl rfl rfl rfl rfl
theorem x170_54 : XX X d 170 (54, L, .ref a :: st, M) Q = yg (M.2.2 a) 9 34 X d 170 57 L st M Q := G_getf rfl (by decide) rfl rfl rfl
theorem x170_57 : XX X d 170 (57, L, .int x :: .ref a :: st, M) Q = ya (M.2.2 a) .iaload x X d 170 58 L st M Q := G_ald rfl ⟨⟨rfl, rfl, rfl, by decide⟩, rfl, rfl⟩ rfl rfl
theorem x170_58 (h : wide (some l2) = false) : XX X d 170 (58, [l0, l1, l2, l3, l4, l5], .int x :: st, M) Q = XX X d 170 (59, [l0, l1, l2, some (.int x), l4, l5], st, M) Q := H_st rfl rfl rfl rfl rfl rfl rfl rfl (Or.inr h)
theorem x170_59 : XX X d 170 (59, [some (.ref a), l1, l2, l3, l4, l5], st, M) Q = XX X d 170 (60, [some (.ref a), l1, l2, l3, l4, l5], .ref a :: st, M) Q := H_ld rfl rfl rfl rfl rfl
theorem x170_60 : XX X d 170 (60, L, .ref a :: st, M) Q = yg (M.2.2 a) 9 33 X d 170 63 L st M Q := G_getf rfl (by decide) rfl rfl rfl
theorem x170_63 : XX X d 170 (63, [some (.ref a), l1, l2, l3, l4, l5], st, M) Q = XX X d 170 (64, [some (.ref a), l1, l2, l3, l4, l5], .ref a :: st, M) Q := H_ld rfl rfl rfl rfl rfl
theorem x170_64 : XX X d 170 (64, L, .ref a :: st, M) Q = yg (M.2.2 a) 9 34 X d 170 67 L st M Q := G_getf rfl (by decide) rfl rfl rfl
theorem x170_67 : XX X d 170 (67, L, .int x :: .ref a :: st, M) Q = ya (M.2.2 a) .iaload x X d 170 68 L st M Q := G_ald rfl ⟨⟨rfl, rfl, rfl, by decide⟩, rfl, rfl⟩ rfl rfl
theorem x170_68 (h : wide (some l3) = false) : XX X d 170 (68, [l0, l1, l2, l3, l4, l5], .int x :: st, M) Q = XX X d 170 (70, [l0, l1, l2, l3, some (.int x), l5], st, M) Q := H_st rfl rfl rfl rfl rfl rfl rfl rfl (Or.inr h)
theorem x170_70 : XX X d 170 (70, [l0, l1, l2, some (.int x), l4, l5], st, M) Q = XX X d 170 (71, [l0, l1, l2, some (.int x), l4, l5], .int x :: st, M) Q := H_ld rfl rfl rfl rfl rfl
theorem x170_71 (h : -2147483648 ≤ p ∧ p ≤ 2147483647) : XX X d 170 (71, L, .int (ii p) :: st, M) Q = bq (p < 0) X d 170 271 74 L st M Q := H_if rfl ⟨rfl, rfl, rfl, by decide⟩ rfl rfl rfl rfl (D_lt (b := 0) (by omega))
theorem x170_74 : XX X d 170 (74, [some (.ref a), l1, l2, l3, l4, l5], st, M) Q = XX X d 170 (75, [some (.ref a), l1, l2, l3, l4, l5], .ref a :: st, M) Q := H_ld rfl rfl rfl rfl rfl
theorem x170_75 : XX X d 170 (75, L, .ref a :: st, M) Q = yg (M.2.2 a) 9 30 X d 170 78 L st M Q := G_getf rfl (by decide) rfl rfl rfl
theorem x170_78 : XX X d 170 (78, L, st, M) Q = XX X d 170 (80, L, .int (ii 41) :: st, M) Q := G_cst rfl rfl rfl rfl rfl
theorem x170_80 : XX X d 170 (80, [l0, l1, l2, some (.int x), l4, l5], st, M) Q = XX X d 170 (81, [l0, l1, l2, some (.int x), l4, l5], .int x :: st, M) Q := H_ld rfl rfl rfl rfl rfl
theorem x170_81 : XX X d 170 (81, L, .int (ii q) :: .int (ii p) :: st, M) Q = XX X d 170 (82, L, .int (ii (p * q)) :: st, M) Q := H_mul rfl (by decide) rfl
theorem x170_82 : XX X d 170 (82, [l0, l1, l2, l3, some (.int x), l5], st, M) Q = XX X d 170 (84, [l0, l1, l2, l3, some (.int x), l5], .int x :: st, M) Q := H_ld rfl rfl rfl rfl rfl
theorem x170_84 : XX X d 170 (84, L, .int (ii q) :: .int (ii p) :: st, M) Q = XX X d 170 (85, L, .int (ii (p + q)) :: st, M) Q := H_add rfl (by decide) rfl
theorem x170_85 : XX X d 170 (85, L, .int x :: .ref a :: st, M) Q = ya (M.2.2 a) .baload x X d 170 86 L st M Q := G_ald rfl ⟨⟨rfl, rfl, rfl, by decide⟩, rfl, rfl⟩ rfl rfl
theorem x170_86 (h : -2147483648 ≤ p ∧ p ≤ 2147483647) : XX X d 170 (86, L, .int (ii p) :: st, M) Q = bq (p ≠ 0) X d 170 271 89 L st M Q := H_if rfl ⟨rfl, rfl, rfl, by decide⟩ rfl rfl rfl rfl (D_ne (b := 0) (by omega))
theorem x170_86b : XX X d 170 (86, L, .int (ii (b2i b)) :: st, M) Q = bq (b = true) X d 170 271 89 L st M Q := (x170_86 (b2i_r b)).trans (by rw [b2i_n0])
theorem x170_89 : XX X d 170 (89, [some (.ref a), l1, l2, l3, l4, l5], st, M) Q = XX X d 170 (90, [some (.ref a), l1, l2, l3, l4, l5], .ref a :: st, M) Q := H_ld rfl rfl rfl rfl rfl
theorem x170_90 : XX X d 170 (90, L, .ref a :: st, M) Q = yg (M.2.2 a) 9 30 X d 170 93 L st M Q := G_getf rfl (by decide) rfl rfl rfl
theorem x170_93 : XX X d 170 (93, L, st, M) Q = XX X d 170 (95, L, .int (ii 41) :: st, M) Q := G_cst rfl rfl rfl rfl rfl
theorem x170_95 : XX X d 170 (95, [l0, l1, l2, some (.int x), l4, l5], st, M) Q = XX X d 170 (96, [l0, l1, l2, some (.int x), l4, l5], .int x :: st, M) Q := H_ld rfl rfl rfl rfl rfl
theorem x170_96 : XX X d 170 (96, L, .int (ii q) :: .int (ii p) :: st, M) Q = XX X d 170 (97, L, .int (ii (p * q)) :: st, M) Q := H_mul rfl (by decide) rfl
theorem x170_97 : XX X d 170 (97, [l0, l1, l2, l3, some (.int x), l5], st, M) Q = XX X d 170 (99, [l0, l1, l2, l3, some (.int x), l5], .int x :: st, M) Q := H_ld rfl rfl rfl rfl rfl
theorem x170_99 : XX X d 170 (99, L, .int (ii q) :: .int (ii p) :: st, M) Q = XX X d 170 (100, L, .int (ii (p + q)) :: st, M) Q := H_add rfl (by decide) rfl
theorem x170_100 : XX X d 170 (100, L, st, M) Q = XX X d 170 (101, L, .int (ii 1) :: st, M) Q := G_cst rfl rfl rfl rfl rfl
theorem x170_101 : XX X d 170 (101, L, v :: .int x :: .ref a :: st, M) Q = yw (M.2.2 a) a .bastore v x X d 170 102 L st M Q := G_ast rfl ⟨⟨rfl, rfl, rfl, by decide⟩, rfl, rfl⟩ rfl rfl rfl
theorem x170_102 : XX X d 170 (102, [some (.ref a), l1, l2, l3, l4, l5], st, M) Q = XX X d 170 (103, [some (.ref a), l1, l2, l3, l4, l5], .ref a :: st, M) Q := H_ld rfl rfl rfl rfl rfl
theorem x170_103 : XX X d 170 (103, L, .ref a :: st, M) Q = yg (M.2.2 a) 9 26 X d 170 106 L st M Q := G_getf rfl (by decide) rfl rfl rfl
theorem x170_106 : XX X d 170 (106, [l0, l1, l2, some (.int x), l4, l5], st, M) Q = XX X d 170 (107, [l0, l1, l2, some (.int x), l4, l5], .int x :: st, M) Q := H_ld rfl rfl rfl rfl rfl
theorem x170_107 : XX X d 170 (107, L, .int x :: .ref a :: st, M) Q = ya (M.2.2 a) .iaload x X d 170 108 L st M Q := G_ald rfl ⟨⟨rfl, rfl, rfl, by decide⟩, rfl, rfl⟩ rfl rfl
theorem x170_108 (h : wide (some l4) = false) : XX X d 170 (108, [l0, l1, l2, l3, l4, l5], .int x :: st, M) Q = XX X d 170 (110, [l0, l1, l2, l3, l4, some (.int x)], st, M) Q := H_st rfl rfl rfl rfl rfl rfl rfl rfl (Or.inr h)
theorem x170_110 : XX X d 170 (110, [l0, l1, l2, l3, l4, some (.int x)], st, M) Q = XX X d 170 (112, [l0, l1, l2, l3, l4, some (.int x)], .int x :: st, M) Q := H_ld rfl rfl rfl rfl rfl
theorem x170_112 : XX X d 170 (112, L, st, M) Q = XX X d 170 (114, L, .int (ii 13) :: st, M) Q := G_cst rfl rfl rfl rfl rfl
theorem x170_114 (h : -2147483648 ≤ p ∧ p ≤ 2147483647 ∧ -2147483648 ≤ q ∧ q ≤ 2147483647) : XX X d 170 (114, L, .int (ii q) :: .int (ii p) :: st, M) Q = bq (p ≠ q) X d 170 141 117 L st M Q := H_if2 rfl ⟨rfl, rfl, rfl, by decide⟩ rfl rfl rfl rfl (D_ne h)
theorem x170_117 : XX X d 170 (117, [l0, l1, some (.int x), l3, l4, l5], st, M) Q = XX X d 170 (118, [l0, l1, some (.int x), l3, l4, l5], .int x :: st, M) Q := H_ld rfl rfl rfl rfl rfl
theorem x170_118 (h : -2147483648 ≤ p ∧ p ≤ 2147483647) : XX X d 170 (118, L, .int (ii p) :: st, M) Q = bq (p = 0) X d 170 133 121 L st M Q := H_if rfl ⟨rfl, rfl, rfl, by decide⟩ rfl rfl rfl rfl (D_eq (b := 0) (by omega))
theorem x170_118b : XX X d 170 (118, L, .int (ii (b2i b)) :: st, M) Q = bq (b = false) X d 170 133 121 L st M Q := (x170_118 (b2i_r b)).trans (by rw [b2i_0])
theorem x170_121 : XX X d 170 (121, [l0, l1, l2, l3, some (.int x), l5], st, M) Q = XX X d 170 (123, [l0, l1, l2, l3, some (.int x), l5], .int x :: st, M) Q := H_ld rfl rfl rfl rfl rfl
theorem x170_123 : XX X d 170 (123, [some (.ref a), l1, l2, l3, l4, l5], st, M) Q = XX X d 170 (124, [some (.ref a), l1, l2, l3, l4, l5], .ref a :: st, M) Q := H_ld rfl rfl rfl rfl rfl
theorem x170_124 : XX X d 170 (124, L, .ref a :: st, M) Q = yg (M.2.2 a) 9 0 X d 170 127 L st M Q := G_getf rfl (by decide) rfl rfl rfl
theorem x170_127 : XX X d 170 (127, L, st, M) Q = XX X d 170 (129, L, .int (ii 125) :: st, M) Q := G_cst rfl rfl rfl rfl rfl
theorem x170_129 : XX X d 170 (129, L, .int x :: .ref a :: st, M) Q = ya (M.2.2 a) .iaload x X d 170 130 L st M Q := G_ald rfl ⟨⟨rfl, rfl, rfl, by decide⟩, rfl, rfl⟩ rfl rfl
theorem x170_130 (h : -2147483648 ≤ p ∧ p ≤ 2147483647 ∧ -2147483648 ≤ q ∧ q ≤ 2147483647) : XX X d 170 (130, L, .int (ii q) :: .int (ii p) :: st, M) Q = bq (p ≠ q) X d 170 141 133 L st M Q := H_if2 rfl ⟨rfl, rfl, rfl, by decide⟩ rfl rfl rfl rfl (D_ne h)
theorem x170_133 : XX X d 170 (133, [some (.ref a), l1, l2, l3, l4, l5], st, M) Q = XX X d 170 (134, [some (.ref a), l1, l2, l3, l4, l5], .ref a :: st, M) Q := H_ld rfl rfl rfl rfl rfl
theorem x170_134 : XX X d 170 (134, [l0, l1, l2, l3, some (.int x), l5], st, M) Q = XX X d 170 (136, [l0, l1, l2, l3, some (.int x), l5], .int x :: st, M) Q := H_ld rfl rfl rfl rfl rfl
theorem x170_136 : XX X d 170 (136, L, v :: .ref a :: st, M) Q = yp (M.2.2 a) a 9 35 v X d 170 139 L st M Q := G_putf rfl (by decide) rfl rfl rfl
theorem x170_139 : XX X d 170 (139, L, st, M) Q = XX X d 170 (140, L, .int (ii 1) :: st, M) Q := G_cst rfl rfl rfl rfl rfl
theorem x170_140 (h : p = 0 ∨ p = 1) : XX X d 170 (140, L, [.int (ii p)], M) Q = Q (.inl (some (.int (ii p)))) M := G_ret rfl ⟨⟨⟨rfl, rfl, rfl, by decide⟩, rfl, rfl⟩, rfl, rfl⟩ (bz_ok h)
theorem x170_141 : XX X d 170 (141, [l0, l1, l2, l3, l4, some (.int x)], st, M) Q = XX X d 170 (143, [l0, l1, l2, l3, l4, some (.int x)], .int x :: st, M) Q := H_ld rfl rfl rfl rfl rfl
theorem x170_143 : XX X d 170 (143, L, st, M) Q = XX X d 170 (145, L, .int (ii 10) :: st, M) Q := G_cst rfl rfl rfl rfl rfl
theorem x170_145 (h : -2147483648 ≤ p ∧ p ≤ 2147483647 ∧ -2147483648 ≤ q ∧ q ≤ 2147483647) : XX X d 170 (145, L, .int (ii q) :: .int (ii p) :: st, M) Q = bq (p ≠ q) X d 170 160 148 L st M Q := H_if2 rfl ⟨rfl, rfl, rfl, by decide⟩ rfl rfl rfl rfl (D_ne h)
theorem x170_148 : XX X d 170 (148, [some (.ref a), l1, l2, l3, l4, l5], st, M) Q = XX X d 170 (149, [some (.ref a), l1, l2, l3, l4, l5], .ref a :: st, M) Q := H_ld rfl rfl rfl rfl rfl
theorem x170_149 : XX X d 170 (149, [some (.ref a), l1, l2, l3, l4, l5], st, M) Q = XX X d 170 (150, [some (.ref a), l1, l2, l3, l4, l5], .ref a :: st, M) Q := H_ld rfl rfl rfl rfl rfl
theorem x170_150 : XX X d 170 (150, L, .ref a :: st, M) Q = yg (M.2.2 a) 9 28 X d 170 153 L st M Q := G_getf rfl (by decide) rfl rfl rfl
theorem x170_153 : XX X d 170 (153, [l0, l1, l2, some (.int x), l4, l5], st, M) Q = XX X d 170 (154, [l0, l1, l2, some (.int x), l4, l5], .int x :: st, M) Q := H_ld rfl rfl rfl rfl rfl
theorem x170_154 : XX X d 170 (154, L, .int x :: .ref a :: st, M) Q = ya (M.2.2 a) .iaload x X d 170 155 L st M Q := G_ald rfl ⟨⟨rfl, rfl, rfl, by decide⟩, rfl, rfl⟩ rfl rfl
theorem x170_155 : XX X d 170 (155, [l0, l1, l2, l3, some (.int x), l5], st, M) Q = XX X d 170 (157, [l0, l1, l2, l3, some (.int x), l5], .int x :: st, M) Q := H_ld rfl rfl rfl rfl rfl
theorem x170_157 {v1 v2 : Value} (hd : 0 < d) (hs : stB st = true) : XX X d 170 (157, L, v2 :: v1 :: .ref a :: st, M) Q = (mcl M a = some 9 ∧ CC X (d - 1) 167 [.ref a, v1, v2] M (XC X d 170 157 160 L st Q)) := H_virt [v1, v2] rfl (by decide) rfl rfl rfl rfl rfl hd hs
theorem x170_160 : XX X d 170 (160, [l0, l1, l2, l3, l4, some (.int x)], st, M) Q = XX X d 170 (162, [l0, l1, l2, l3, l4, some (.int x)], .int x :: st, M) Q := H_ld rfl rfl rfl rfl rfl
theorem x170_162 : XX X d 170 (162, L, st, M) Q = XX X d 170 (164, L, .int (ii 12) :: st, M) Q := G_cst rfl rfl rfl rfl rfl
theorem x170_164 (h : -2147483648 ≤ p ∧ p ≤ 2147483647 ∧ -2147483648 ≤ q ∧ q ≤ 2147483647) : XX X d 170 (164, L, .int (ii q) :: .int (ii p) :: st, M) Q = bq (p ≠ q) X d 170 203 167 L st M Q := H_if2 rfl ⟨rfl, rfl, rfl, by decide⟩ rfl rfl rfl rfl (D_ne h)
theorem x170_167 : XX X d 170 (167, [some (.ref a), l1, l2, l3, l4, l5], st, M) Q = XX X d 170 (168, [some (.ref a), l1, l2, l3, l4, l5], .ref a :: st, M) Q := H_ld rfl rfl rfl rfl rfl
theorem x170_168 : XX X d 170 (168, L, st, M) Q = XX X d 170 (169, L, .int (ii (-1)) :: st, M) Q := G_cst rfl rfl rfl rfl rfl
theorem x170_169 : XX X d 170 (169, [some (.ref a), l1, l2, l3, l4, l5], st, M) Q = XX X d 170 (170, [some (.ref a), l1, l2, l3, l4, l5], .ref a :: st, M) Q := H_ld rfl rfl rfl rfl rfl
theorem x170_170 : XX X d 170 (170, L, .ref a :: st, M) Q = yg (M.2.2 a) 9 27 X d 170 173 L st M Q := G_getf rfl (by decide) rfl rfl rfl
theorem x170_173 : XX X d 170 (173, [l0, l1, l2, some (.int x), l4, l5], st, M) Q = XX X d 170 (174, [l0, l1, l2, some (.int x), l4, l5], .int x :: st, M) Q := H_ld rfl rfl rfl rfl rfl
theorem x170_174 : XX X d 170 (174, L, .int x :: .ref a :: st, M) Q = ya (M.2.2 a) .iaload x X d 170 175 L st M Q := G_ald rfl ⟨⟨rfl, rfl, rfl, by decide⟩, rfl, rfl⟩ rfl rfl
theorem x170_175 : XX X d 170 (175, L, .int (ii q) :: .int (ii p) :: st, M) Q = XX X d 170 (176, L, .int (ii (p - q)) :: st, M) Q := H_sub rfl (by decide) rfl
theorem x170_176 : XX X d 170 (176, [some (.ref a), l1, l2, l3, l4, l5], st, M) Q = XX X d 170 (177, [some (.ref a), l1, l2, l3, l4, l5], .ref a :: st, M) Q := H_ld rfl rfl rfl rfl rfl
theorem x170_177 : XX X d 170 (177, L, .ref a :: st, M) Q = yg (M.2.2 a) 9 31 X d 170 180 L st M Q := G_getf rfl (by decide) rfl rfl rfl
theorem x170_180 : XX X d 170 (180, [some (.ref a), l1, l2, l3, l4, l5], st, M) Q = XX X d 170 (181, [some (.ref a), l1, l2, l3, l4, l5], .ref a :: st, M) Q := H_ld rfl rfl rfl rfl rfl
theorem x170_181 : XX X d 170 (181, L, .ref a :: st, M) Q = yg (M.2.2 a) 9 27 X d 170 184 L st M Q := G_getf rfl (by decide) rfl rfl rfl
theorem x170_184 : XX X d 170 (184, [l0, l1, l2, some (.int x), l4, l5], st, M) Q = XX X d 170 (185, [l0, l1, l2, some (.int x), l4, l5], .int x :: st, M) Q := H_ld rfl rfl rfl rfl rfl
theorem x170_185 : XX X d 170 (185, L, .int x :: .ref a :: st, M) Q = ya (M.2.2 a) .iaload x X d 170 186 L st M Q := G_ald rfl ⟨⟨rfl, rfl, rfl, by decide⟩, rfl, rfl⟩ rfl rfl
theorem x170_186 : XX X d 170 (186, L, .int x :: .ref a :: st, M) Q = ya (M.2.2 a) .iaload x X d 170 187 L st M Q := G_ald rfl ⟨⟨rfl, rfl, rfl, by decide⟩, rfl, rfl⟩ rfl rfl
theorem x170_187 {v1 v2 : Value} (hd : 0 < d) (hs : stB st = true) : XX X d 170 (187, L, v2 :: v1 :: .ref a :: st, M) Q = (mcl M a = some 9 ∧ CC X (d - 1) 167 [.ref a, v1, v2] M (XC X d 170 187 190 L st Q)) := H_virt [v1, v2] rfl (by decide) rfl rfl rfl rfl rfl hd hs
theorem x170_190 : XX X d 170 (190, [some (.ref a), l1, l2, l3, l4, l5], st, M) Q = XX X d 170 (191, [some (.ref a), l1, l2, l3, l4, l5], .ref a :: st, M) Q := H_ld rfl rfl rfl rfl rfl
theorem x170_191 : XX X d 170 (191, L, .ref a :: st, M) Q = yg (M.2.2 a) 9 31 X d 170 194 L st M Q := G_getf rfl (by decide) rfl rfl rfl
theorem x170_194 : XX X d 170 (194, [some (.ref a), l1, l2, l3, l4, l5], st, M) Q = XX X d 170 (195, [some (.ref a), l1, l2, l3, l4, l5], .ref a :: st, M) Q := H_ld rfl rfl rfl rfl rfl
theorem x170_195 : XX X d 170 (195, L, .ref a :: st, M) Q = yg (M.2.2 a) 9 27 X d 170 198 L st M Q := G_getf rfl (by decide) rfl rfl rfl
theorem x170_198 : XX X d 170 (198, [l0, l1, l2, some (.int x), l4, l5], st, M) Q = XX X d 170 (199, [l0, l1, l2, some (.int x), l4, l5], .int x :: st, M) Q := H_ld rfl rfl rfl rfl rfl
theorem x170_199 : XX X d 170 (199, L, .int x :: .ref a :: st, M) Q = ya (M.2.2 a) .iaload x X d 170 200 L st M Q := G_ald rfl ⟨⟨rfl, rfl, rfl, by decide⟩, rfl, rfl⟩ rfl rfl
theorem x170_200 : XX X d 170 (200, [l0, l1, l2, l3, some (.int x), l5], st, M) Q = XX X d 170 (202, [l0, l1, l2, l3, some (.int x), l5], .int x :: st, M) Q := H_ld rfl rfl rfl rfl rfl
theorem x170_202 : XX X d 170 (202, L, v :: .int x :: .ref a :: st, M) Q = yw (M.2.2 a) a .iastore v x X d 170 203 L st M Q := G_ast rfl ⟨⟨rfl, rfl, rfl, by decide⟩, rfl, rfl⟩ rfl rfl rfl
theorem x170_203 : XX X d 170 (203, [l0, l1, l2, l3, l4, some (.int x)], st, M) Q = XX X d 170 (205, [l0, l1, l2, l3, l4, some (.int x)], .int x :: st, M) Q := H_ld rfl rfl rfl rfl rfl
theorem x170_205 : XX X d 170 (205, L, st, M) Q = XX X d 170 (207, L, .int (ii 10) :: st, M) Q := G_cst rfl rfl rfl rfl rfl
theorem x170_207 (h : -2147483648 ≤ p ∧ p ≤ 2147483647 ∧ -2147483648 ≤ q ∧ q ≤ 2147483647) : XX X d 170 (207, L, .int (ii q) :: .int (ii p) :: st, M) Q = bq (p = q) X d 170 217 210 L st M Q := H_if2 rfl ⟨rfl, rfl, rfl, by decide⟩ rfl rfl rfl rfl (D_eq h)
theorem x170_210 : XX X d 170 (210, [l0, l1, l2, l3, l4, some (.int x)], st, M) Q = XX X d 170 (212, [l0, l1, l2, l3, l4, some (.int x)], .int x :: st, M) Q := H_ld rfl rfl rfl rfl rfl
theorem x170_212 : XX X d 170 (212, L, st, M) Q = XX X d 170 (214, L, .int (ii 11) :: st, M) Q := G_cst rfl rfl rfl rfl rfl
theorem x170_214 (h : -2147483648 ≤ p ∧ p ≤ 2147483647 ∧ -2147483648 ≤ q ∧ q ≤ 2147483647) : XX X d 170 (214, L, .int (ii q) :: .int (ii p) :: st, M) Q = bq (p ≠ q) X d 170 227 217 L st M Q := H_if2 rfl ⟨rfl, rfl, rfl, by decide⟩ rfl rfl rfl rfl (D_ne h)
theorem x170_217 : XX X d 170 (217, [some (.ref a), l1, l2, l3, l4, l5], st, M) Q = XX X d 170 (218, [some (.ref a), l1, l2, l3, l4, l5], .ref a :: st, M) Q := H_ld rfl rfl rfl rfl rfl
theorem x170_218 : XX X d 170 (218, L, .ref a :: st, M) Q = yg (M.2.2 a) 9 27 X d 170 221 L st M Q := G_getf rfl (by decide) rfl rfl rfl
theorem x170_221 : XX X d 170 (221, [l0, l1, l2, some (.int x), l4, l5], st, M) Q = XX X d 170 (222, [l0, l1, l2, some (.int x), l4, l5], .int x :: st, M) Q := H_ld rfl rfl rfl rfl rfl
theorem x170_222 : XX X d 170 (222, L, .int x :: .ref a :: st, M) Q = ya (M.2.2 a) .iaload x X d 170 223 L st M Q := G_ald rfl ⟨⟨rfl, rfl, rfl, by decide⟩, rfl, rfl⟩ rfl rfl
theorem x170_223 (h : wide (some l2) = false) : XX X d 170 (223, [l0, l1, l2, l3, l4, l5], .int x :: st, M) Q = XX X d 170 (224, [l0, l1, l2, some (.int x), l4, l5], st, M) Q := H_st rfl rfl rfl rfl rfl rfl rfl rfl (Or.inr h)
theorem x170_224 : XX X d 170 (224, L, st, M) Q = XX X d 170 (268, L, st, M) Q := H_jmp rfl (by decide) rfl
theorem x170_227 : XX X d 170 (227, [l0, l1, l2, l3, l4, some (.int x)], st, M) Q = XX X d 170 (229, [l0, l1, l2, l3, l4, some (.int x)], .int x :: st, M) Q := H_ld rfl rfl rfl rfl rfl
theorem x170_229 : XX X d 170 (229, L, st, M) Q = XX X d 170 (231, L, .int (ii 12) :: st, M) Q := G_cst rfl rfl rfl rfl rfl
theorem x170_231 (h : -2147483648 ≤ p ∧ p ≤ 2147483647 ∧ -2147483648 ≤ q ∧ q ≤ 2147483647) : XX X d 170 (231, L, .int (ii q) :: .int (ii p) :: st, M) Q = bq (p ≠ q) X d 170 240 234 L st M Q := H_if2 rfl ⟨rfl, rfl, rfl, by decide⟩ rfl rfl rfl rfl (D_ne h)
theorem x170_234 (h : wide (some l2) = false) : XX X d 170 (234, [l0, l1, l2, some (.int (ii p)), l4, l5], st, M) Q = XX X d 170 (237, [l0, l1, l2, some (.int (ii (p + 1))), l4, l5], st, M) Q := H_inc rfl (by decide) rfl rfl rfl (Or.inr h)
theorem x170_237 : XX X d 170 (237, L, st, M) Q = XX X d 170 (268, L, st, M) Q := H_jmp rfl (by decide) rfl
theorem x170_240 : XX X d 170 (240, [l0, l1, l2, l3, l4, some (.int x)], st, M) Q = XX X d 170 (242, [l0, l1, l2, l3, l4, some (.int x)], .int x :: st, M) Q := H_ld rfl rfl rfl rfl rfl
theorem x170_242 : XX X d 170 (242, L, st, M) Q = XX X d 170 (244, L, .int (ii 13) :: st, M) Q := G_cst rfl rfl rfl rfl rfl
theorem x170_244 (h : -2147483648 ≤ p ∧ p ≤ 2147483647 ∧ -2147483648 ≤ q ∧ q ≤ 2147483647) : XX X d 170 (244, L, .int (ii q) :: .int (ii p) :: st, M) Q = bq (p = q) X d 170 266 247 L st M Q := H_if2 rfl ⟨rfl, rfl, rfl, by decide⟩ rfl rfl rfl rfl (D_eq h)
theorem x170_247 : XX X d 170 (247, [some (.ref a), l1, l2, l3, l4, l5], st, M) Q = XX X d 170 (248, [some (.ref a), l1, l2, l3, l4, l5], .ref a :: st, M) Q := H_ld rfl rfl rfl rfl rfl
theorem x170_248 : XX X d 170 (248, [l0, l1, l2, some (.int x), l4, l5], st, M) Q = XX X d 170 (249, [l0, l1, l2, some (.int x), l4, l5], .int x :: st, M) Q := H_ld rfl rfl rfl rfl rfl
theorem x170_249 : XX X d 170 (249, [l0, l1, l2, l3, some (.int x), l5], st, M) Q = XX X d 170 (251, [l0, l1, l2, l3, some (.int x), l5], .int x :: st, M) Q := H_ld rfl rfl rfl rfl rfl
theorem x170_251 {v1 v2 : Value} (hd : 0 < d) (hs : stB st = true) : XX X d 170 (251, L, v2 :: v1 :: .ref a :: st, M) Q = (mcl M a = some 9 ∧ CC X (d - 1) 166 [.ref a, v1, v2] M (XC X d 170 251 254 L st Q)) := H_virt [v1, v2] rfl (by decide) rfl rfl rfl rfl rfl hd hs
theorem x170_254 (h : -2147483648 ≤ p ∧ p ≤ 2147483647) : XX X d 170 (254, L, .int (ii p) :: st, M) Q = bq (p = 0) X d 170 266 257 L st M Q := H_if rfl ⟨rfl, rfl, rfl, by decide⟩ rfl rfl rfl rfl (D_eq (b := 0) (by omega))
theorem x170_254b : XX X d 170 (254, L, .int (ii (b2i b)) :: st, M) Q = bq (b = false) X d 170 266 257 L st M Q := (x170_254 (b2i_r b)).trans (by rw [b2i_0])
theorem x170_257 (h : wide (some l2) = false) : XX X d 170 (257, [l0, l1, l2, some (.int (ii p)), l4, l5], st, M) Q = XX X d 170 (260, [l0, l1, l2, some (.int (ii (p + 1))), l4, l5], st, M) Q := H_inc rfl (by decide) rfl rfl rfl (Or.inr h)
theorem x170_260 (h : wide (some l3) = false) : XX X d 170 (260, [l0, l1, l2, l3, some (.int (ii p)), l5], st, M) Q = XX X d 170 (263, [l0, l1, l2, l3, some (.int (ii (p + 1))), l5], st, M) Q := H_inc rfl (by decide) rfl rfl rfl (Or.inr h)
theorem x170_263 : XX X d 170 (263, L, st, M) Q = XX X d 170 (268, L, st, M) Q := H_jmp rfl (by decide) rfl
theorem x170_266 : XX X d 170 (266, L, st, M) Q = XX X d 170 (267, L, .int (ii (-1)) :: st, M) Q := G_cst rfl rfl rfl rfl rfl
theorem x170_267 (h : wide (some l2) = false) : XX X d 170 (267, [l0, l1, l2, l3, l4, l5], .int x :: st, M) Q = XX X d 170 (268, [l0, l1, l2, some (.int x), l4, l5], st, M) Q := H_st rfl rfl rfl rfl rfl rfl rfl rfl (Or.inr h)
theorem x170_268 : XX X d 170 (268, L, st, M) Q = XX X d 170 (70, L, st, M) Q := H_jmp rfl (by decide) rfl
theorem x170_271 : XX X d 170 (271, L, st, M) Q = XX X d 170 (32, L, st, M) Q := H_jmp rfl (by decide) rfl
theorem x170_274 : XX X d 170 (274, L, st, M) Q = XX X d 170 (275, L, .int (ii 0) :: st, M) Q := G_cst rfl rfl rfl rfl rfl
theorem x170_275 (h : p = 0 ∨ p = 1) : XX X d 170 (275, L, [.int (ii p)], M) Q = Q (.inl (some (.int (ii p)))) M := G_ret rfl ⟨⟨⟨rfl, rfl, rfl, by decide⟩, rfl, rfl⟩, rfl, rfl⟩ (bz_ok h)
theorem e170 : CC X d 170 [.ref a, .int x, .int x2] M Q = XX X d 170 (0, [some (.ref a), some (.int x), some (.int x2), none, none, none], [], M) Q := H_ent rfl rfl
-- 171 X9_seeks (I)I
theorem x171_0 : XX X d 171 (0, [some (.ref a), l1, l2], st, M) Q = XX X d 171 (1, [some (.ref a), l1, l2], .ref a :: st, M) Q := H_ld rfl rfl rfl rfl rfl
theorem x171_1 (hd : 0 < d) (hs : stB st = true) : XX X d 171 (1, L, .ref a :: st, M) Q = (mcl M a = some 9 ∧ CC X (d - 1) 169 [.ref a] M (XC X d 171 1 4 L st Q)) := H_virt [] rfl (by decide) rfl rfl rfl rfl rfl hd hs
theorem x171_4 : XX X d 171 (4, [l0, some (.int x), l2], st, M) Q = XX X d 171 (5, [l0, some (.int x), l2], .int x :: st, M) Q := H_ld rfl rfl rfl rfl rfl
theorem x171_5 (h : wide (some l1) = false) : XX X d 171 (5, [l0, l1, l2], .int x :: st, M) Q = XX X d 171 (6, [l0, l1, some (.int x)], st, M) Q := H_st rfl rfl rfl rfl rfl rfl rfl rfl (Or.inr h)
theorem x171_6 : XX X d 171 (6, [l0, l1, some (.int x)], st, M) Q = XX X d 171 (7, [l0, l1, some (.int x)], .int x :: st, M) Q := H_ld rfl rfl rfl rfl rfl
theorem x171_7 : XX X d 171 (7, [some (.ref a), l1, l2], st, M) Q = XX X d 171 (8, [some (.ref a), l1, l2], .ref a :: st, M) Q := H_ld rfl rfl rfl rfl rfl
theorem x171_8 : XX X d 171 (8, L, .ref a :: st, M) Q = yg (M.2.2 a) 9 0 X d 171 11 L st M Q := G_getf rfl (by decide) rfl rfl rfl
theorem x171_11 : XX X d 171 (11, L, st, M) Q = XX X d 171 (13, L, .int (ii 125) :: st, M) Q := G_cst rfl rfl rfl rfl rfl
theorem x171_13 : XX X d 171 (13, L, .int x :: .ref a :: st, M) Q = ya (M.2.2 a) .iaload x X d 171 14 L st M Q := G_ald rfl ⟨⟨rfl, rfl, rfl, by decide⟩, rfl, rfl⟩ rfl rfl
theorem x171_14 (h : -2147483648 ≤ p ∧ p ≤ 2147483647 ∧ -2147483648 ≤ q ∧ q ≤ 2147483647) : XX X d 171 (14, L, .int (ii q) :: .int (ii p) :: st, M) Q = bq (q < p) X d 171 34 17 L st M Q := H_if2 rfl ⟨rfl, rfl, rfl, by decide⟩ rfl rfl rfl rfl (D_gt h)
theorem x171_17 : XX X d 171 (17, [some (.ref a), l1, l2], st, M) Q = XX X d 171 (18, [some (.ref a), l1, l2], .ref a :: st, M) Q := H_ld rfl rfl rfl rfl rfl
theorem x171_18 : XX X d 171 (18, [l0, l1, some (.int x)], st, M) Q = XX X d 171 (19, [l0, l1, some (.int x)], .int x :: st, M) Q := H_ld rfl rfl rfl rfl rfl
theorem x171_19 : XX X d 171 (19, L, st, M) Q = XX X d 171 (20, L, .int (ii 0) :: st, M) Q := G_cst rfl rfl rfl rfl rfl
theorem x171_20 {v1 v2 : Value} (hd : 0 < d) (hs : stB st = true) : XX X d 171 (20, L, v2 :: v1 :: .ref a :: st, M) Q = (mcl M a = some 9 ∧ CC X (d - 1) 170 [.ref a, v1, v2] M (XC X d 171 20 23 L st Q)) := H_virt [v1, v2] rfl (by decide) rfl rfl rfl rfl rfl hd hs
theorem x171_23 (h : -2147483648 ≤ p ∧ p ≤ 2147483647) : XX X d 171 (23, L, .int (ii p) :: st, M) Q = bq (p = 0) X d 171 28 26 L st M Q := H_if rfl ⟨rfl, rfl, rfl, by decide⟩ rfl rfl rfl rfl (D_eq (b := 0) (by omega))
theorem x171_23b : XX X d 171 (23, L, .int (ii (b2i b)) :: st, M) Q = bq (b = false) X d 171 28 26 L st M Q := (x171_23 (b2i_r b)).trans (by rw [b2i_0])
theorem x171_26 : XX X d 171 (26, [l0, l1, some (.int x)], st, M) Q = XX X d 171 (27, [l0, l1, some (.int x)], .int x :: st, M) Q := H_ld rfl rfl rfl rfl rfl
theorem x171_27 : XX X d 171 (27, L, [.int (ii p)], M) Q = Q (.inl (some (.int (ii p)))) M := G_ret rfl ⟨⟨⟨rfl, rfl, rfl, by decide⟩, rfl, rfl⟩, rfl, rfl⟩ rfl
theorem x171_28 (h : wide (some l1) = false) : XX X d 171 (28, [l0, l1, some (.int (ii p))], st, M) Q = XX X d 171 (31, [l0, l1, some (.int (ii (p + 1)))], st, M) Q := H_inc rfl (by decide) rfl rfl rfl (Or.inr h)
theorem x171_31 : XX X d 171 (31, L, st, M) Q = XX X d 171 (6, L, st, M) Q := H_jmp rfl (by decide) rfl
theorem x171_34 : XX X d 171 (34, L, st, M) Q = XX X d 171 (35, L, .int (ii (-1)) :: st, M) Q := G_cst rfl rfl rfl rfl rfl
theorem x171_35 : XX X d 171 (35, L, [.int (ii p)], M) Q = Q (.inl (some (.int (ii p)))) M := G_ret rfl ⟨⟨⟨rfl, rfl, rfl, by decide⟩, rfl, rfl⟩, rfl, rfl⟩ rfl
theorem e171 : CC X d 171 [.ref a, .int x] M Q = XX X d 171 (0, [some (.ref a), some (.int x), none], [], M) Q := H_ent rfl rfl
-- 172 X9_isPattern (I)Z
theorem x172_0 : XX X d 172 (0, [l0, some (.int x)], st, M) Q = XX X d 172 (1, [l0, some (.int x)], .int x :: st, M) Q := H_ld rfl rfl rfl rfl rfl
theorem x172_1 : XX X d 172 (1, L, st, M) Q = XX X d 172 (2, L, .int (ii 0) :: st, M) Q := G_cst rfl rfl rfl rfl rfl
theorem x172_2 : XX X d 172 (2, [some (.ref a), l1], st, M) Q = XX X d 172 (3, [some (.ref a), l1], .ref a :: st, M) Q := H_ld rfl rfl rfl rfl rfl
theorem x172_3 : XX X d 172 (3, L, .ref a :: st, M) Q = yg (M.2.2 a) 9 0 X d 172 6 L st M Q := G_getf rfl (by decide) rfl rfl rfl
theorem x172_6 : XX X d 172 (6, L, st, M) Q = XX X d 172 (7, L, .int (ii 0) :: st, M) Q := G_cst rfl rfl rfl rfl rfl
theorem x172_7 : XX X d 172 (7, L, .int x :: .ref a :: st, M) Q = ya (M.2.2 a) .iaload x X d 172 8 L st M Q := G_ald rfl ⟨⟨rfl, rfl, rfl, by decide⟩, rfl, rfl⟩ rfl rfl
theorem x172_8 : XX X d 172 (8, L, st, M) Q = XX X d 172 (9, L, .int (ii 1) :: st, M) Q := G_cst rfl rfl rfl rfl rfl
theorem x172_9 : XX X d 172 (9, L, .int (ii q) :: .int (ii p) :: st, M) Q = XX X d 172 (10, L, .int (ii (p - q)) :: st, M) Q := H_sub rfl (by decide) rfl
theorem x172_10 {v1 v2 v3 : Value} (hd : 0 < d) (hs : stB st = true) : XX X d 172 (10, L, v3 :: v2 :: v1 :: st, M) Q = CC X (d - 1) 145 [v1, v2, v3] M (XC X d 172 10 13 L st Q) := H_static [v1, v2, v3] rfl (by decide) rfl rfl (by decide) rfl rfl hd hs
theorem x172_13 (h : p = 0 ∨ p = 1) : XX X d 172 (13, L, [.int (ii p)], M) Q = Q (.inl (some (.int (ii p)))) M := G_ret rfl ⟨⟨⟨rfl, rfl, rfl, by decide⟩, rfl, rfl⟩, rfl, rfl⟩ (bz_ok h)
theorem e172 : CC X d 172 [.ref a, .int x] M Q = XX X d 172 (0, [some (.ref a), some (.int x)], [], M) Q := H_ent rfl rfl
-- 173 X9_isNone (I)Z
theorem x173_0 : XX X d 173 (0, [some (.ref a), l1], st, M) Q = XX X d 173 (1, [some (.ref a), l1], .ref a :: st, M) Q := H_ld rfl rfl rfl rfl rfl
theorem x173_1 : XX X d 173 (1, [some (.ref a), l1], st, M) Q = XX X d 173 (2, [some (.ref a), l1], .ref a :: st, M) Q := H_ld rfl rfl rfl rfl rfl
theorem x173_2 : XX X d 173 (2, [l0, some (.int x)], st, M) Q = XX X d 173 (3, [l0, some (.int x)], .int x :: st, M) Q := H_ld rfl rfl rfl rfl rfl
theorem x173_3 {v1 : Value} (hd : 0 < d) (hs : stB st = true) : XX X d 173 (3, L, v1 :: .ref a :: st, M) Q = (mcl M a = some 9 ∧ CC X (d - 1) 172 [.ref a, v1] M (XC X d 173 3 6 L st Q)) := H_virt [v1] rfl (by decide) rfl rfl rfl rfl rfl hd hs
theorem x173_6 (h : -2147483648 ≤ p ∧ p ≤ 2147483647) : XX X d 173 (6, L, .int (ii p) :: st, M) Q = bq (p = 0) X d 173 13 9 L st M Q := H_if rfl ⟨rfl, rfl, rfl, by decide⟩ rfl rfl rfl rfl (D_eq (b := 0) (by omega))
theorem x173_6b : XX X d 173 (6, L, .int (ii (b2i b)) :: st, M) Q = bq (b = false) X d 173 13 9 L st M Q := (x173_6 (b2i_r b)).trans (by rw [b2i_0])
theorem x173_9 : XX X d 173 (9, L, st, M) Q = XX X d 173 (10, L, .int (ii 0) :: st, M) Q := G_cst rfl rfl rfl rfl rfl
theorem x173_10 : XX X d 173 (10, L, st, M) Q = XX X d 173 (14, L, st, M) Q := H_jmp rfl (by decide) rfl
theorem x173_13 : XX X d 173 (13, L, st, M) Q = XX X d 173 (14, L, .int (ii 1) :: st, M) Q := G_cst rfl rfl rfl rfl rfl
theorem x173_14 {v1 : Value} (hd : 0 < d) (hs : stB st = true) : XX X d 173 (14, L, v1 :: .ref a :: st, M) Q = (mcl M a = some 9 ∧ CC X (d - 1) 144 [.ref a, v1] M (XC X d 173 14 17 L st Q)) := H_virt [v1] rfl (by decide) rfl rfl rfl rfl rfl hd hs
theorem x173_17 (h : p = 0 ∨ p = 1) : XX X d 173 (17, L, [.int (ii p)], M) Q = Q (.inl (some (.int (ii p)))) M := G_ret rfl ⟨⟨⟨rfl, rfl, rfl, by decide⟩, rfl, rfl⟩, rfl, rfl⟩ (bz_ok h)
theorem e173 : CC X d 173 [.ref a, .int x] M Q = XX X d 173 (0, [some (.ref a), some (.int x)], [], M) Q := H_ent rfl rfl
-- 174 X9_typePattern (C)I
theorem x174_0 : XX X d 174 (0, [some (.ref a), l1], st, M) Q = XX X d 174 (1, [some (.ref a), l1], .ref a :: st, M) Q := H_ld rfl rfl rfl rfl rfl
theorem x174_1 : XX X d 174 (1, [some (.ref a), l1], st, M) Q = XX X d 174 (2, [some (.ref a), l1], .ref a :: st, M) Q := H_ld rfl rfl rfl rfl rfl
theorem x174_2 : XX X d 174 (2, L, .ref a :: st, M) Q = yg (M.2.2 a) 9 7 X d 174 5 L st M Q := G_getf rfl (by decide) rfl rfl rfl
theorem x174_5 : XX X d 174 (5, L, st, M) Q = XX X d 174 (7, L, .int (ii 30) :: st, M) Q := G_cst rfl rfl rfl rfl rfl
theorem x174_7 (h : -2147483648 ≤ p ∧ p ≤ 2147483647 ∧ -2147483648 ≤ q ∧ q ≤ 2147483647) : XX X d 174 (7, L, .int (ii q) :: .int (ii p) :: st, M) Q = bq (p ≠ q) X d 174 14 10 L st M Q := H_if2 rfl ⟨rfl, rfl, rfl, by decide⟩ rfl rfl rfl rfl (D_ne h)
theorem x174_10 : XX X d 174 (10, L, st, M) Q = XX X d 174 (11, L, .int (ii 1) :: st, M) Q := G_cst rfl rfl rfl rfl rfl
theorem x174_11 : XX X d 174 (11, L, st, M) Q = XX X d 174 (15, L, st, M) Q := H_jmp rfl (by decide) rfl
theorem x174_14 : XX X d 174 (14, L, st, M) Q = XX X d 174 (15, L, .int (ii 0) :: st, M) Q := G_cst rfl rfl rfl rfl rfl
theorem x174_15 {v1 : Value} (hd : 0 < d) (hs : stB st = true) : XX X d 174 (15, L, v1 :: .ref a :: st, M) Q = (mcl M a = some 9 ∧ CC X (d - 1) 144 [.ref a, v1] M (XC X d 174 15 18 L st Q)) := H_virt [v1] rfl (by decide) rfl rfl rfl rfl rfl hd hs
theorem x174_18 (h : -2147483648 ≤ p ∧ p ≤ 2147483647) : XX X d 174 (18, L, .int (ii p) :: st, M) Q = bq (p = 0) X d 174 23 21 L st M Q := H_if rfl ⟨rfl, rfl, rfl, by decide⟩ rfl rfl rfl rfl (D_eq (b := 0) (by omega))
theorem x174_18b : XX X d 174 (18, L, .int (ii (b2i b)) :: st, M) Q = bq (b = false) X d 174 23 21 L st M Q := (x174_18 (b2i_r b)).trans (by rw [b2i_0])
theorem x174_21 : XX X d 174 (21, L, st, M) Q = XX X d 174 (22, L, .int (ii 0) :: st, M) Q := G_cst rfl rfl rfl rfl rfl
theorem x174_22 : XX X d 174 (22, L, [.int (ii p)], M) Q = Q (.inl (some (.int (ii p)))) M := G_ret rfl ⟨⟨⟨rfl, rfl, rfl, by decide⟩, rfl, rfl⟩, rfl, rfl⟩ rfl
theorem x174_23 : XX X d 174 (23, [some (.ref a), l1], st, M) Q = XX X d 174 (24, [some (.ref a), l1], .ref a :: st, M) Q := H_ld rfl rfl rfl rfl rfl
theorem x174_24 : XX X d 174 (24, L, .ref a :: st, M) Q = yg (M.2.2 a) 9 6 X d 174 27 L st M Q := G_getf rfl (by decide) rfl rfl rfl
theorem x174_27 : XX X d 174 (27, [some (.ref a), l1], st, M) Q = XX X d 174 (28, [some (.ref a), l1], .ref a :: st, M) Q := H_ld rfl rfl rfl rfl rfl
theorem x174_28 : XX X d 174 (28, L, .ref a :: st, M) Q = yg (M.2.2 a) 9 7 X d 174 31 L st M Q := G_getf rfl (by decide) rfl rfl rfl
theorem x174_31 : XX X d 174 (31, [l0, some (.int x)], st, M) Q = XX X d 174 (32, [l0, some (.int x)], .int x :: st, M) Q := H_ld rfl rfl rfl rfl rfl
theorem x174_32 : XX X d 174 (32, L, v :: .int x :: .ref a :: st, M) Q = yw (M.2.2 a) a .iastore v x X d 174 33 L st M Q := G_ast rfl ⟨⟨rfl, rfl, rfl, by decide⟩, rfl, rfl⟩ rfl rfl rfl
theorem x174_33 : XX X d 174 (33, [some (.ref a), l1], st, M) Q = XX X d 174 (34, [some (.ref a), l1], .ref a :: st, M) Q := H_ld rfl rfl rfl rfl rfl
theorem x174_34 (h : v.category = 1) : XX X d 174 (34, L, v :: st, M) Q = XX X d 174 (35, L, v :: v :: st, M) Q := G_sop rfl ⟨rfl, rfl, rfl, by decide⟩ (if_pos h) rfl
theorem x174_35 : XX X d 174 (35, L, .ref a :: st, M) Q = yg (M.2.2 a) 9 7 X d 174 38 L st M Q := G_getf rfl (by decide) rfl rfl rfl
theorem x174_38 : XX X d 174 (38, L, st, M) Q = XX X d 174 (39, L, .int (ii 1) :: st, M) Q := G_cst rfl rfl rfl rfl rfl
theorem x174_39 : XX X d 174 (39, L, .int (ii q) :: .int (ii p) :: st, M) Q = XX X d 174 (40, L, .int (ii (p + q)) :: st, M) Q := H_add rfl (by decide) rfl
theorem x174_40 : XX X d 174 (40, L, v :: .ref a :: st, M) Q = yp (M.2.2 a) a 9 7 v X d 174 43 L st M Q := G_putf rfl (by decide) rfl rfl rfl
theorem x174_43 : XX X d 174 (43, [some (.ref a), l1], st, M) Q = XX X d 174 (44, [some (.ref a), l1], .ref a :: st, M) Q := H_ld rfl rfl rfl rfl rfl
theorem x174_44 : XX X d 174 (44, L, .ref a :: st, M) Q = yg (M.2.2 a) 9 7 X d 174 47 L st M Q := G_getf rfl (by decide) rfl rfl rfl
theorem x174_47 : XX X d 174 (47, L, [.int (ii p)], M) Q = Q (.inl (some (.int (ii p)))) M := G_ret rfl ⟨⟨⟨rfl, rfl, rfl, by decide⟩, rfl, rfl⟩, rfl, rfl⟩ rfl
theorem e174 : CC X d 174 [.ref a, .int x] M Q = XX X d 174 (0, [some (.ref a), some (.int x)], [], M) Q := H_ent rfl rfl
-- 175 X9_sortOf (I)I
theorem x175_0 : XX X d 175 (0, [some (.int x)], st, M) Q = XX X d 175 (1, [some (.int x)], .int x :: st, M) Q := H_ld rfl rfl rfl rfl rfl
theorem x175_1 (h : -2147483648 ≤ p ∧ p ≤ 2147483647) : XX X d 175 (1, L, .int (ii p) :: st, M) Q = bq (0 ≤ p) X d 175 6 4 L st M Q := H_if rfl ⟨rfl, rfl, rfl, by decide⟩ rfl rfl rfl rfl (D_le (b := 0) (by omega))
theorem x175_4 : XX X d 175 (4, L, st, M) Q = XX X d 175 (5, L, .int (ii 5) :: st, M) Q := G_cst rfl rfl rfl rfl rfl
theorem x175_5 : XX X d 175 (5, L, [.int (ii p)], M) Q = Q (.inl (some (.int (ii p)))) M := G_ret rfl ⟨⟨⟨rfl, rfl, rfl, by decide⟩, rfl, rfl⟩, rfl, rfl⟩ rfl
theorem x175_6 : XX X d 175 (6, [some (.int x)], st, M) Q = XX X d 175 (7, [some (.int x)], .int x :: st, M) Q := H_ld rfl rfl rfl rfl rfl
theorem x175_7 : XX X d 175 (7, L, st, M) Q = XX X d 175 (9, L, .int (ii 42) :: st, M) Q := G_cst rfl rfl rfl rfl rfl
theorem x175_9 (h : -2147483648 ≤ p ∧ p ≤ 2147483647 ∧ -2147483648 ≤ q ∧ q ≤ 2147483647) : XX X d 175 (9, L, .int (ii q) :: .int (ii p) :: st, M) Q = bq (p = q) X d 175 24 12 L st M Q := H_if2 rfl ⟨rfl, rfl, rfl, by decide⟩ rfl rfl rfl rfl (D_eq h)
theorem x175_12 : XX X d 175 (12, [some (.int x)], st, M) Q = XX X d 175 (13, [some (.int x)], .int x :: st, M) Q := H_ld rfl rfl rfl rfl rfl
theorem x175_13 : XX X d 175 (13, L, st, M) Q = XX X d 175 (15, L, .int (ii 43) :: st, M) Q := G_cst rfl rfl rfl rfl rfl
theorem x175_15 (h : -2147483648 ≤ p ∧ p ≤ 2147483647 ∧ -2147483648 ≤ q ∧ q ≤ 2147483647) : XX X d 175 (15, L, .int (ii q) :: .int (ii p) :: st, M) Q = bq (p = q) X d 175 24 18 L st M Q := H_if2 rfl ⟨rfl, rfl, rfl, by decide⟩ rfl rfl rfl rfl (D_eq h)
theorem x175_18 : XX X d 175 (18, [some (.int x)], st, M) Q = XX X d 175 (19, [some (.int x)], .int x :: st, M) Q := H_ld rfl rfl rfl rfl rfl
theorem x175_19 : XX X d 175 (19, L, st, M) Q = XX X d 175 (21, L, .int (ii 63) :: st, M) Q := G_cst rfl rfl rfl rfl rfl
theorem x175_21 (h : -2147483648 ≤ p ∧ p ≤ 2147483647 ∧ -2147483648 ≤ q ∧ q ≤ 2147483647) : XX X d 175 (21, L, .int (ii q) :: .int (ii p) :: st, M) Q = bq (p ≠ q) X d 175 28 24 L st M Q := H_if2 rfl ⟨rfl, rfl, rfl, by decide⟩ rfl rfl rfl rfl (D_ne h)
theorem x175_24 : XX X d 175 (24, L, st, M) Q = XX X d 175 (25, L, .int (ii 1) :: st, M) Q := G_cst rfl rfl rfl rfl rfl
theorem x175_25 : XX X d 175 (25, L, st, M) Q = XX X d 175 (49, L, st, M) Q := H_jmp rfl (by decide) rfl
theorem x175_28 : XX X d 175 (28, [some (.int x)], st, M) Q = XX X d 175 (29, [some (.int x)], .int x :: st, M) Q := H_ld rfl rfl rfl rfl rfl
theorem x175_29 : XX X d 175 (29, L, st, M) Q = XX X d 175 (31, L, .int (ii 41) :: st, M) Q := G_cst rfl rfl rfl rfl rfl
theorem x175_31 (h : -2147483648 ≤ p ∧ p ≤ 2147483647 ∧ -2147483648 ≤ q ∧ q ≤ 2147483647) : XX X d 175 (31, L, .int (ii q) :: .int (ii p) :: st, M) Q = bq (p ≠ q) X d 175 38 34 L st M Q := H_if2 rfl ⟨rfl, rfl, rfl, by decide⟩ rfl rfl rfl rfl (D_ne h)
theorem x175_34 : XX X d 175 (34, L, st, M) Q = XX X d 175 (35, L, .int (ii 2) :: st, M) Q := G_cst rfl rfl rfl rfl rfl
theorem x175_35 : XX X d 175 (35, L, st, M) Q = XX X d 175 (49, L, st, M) Q := H_jmp rfl (by decide) rfl
theorem x175_38 : XX X d 175 (38, [some (.int x)], st, M) Q = XX X d 175 (39, [some (.int x)], .int x :: st, M) Q := H_ld rfl rfl rfl rfl rfl
theorem x175_39 : XX X d 175 (39, L, st, M) Q = XX X d 175 (41, L, .int (ii 40) :: st, M) Q := G_cst rfl rfl rfl rfl rfl
theorem x175_41 (h : -2147483648 ≤ p ∧ p ≤ 2147483647 ∧ -2147483648 ≤ q ∧ q ≤ 2147483647) : XX X d 175 (41, L, .int (ii q) :: .int (ii p) :: st, M) Q = bq (p ≠ q) X d 175 48 44 L st M Q := H_if2 rfl ⟨rfl, rfl, rfl, by decide⟩ rfl rfl rfl rfl (D_ne h)
theorem x175_44 : XX X d 175 (44, L, st, M) Q = XX X d 175 (45, L, .int (ii 3) :: st, M) Q := G_cst rfl rfl rfl rfl rfl
theorem x175_45 : XX X d 175 (45, L, st, M) Q = XX X d 175 (49, L, st, M) Q := H_jmp rfl (by decide) rfl
theorem x175_48 : XX X d 175 (48, L, st, M) Q = XX X d 175 (49, L, .int (ii 4) :: st, M) Q := G_cst rfl rfl rfl rfl rfl
theorem x175_49 : XX X d 175 (49, L, [.int (ii p)], M) Q = Q (.inl (some (.int (ii p)))) M := G_ret rfl ⟨⟨⟨rfl, rfl, rfl, by decide⟩, rfl, rfl⟩, rfl, rfl⟩ rfl
theorem e175 : CC X d 175 [.int x] M Q = XX X d 175 (0, [some (.int x)], [], M) Q := H_ent rfl rfl
-- 176 X9_keepsFault ()V
theorem x176_0 : XX X d 176 (0, [some (.ref a), l1], st, M) Q = XX X d 176 (1, [some (.ref a), l1], .ref a :: st, M) Q := H_ld rfl rfl rfl rfl rfl
theorem x176_1 : XX X d 176 (1, [some (.ref a), l1], st, M) Q = XX X d 176 (2, [some (.ref a), l1], .ref a :: st, M) Q := H_ld rfl rfl rfl rfl rfl
theorem x176_2 : XX X d 176 (2, L, .ref a :: st, M) Q = yg (M.2.2 a) 9 17 X d 176 5 L st M Q := G_getf rfl (by decide) rfl rfl rfl
theorem x176_5 : XX X d 176 (5, L, v :: .ref a :: st, M) Q = yp (M.2.2 a) a 9 10 v X d 176 8 L st M Q := G_putf rfl (by decide) rfl rfl rfl
theorem x176_8 : XX X d 176 (8, [some (.ref a), l1], st, M) Q = XX X d 176 (9, [some (.ref a), l1], .ref a :: st, M) Q := H_ld rfl rfl rfl rfl rfl
theorem x176_9 : XX X d 176 (9, [some (.ref a), l1], st, M) Q = XX X d 176 (10, [some (.ref a), l1], .ref a :: st, M) Q := H_ld rfl rfl rfl rfl rfl
theorem x176_10 (hd : 0 < d) (hs : stB st = true) : XX X d 176 (10, L, .ref a :: st, M) Q = (mcl M a = some 9 ∧ CC X (d - 1) 150 [.ref a] M (XC X d 176 10 13 L st Q)) := H_virt [] rfl (by decide) rfl rfl rfl rfl rfl hd hs
theorem x176_13 {v1 : Value} (hd : 0 < d) (hs : stB st = true) : XX X d 176 (13, L, v1 :: st, M) Q = CC X (d - 1) 175 [v1] M (XC X d 176 13 16 L st Q) := H_static [v1] rfl (by decide) rfl rfl (by decide) rfl rfl hd hs
theorem x176_16 : XX X d 176 (16, L, v :: .ref a :: st, M) Q = yp (M.2.2 a) a 9 11 v X d 176 19 L st M Q := G_putf rfl (by decide) rfl rfl rfl
theorem x176_19 : XX X d 176 (19, [some (.ref a), l1], st, M) Q = XX X d 176 (20, [some (.ref a), l1], .ref a :: st, M) Q := H_ld rfl rfl rfl rfl rfl
theorem x176_20 : XX X d 176 (20, L, st, M) Q = XX X d 176 (21, L, .int (ii 0) :: st, M) Q := G_cst rfl rfl rfl rfl rfl
theorem x176_21 : XX X d 176 (21, L, v :: .ref a :: st, M) Q = yp (M.2.2 a) a 9 12 v X d 176 24 L st M Q := G_putf rfl (by decide) rfl rfl rfl
theorem x176_24 : XX X d 176 (24, L, st, M) Q = XX X d 176 (25, L, .int (ii 0) :: st, M) Q := G_cst rfl rfl rfl rfl rfl
theorem x176_25 (h : wide (some l0) = false) : XX X d 176 (25, [l0, l1], .int x :: st, M) Q = XX X d 176 (26, [l0, some (.int x)], st, M) Q := H_st rfl rfl rfl rfl rfl rfl rfl rfl (Or.inr h)
theorem x176_26 : XX X d 176 (26, [l0, some (.int x)], st, M) Q = XX X d 176 (27, [l0, some (.int x)], .int x :: st, M) Q := H_ld rfl rfl rfl rfl rfl
theorem x176_27 : XX X d 176 (27, [some (.ref a), l1], st, M) Q = XX X d 176 (28, [some (.ref a), l1], .ref a :: st, M) Q := H_ld rfl rfl rfl rfl rfl
theorem x176_28 : XX X d 176 (28, L, .ref a :: st, M) Q = yg (M.2.2 a) 9 17 X d 176 31 L st M Q := G_getf rfl (by decide) rfl rfl rfl
theorem x176_31 (h : -2147483648 ≤ p ∧ p ≤ 2147483647 ∧ -2147483648 ≤ q ∧ q ≤ 2147483647) : XX X d 176 (31, L, .int (ii q) :: .int (ii p) :: st, M) Q = bq (q ≤ p) X d 176 80 34 L st M Q := H_if2 rfl ⟨rfl, rfl, rfl, by decide⟩ rfl rfl rfl rfl (D_le h)
theorem x176_34 : XX X d 176 (34, [some (.ref a), l1], st, M) Q = XX X d 176 (35, [some (.ref a), l1], .ref a :: st, M) Q := H_ld rfl rfl rfl rfl rfl
theorem x176_35 (h : v.category = 1) : XX X d 176 (35, L, v :: st, M) Q = XX X d 176 (36, L, v :: v :: st, M) Q := G_sop rfl ⟨rfl, rfl, rfl, by decide⟩ (if_pos h) rfl
theorem x176_36 : XX X d 176 (36, L, .ref a :: st, M) Q = yg (M.2.2 a) 9 12 X d 176 39 L st M Q := G_getf rfl (by decide) rfl rfl rfl
theorem x176_39 : XX X d 176 (39, [some (.ref a), l1], st, M) Q = XX X d 176 (40, [some (.ref a), l1], .ref a :: st, M) Q := H_ld rfl rfl rfl rfl rfl
theorem x176_40 : XX X d 176 (40, L, .ref a :: st, M) Q = yg (M.2.2 a) 9 15 X d 176 43 L st M Q := G_getf rfl (by decide) rfl rfl rfl
theorem x176_43 : XX X d 176 (43, [l0, some (.int x)], st, M) Q = XX X d 176 (44, [l0, some (.int x)], .int x :: st, M) Q := H_ld rfl rfl rfl rfl rfl
theorem x176_44 : XX X d 176 (44, L, .int x :: .ref a :: st, M) Q = ya (M.2.2 a) .iaload x X d 176 45 L st M Q := G_ald rfl ⟨⟨rfl, rfl, rfl, by decide⟩, rfl, rfl⟩ rfl rfl
theorem x176_45 : XX X d 176 (45, L, st, M) Q = XX X d 176 (47, L, .int (ii 40) :: st, M) Q := G_cst rfl rfl rfl rfl rfl
theorem x176_47 (h : -2147483648 ≤ p ∧ p ≤ 2147483647 ∧ -2147483648 ≤ q ∧ q ≤ 2147483647) : XX X d 176 (47, L, .int (ii q) :: .int (ii p) :: st, M) Q = bq (p ≠ q) X d 176 54 50 L st M Q := H_if2 rfl ⟨rfl, rfl, rfl, by decide⟩ rfl rfl rfl rfl (D_ne h)
theorem x176_50 : XX X d 176 (50, L, st, M) Q = XX X d 176 (51, L, .int (ii 1) :: st, M) Q := G_cst rfl rfl rfl rfl rfl
theorem x176_51 : XX X d 176 (51, L, st, M) Q = XX X d 176 (70, L, st, M) Q := H_jmp rfl (by decide) rfl
theorem x176_54 : XX X d 176 (54, [some (.ref a), l1], st, M) Q = XX X d 176 (55, [some (.ref a), l1], .ref a :: st, M) Q := H_ld rfl rfl rfl rfl rfl
theorem x176_55 : XX X d 176 (55, L, .ref a :: st, M) Q = yg (M.2.2 a) 9 15 X d 176 58 L st M Q := G_getf rfl (by decide) rfl rfl rfl
theorem x176_58 : XX X d 176 (58, [l0, some (.int x)], st, M) Q = XX X d 176 (59, [l0, some (.int x)], .int x :: st, M) Q := H_ld rfl rfl rfl rfl rfl
theorem x176_59 : XX X d 176 (59, L, .int x :: .ref a :: st, M) Q = ya (M.2.2 a) .iaload x X d 176 60 L st M Q := G_ald rfl ⟨⟨rfl, rfl, rfl, by decide⟩, rfl, rfl⟩ rfl rfl
theorem x176_60 : XX X d 176 (60, L, st, M) Q = XX X d 176 (62, L, .int (ii 41) :: st, M) Q := G_cst rfl rfl rfl rfl rfl
theorem x176_62 (h : -2147483648 ≤ p ∧ p ≤ 2147483647 ∧ -2147483648 ≤ q ∧ q ≤ 2147483647) : XX X d 176 (62, L, .int (ii q) :: .int (ii p) :: st, M) Q = bq (p ≠ q) X d 176 69 65 L st M Q := H_if2 rfl ⟨rfl, rfl, rfl, by decide⟩ rfl rfl rfl rfl (D_ne h)
theorem x176_65 : XX X d 176 (65, L, st, M) Q = XX X d 176 (66, L, .int (ii (-1)) :: st, M) Q := G_cst rfl rfl rfl rfl rfl
theorem x176_66 : XX X d 176 (66, L, st, M) Q = XX X d 176 (70, L, st, M) Q := H_jmp rfl (by decide) rfl
theorem x176_69 : XX X d 176 (69, L, st, M) Q = XX X d 176 (70, L, .int (ii 0) :: st, M) Q := G_cst rfl rfl rfl rfl rfl
theorem x176_70 : XX X d 176 (70, L, .int (ii q) :: .int (ii p) :: st, M) Q = XX X d 176 (71, L, .int (ii (p + q)) :: st, M) Q := H_add rfl (by decide) rfl
theorem x176_71 : XX X d 176 (71, L, v :: .ref a :: st, M) Q = yp (M.2.2 a) a 9 12 v X d 176 74 L st M Q := G_putf rfl (by decide) rfl rfl rfl
theorem x176_74 (h : wide (some l0) = false) : XX X d 176 (74, [l0, some (.int (ii p))], st, M) Q = XX X d 176 (77, [l0, some (.int (ii (p + 1)))], st, M) Q := H_inc rfl (by decide) rfl rfl rfl (Or.inr h)
theorem x176_77 : XX X d 176 (77, L, st, M) Q = XX X d 176 (26, L, st, M) Q := H_jmp rfl (by decide) rfl
theorem x176_80 : XX X d 176 (80, L, [], M) Q = Q (.inl none) M := G_retv rfl (by decide) rfl
theorem e176 : CC X d 176 [.ref a] M Q = XX X d 176 (0, [some (.ref a), none], [], M) Q := H_ent rfl rfl
-- 177 X9_compile ()I
theorem x177_0 : XX X d 177 (0, [some (.ref a), l1, l2, l3], st, M) Q = XX X d 177 (1, [some (.ref a), l1, l2, l3], .ref a :: st, M) Q := H_ld rfl rfl rfl rfl rfl
theorem x177_1 : XX X d 177 (1, L, .ref a :: st, M) Q = yg (M.2.2 a) 9 7 X d 177 4 L st M Q := G_getf rfl (by decide) rfl rfl rfl
theorem x177_4 (h : wide (some l0) = false) : XX X d 177 (4, [l0, l1, l2, l3], .int x :: st, M) Q = XX X d 177 (5, [l0, some (.int x), l2, l3], st, M) Q := H_st rfl rfl rfl rfl rfl rfl rfl rfl (Or.inr h)
theorem x177_5 : XX X d 177 (5, [some (.ref a), l1, l2, l3], st, M) Q = XX X d 177 (6, [some (.ref a), l1, l2, l3], .ref a :: st, M) Q := H_ld rfl rfl rfl rfl rfl
theorem x177_6 : XX X d 177 (6, L, st, M) Q = XX X d 177 (7, L, .int (ii 0) :: st, M) Q := G_cst rfl rfl rfl rfl rfl
theorem x177_7 : XX X d 177 (7, L, v :: .ref a :: st, M) Q = yp (M.2.2 a) a 9 7 v X d 177 10 L st M Q := G_putf rfl (by decide) rfl rfl rfl
theorem x177_10 : XX X d 177 (10, [some (.ref a), l1, l2, l3], st, M) Q = XX X d 177 (11, [some (.ref a), l1, l2, l3], .ref a :: st, M) Q := H_ld rfl rfl rfl rfl rfl
theorem x177_11 : XX X d 177 (11, [some (.ref a), l1, l2, l3], st, M) Q = XX X d 177 (12, [some (.ref a), l1, l2, l3], .ref a :: st, M) Q := H_ld rfl rfl rfl rfl rfl
theorem x177_12 : XX X d 177 (12, L, .ref a :: st, M) Q = yg (M.2.2 a) 9 0 X d 177 15 L st M Q := G_getf rfl (by decide) rfl rfl rfl
theorem x177_15 : XX X d 177 (15, L, st, M) Q = XX X d 177 (16, L, .int (ii 0) :: st, M) Q := G_cst rfl rfl rfl rfl rfl
theorem x177_16 : XX X d 177 (16, L, .int x :: .ref a :: st, M) Q = ya (M.2.2 a) .iaload x X d 177 17 L st M Q := G_ald rfl ⟨⟨rfl, rfl, rfl, by decide⟩, rfl, rfl⟩ rfl rfl
theorem x177_17 : XX X d 177 (17, L, st, M) Q = XX X d 177 (18, L, .int (ii 4) :: st, M) Q := G_cst rfl rfl rfl rfl rfl
theorem x177_18 (h : -2147483648 ≤ p ∧ p ≤ 2147483647 ∧ -2147483648 ≤ q ∧ q ≤ 2147483647) : XX X d 177 (18, L, .int (ii q) :: .int (ii p) :: st, M) Q = bq (p ≠ q) X d 177 25 21 L st M Q := H_if2 rfl ⟨rfl, rfl, rfl, by decide⟩ rfl rfl rfl rfl (D_ne h)
theorem x177_21 : XX X d 177 (21, L, st, M) Q = XX X d 177 (22, L, .int (ii 1) :: st, M) Q := G_cst rfl rfl rfl rfl rfl
theorem x177_22 : XX X d 177 (22, L, st, M) Q = XX X d 177 (26, L, st, M) Q := H_jmp rfl (by decide) rfl
theorem x177_25 : XX X d 177 (25, L, st, M) Q = XX X d 177 (26, L, .int (ii 0) :: st, M) Q := G_cst rfl rfl rfl rfl rfl
theorem x177_26 {v1 : Value} (hd : 0 < d) (hs : stB st = true) : XX X d 177 (26, L, v1 :: .ref a :: st, M) Q = (mcl M a = some 9 ∧ CC X (d - 1) 144 [.ref a, v1] M (XC X d 177 26 29 L st Q)) := H_virt [v1] rfl (by decide) rfl rfl rfl rfl rfl hd hs
theorem x177_29 (h : -2147483648 ≤ p ∧ p ≤ 2147483647) : XX X d 177 (29, L, .int (ii p) :: st, M) Q = bq (p = 0) X d 177 34 32 L st M Q := H_if rfl ⟨rfl, rfl, rfl, by decide⟩ rfl rfl rfl rfl (D_eq (b := 0) (by omega))
theorem x177_29b : XX X d 177 (29, L, .int (ii (b2i b)) :: st, M) Q = bq (b = false) X d 177 34 32 L st M Q := (x177_29 (b2i_r b)).trans (by rw [b2i_0])
theorem x177_32 : XX X d 177 (32, L, st, M) Q = XX X d 177 (33, L, .int (ii 0) :: st, M) Q := G_cst rfl rfl rfl rfl rfl
theorem x177_33 : XX X d 177 (33, L, [.int (ii p)], M) Q = Q (.inl (some (.int (ii p)))) M := G_ret rfl ⟨⟨⟨rfl, rfl, rfl, by decide⟩, rfl, rfl⟩, rfl, rfl⟩ rfl
theorem x177_34 : XX X d 177 (34, [some (.ref a), l1, l2, l3], st, M) Q = XX X d 177 (35, [some (.ref a), l1, l2, l3], .ref a :: st, M) Q := H_ld rfl rfl rfl rfl rfl
theorem x177_35 : XX X d 177 (35, [l0, some (.int x), l2, l3], st, M) Q = XX X d 177 (36, [l0, some (.int x), l2, l3], .int x :: st, M) Q := H_ld rfl rfl rfl rfl rfl
theorem x177_36 : XX X d 177 (36, L, v :: .ref a :: st, M) Q = yp (M.2.2 a) a 9 16 v X d 177 39 L st M Q := G_putf rfl (by decide) rfl rfl rfl
theorem x177_39 : XX X d 177 (39, L, st, M) Q = XX X d 177 (40, L, .int (ii 0) :: st, M) Q := G_cst rfl rfl rfl rfl rfl
theorem x177_40 (h : wide (some l1) = false) : XX X d 177 (40, [l0, l1, l2, l3], .int x :: st, M) Q = XX X d 177 (41, [l0, l1, some (.int x), l3], st, M) Q := H_st rfl rfl rfl rfl rfl rfl rfl rfl (Or.inr h)
theorem x177_41 : XX X d 177 (41, [l0, l1, some (.int x), l3], st, M) Q = XX X d 177 (42, [l0, l1, some (.int x), l3], .int x :: st, M) Q := H_ld rfl rfl rfl rfl rfl
theorem x177_42 : XX X d 177 (42, [l0, some (.int x), l2, l3], st, M) Q = XX X d 177 (43, [l0, some (.int x), l2, l3], .int x :: st, M) Q := H_ld rfl rfl rfl rfl rfl
theorem x177_43 (h : -2147483648 ≤ p ∧ p ≤ 2147483647 ∧ -2147483648 ≤ q ∧ q ≤ 2147483647) : XX X d 177 (43, L, .int (ii q) :: .int (ii p) :: st, M) Q = bq (q ≤ p) X d 177 64 46 L st M Q := H_if2 rfl ⟨rfl, rfl, rfl, by decide⟩ rfl rfl rfl rfl (D_le h)
theorem x177_46 : XX X d 177 (46, [some (.ref a), l1, l2, l3], st, M) Q = XX X d 177 (47, [some (.ref a), l1, l2, l3], .ref a :: st, M) Q := H_ld rfl rfl rfl rfl rfl
theorem x177_47 : XX X d 177 (47, L, .ref a :: st, M) Q = yg (M.2.2 a) 9 15 X d 177 50 L st M Q := G_getf rfl (by decide) rfl rfl rfl
theorem x177_50 : XX X d 177 (50, [l0, l1, some (.int x), l3], st, M) Q = XX X d 177 (51, [l0, l1, some (.int x), l3], .int x :: st, M) Q := H_ld rfl rfl rfl rfl rfl
theorem x177_51 : XX X d 177 (51, [some (.ref a), l1, l2, l3], st, M) Q = XX X d 177 (52, [some (.ref a), l1, l2, l3], .ref a :: st, M) Q := H_ld rfl rfl rfl rfl rfl
theorem x177_52 : XX X d 177 (52, L, .ref a :: st, M) Q = yg (M.2.2 a) 9 6 X d 177 55 L st M Q := G_getf rfl (by decide) rfl rfl rfl
theorem x177_55 : XX X d 177 (55, [l0, l1, some (.int x), l3], st, M) Q = XX X d 177 (56, [l0, l1, some (.int x), l3], .int x :: st, M) Q := H_ld rfl rfl rfl rfl rfl
theorem x177_56 : XX X d 177 (56, L, .int x :: .ref a :: st, M) Q = ya (M.2.2 a) .iaload x X d 177 57 L st M Q := G_ald rfl ⟨⟨rfl, rfl, rfl, by decide⟩, rfl, rfl⟩ rfl rfl
theorem x177_57 : XX X d 177 (57, L, v :: .int x :: .ref a :: st, M) Q = yw (M.2.2 a) a .iastore v x X d 177 58 L st M Q := G_ast rfl ⟨⟨rfl, rfl, rfl, by decide⟩, rfl, rfl⟩ rfl rfl rfl
theorem x177_58 (h : wide (some l1) = false) : XX X d 177 (58, [l0, l1, some (.int (ii p)), l3], st, M) Q = XX X d 177 (61, [l0, l1, some (.int (ii (p + 1))), l3], st, M) Q := H_inc rfl (by decide) rfl rfl rfl (Or.inr h)
theorem x177_61 : XX X d 177 (61, L, st, M) Q = XX X d 177 (41, L, st, M) Q := H_jmp rfl (by decide) rfl
theorem x177_64 : XX X d 177 (64, [some (.ref a), l1, l2, l3], st, M) Q = XX X d 177 (65, [some (.ref a), l1, l2, l3], .ref a :: st, M) Q := H_ld rfl rfl rfl rfl rfl
theorem x177_65 (hd : 0 < d) (hs : stB st = true) : XX X d 177 (65, L, .ref a :: st, M) Q = (mcl M a = some 9 ∧ CC X (d - 1) 160 [.ref a] M (XC X d 177 65 68 L st Q)) := H_virt [] rfl (by decide) rfl rfl rfl rfl rfl hd hs
theorem x177_68 (h : v.category = 1) : XX X d 177 (68, L, v :: st, M) Q = XX X d 177 (69, L, st, M) Q := G_sop rfl ⟨rfl, rfl, rfl, by decide⟩ (if_pos h) rfl
theorem x177_69 : XX X d 177 (69, [some (.ref a), l1, l2, l3], st, M) Q = XX X d 177 (70, [some (.ref a), l1, l2, l3], .ref a :: st, M) Q := H_ld rfl rfl rfl rfl rfl
theorem x177_70 : XX X d 177 (70, L, .ref a :: st, M) Q = yg (M.2.2 a) 9 18 X d 177 73 L st M Q := G_getf rfl (by decide) rfl rfl rfl
theorem x177_73 (h : -2147483648 ≤ p ∧ p ≤ 2147483647) : XX X d 177 (73, L, .int (ii p) :: st, M) Q = bq (p = 0) X d 177 80 76 L st M Q := H_if rfl ⟨rfl, rfl, rfl, by decide⟩ rfl rfl rfl rfl (D_eq (b := 0) (by omega))
theorem x177_73b : XX X d 177 (73, L, .int (ii (b2i b)) :: st, M) Q = bq (b = false) X d 177 80 76 L st M Q := (x177_73 (b2i_r b)).trans (by rw [b2i_0])
theorem x177_76 : XX X d 177 (76, [some (.ref a), l1, l2, l3], st, M) Q = XX X d 177 (77, [some (.ref a), l1, l2, l3], .ref a :: st, M) Q := H_ld rfl rfl rfl rfl rfl
theorem x177_77 (hd : 0 < d) (hs : stB st = true) : XX X d 177 (77, L, .ref a :: st, M) Q = (mcl M a = some 9 ∧ CC X (d - 1) 176 [.ref a] M (XC X d 177 77 80 L st Q)) := H_virt [] rfl (by decide) rfl rfl rfl rfl rfl hd hs
theorem x177_80 : XX X d 177 (80, [some (.ref a), l1, l2, l3], st, M) Q = XX X d 177 (81, [some (.ref a), l1, l2, l3], .ref a :: st, M) Q := H_ld rfl rfl rfl rfl rfl
theorem x177_81 : XX X d 177 (81, [some (.ref a), l1, l2, l3], st, M) Q = XX X d 177 (82, [some (.ref a), l1, l2, l3], .ref a :: st, M) Q := H_ld rfl rfl rfl rfl rfl
theorem x177_82 : XX X d 177 (82, L, .ref a :: st, M) Q = yg (M.2.2 a) 9 18 X d 177 85 L st M Q := G_getf rfl (by decide) rfl rfl rfl
theorem x177_85 (h : -2147483648 ≤ p ∧ p ≤ 2147483647) : XX X d 177 (85, L, .int (ii p) :: st, M) Q = bq (p = 0) X d 177 92 88 L st M Q := H_if rfl ⟨rfl, rfl, rfl, by decide⟩ rfl rfl rfl rfl (D_eq (b := 0) (by omega))
theorem x177_85b : XX X d 177 (85, L, .int (ii (b2i b)) :: st, M) Q = bq (b = false) X d 177 92 88 L st M Q := (x177_85 (b2i_r b)).trans (by rw [b2i_0])
theorem x177_88 : XX X d 177 (88, L, st, M) Q = XX X d 177 (89, L, .int (ii 2) :: st, M) Q := G_cst rfl rfl rfl rfl rfl
theorem x177_89 : XX X d 177 (89, L, st, M) Q = XX X d 177 (93, L, st, M) Q := H_jmp rfl (by decide) rfl
theorem x177_92 : XX X d 177 (92, L, st, M) Q = XX X d 177 (93, L, .int (ii 0) :: st, M) Q := G_cst rfl rfl rfl rfl rfl
theorem x177_93 {v1 : Value} (hd : 0 < d) (hs : stB st = true) : XX X d 177 (93, L, v1 :: .ref a :: st, M) Q = (mcl M a = some 9 ∧ CC X (d - 1) 144 [.ref a, v1] M (XC X d 177 93 96 L st Q)) := H_virt [v1] rfl (by decide) rfl rfl rfl rfl rfl hd hs
theorem x177_96 (h : -2147483648 ≤ p ∧ p ≤ 2147483647) : XX X d 177 (96, L, .int (ii p) :: st, M) Q = bq (p = 0) X d 177 101 99 L st M Q := H_if rfl ⟨rfl, rfl, rfl, by decide⟩ rfl rfl rfl rfl (D_eq (b := 0) (by omega))
theorem x177_96b : XX X d 177 (96, L, .int (ii (b2i b)) :: st, M) Q = bq (b = false) X d 177 101 99 L st M Q := (x177_96 (b2i_r b)).trans (by rw [b2i_0])
theorem x177_99 : XX X d 177 (99, L, st, M) Q = XX X d 177 (100, L, .int (ii 0) :: st, M) Q := G_cst rfl rfl rfl rfl rfl
theorem x177_100 : XX X d 177 (100, L, [.int (ii p)], M) Q = Q (.inl (some (.int (ii p)))) M := G_ret rfl ⟨⟨⟨rfl, rfl, rfl, by decide⟩, rfl, rfl⟩, rfl, rfl⟩ rfl
theorem x177_101 : XX X d 177 (101, [some (.ref a), l1, l2, l3], st, M) Q = XX X d 177 (102, [some (.ref a), l1, l2, l3], .ref a :: st, M) Q := H_ld rfl rfl rfl rfl rfl
theorem x177_102 (hd : 0 < d) (hs : stB st = true) : XX X d 177 (102, L, .ref a :: st, M) Q = (mcl M a = some 9 ∧ CC X (d - 1) 149 [.ref a] M (XC X d 177 102 105 L st Q)) := H_virt [] rfl (by decide) rfl rfl rfl rfl rfl hd hs
theorem x177_105 : XX X d 177 (105, [some (.ref a), l1, l2, l3], st, M) Q = XX X d 177 (106, [some (.ref a), l1, l2, l3], .ref a :: st, M) Q := H_ld rfl rfl rfl rfl rfl
theorem x177_106 : XX X d 177 (106, L, .ref a :: st, M) Q = yg (M.2.2 a) 9 0 X d 177 109 L st M Q := G_getf rfl (by decide) rfl rfl rfl
theorem x177_109 : XX X d 177 (109, L, st, M) Q = XX X d 177 (110, L, .int (ii 0) :: st, M) Q := G_cst rfl rfl rfl rfl rfl
theorem x177_110 : XX X d 177 (110, L, .int x :: .ref a :: st, M) Q = ya (M.2.2 a) .iaload x X d 177 111 L st M Q := G_ald rfl ⟨⟨rfl, rfl, rfl, by decide⟩, rfl, rfl⟩ rfl rfl
theorem x177_111 (h : wide (some l1) = false) : XX X d 177 (111, [l0, l1, l2, l3], .int x :: st, M) Q = XX X d 177 (112, [l0, l1, some (.int x), l3], st, M) Q := H_st rfl rfl rfl rfl rfl rfl rfl rfl (Or.inr h)
theorem x177_112 : XX X d 177 (112, [some (.ref a), l1, l2, l3], st, M) Q = XX X d 177 (113, [some (.ref a), l1, l2, l3], .ref a :: st, M) Q := H_ld rfl rfl rfl rfl rfl
theorem x177_113 : XX X d 177 (113, L, .ref a :: st, M) Q = yg (M.2.2 a) 9 0 X d 177 116 L st M Q := G_getf rfl (by decide) rfl rfl rfl
theorem x177_116 : XX X d 177 (116, L, st, M) Q = XX X d 177 (117, L, .int (ii 0) :: st, M) Q := G_cst rfl rfl rfl rfl rfl
theorem x177_117 (h : v.category = 1 ∧ v2.category = 1) : XX X d 177 (117, L, v :: v2 :: st, M) Q = XX X d 177 (118, L, v :: v2 :: v :: v2 :: st, M) Q := G_sop rfl ⟨rfl, rfl, rfl, by decide⟩ (if_pos h) rfl
theorem x177_118 : XX X d 177 (118, L, .int x :: .ref a :: st, M) Q = ya (M.2.2 a) .iaload x X d 177 119 L st M Q := G_ald rfl ⟨⟨rfl, rfl, rfl, by decide⟩, rfl, rfl⟩ rfl rfl
theorem x177_119 : XX X d 177 (119, L, st, M) Q = XX X d 177 (120, L, .int (ii 1) :: st, M) Q := G_cst rfl rfl rfl rfl rfl
theorem x177_120 : XX X d 177 (120, L, .int (ii q) :: .int (ii p) :: st, M) Q = XX X d 177 (121, L, .int (ii (p + q)) :: st, M) Q := H_add rfl (by decide) rfl
theorem x177_121 : XX X d 177 (121, L, v :: .int x :: .ref a :: st, M) Q = yw (M.2.2 a) a .iastore v x X d 177 122 L st M Q := G_ast rfl ⟨⟨rfl, rfl, rfl, by decide⟩, rfl, rfl⟩ rfl rfl rfl
theorem x177_122 : XX X d 177 (122, [some (.ref a), l1, l2, l3], st, M) Q = XX X d 177 (123, [some (.ref a), l1, l2, l3], .ref a :: st, M) Q := H_ld rfl rfl rfl rfl rfl
theorem x177_123 : XX X d 177 (123, L, .ref a :: st, M) Q = yg (M.2.2 a) 9 0 X d 177 126 L st M Q := G_getf rfl (by decide) rfl rfl rfl
theorem x177_126 : XX X d 177 (126, L, st, M) Q = XX X d 177 (127, L, .int (ii 1) :: st, M) Q := G_cst rfl rfl rfl rfl rfl
theorem x177_127 : XX X d 177 (127, [l0, l1, some (.int x), l3], st, M) Q = XX X d 177 (128, [l0, l1, some (.int x), l3], .int x :: st, M) Q := H_ld rfl rfl rfl rfl rfl
theorem x177_128 : XX X d 177 (128, L, .int (ii q) :: .int (ii p) :: st, M) Q = XX X d 177 (129, L, .int (ii (p + q)) :: st, M) Q := H_add rfl (by decide) rfl
theorem x177_129 : XX X d 177 (129, [l0, some (.int x), l2, l3], st, M) Q = XX X d 177 (130, [l0, some (.int x), l2, l3], .int x :: st, M) Q := H_ld rfl rfl rfl rfl rfl
theorem x177_130 : XX X d 177 (130, L, v :: .int x :: .ref a :: st, M) Q = yw (M.2.2 a) a .iastore v x X d 177 131 L st M Q := G_ast rfl ⟨⟨rfl, rfl, rfl, by decide⟩, rfl, rfl⟩ rfl rfl rfl
theorem x177_131 : XX X d 177 (131, L, st, M) Q = XX X d 177 (132, L, .int (ii 0) :: st, M) Q := G_cst rfl rfl rfl rfl rfl
theorem x177_132 (h : wide (some l2) = false) : XX X d 177 (132, [l0, l1, l2, l3], .int x :: st, M) Q = XX X d 177 (133, [l0, l1, l2, some (.int x)], st, M) Q := H_st rfl rfl rfl rfl rfl rfl rfl rfl (Or.inr h)
theorem x177_133 : XX X d 177 (133, [l0, l1, l2, some (.int x)], st, M) Q = XX X d 177 (134, [l0, l1, l2, some (.int x)], .int x :: st, M) Q := H_ld rfl rfl rfl rfl rfl
theorem x177_134 : XX X d 177 (134, L, st, M) Q = XX X d 177 (136, L, .int (ii 30) :: st, M) Q := G_cst rfl rfl rfl rfl rfl
theorem x177_136 (h : -2147483648 ≤ p ∧ p ≤ 2147483647 ∧ -2147483648 ≤ q ∧ q ≤ 2147483647) : XX X d 177 (136, L, .int (ii q) :: .int (ii p) :: st, M) Q = bq (q ≤ p) X d 177 173 139 L st M Q := H_if2 rfl ⟨rfl, rfl, rfl, by decide⟩ rfl rfl rfl rfl (D_le h)
theorem x177_139 : XX X d 177 (139, [some (.ref a), l1, l2, l3], st, M) Q = XX X d 177 (140, [some (.ref a), l1, l2, l3], .ref a :: st, M) Q := H_ld rfl rfl rfl rfl rfl
theorem x177_140 : XX X d 177 (140, L, .ref a :: st, M) Q = yg (M.2.2 a) 9 0 X d 177 143 L st M Q := G_getf rfl (by decide) rfl rfl rfl
theorem x177_143 : XX X d 177 (143, L, st, M) Q = XX X d 177 (144, L, .int (ii 5) :: st, M) Q := G_cst rfl rfl rfl rfl rfl
theorem x177_144 : XX X d 177 (144, L, st, M) Q = XX X d 177 (146, L, .int (ii 30) :: st, M) Q := G_cst rfl rfl rfl rfl rfl
theorem x177_146 : XX X d 177 (146, [l0, l1, some (.int x), l3], st, M) Q = XX X d 177 (147, [l0, l1, some (.int x), l3], .int x :: st, M) Q := H_ld rfl rfl rfl rfl rfl
theorem x177_147 : XX X d 177 (147, L, .int (ii q) :: .int (ii p) :: st, M) Q = XX X d 177 (148, L, .int (ii (p * q)) :: st, M) Q := H_mul rfl (by decide) rfl
theorem x177_148 : XX X d 177 (148, L, .int (ii q) :: .int (ii p) :: st, M) Q = XX X d 177 (149, L, .int (ii (p + q)) :: st, M) Q := H_add rfl (by decide) rfl
theorem x177_149 : XX X d 177 (149, [l0, l1, l2, some (.int x)], st, M) Q = XX X d 177 (150, [l0, l1, l2, some (.int x)], .int x :: st, M) Q := H_ld rfl rfl rfl rfl rfl
theorem x177_150 : XX X d 177 (150, L, .int (ii q) :: .int (ii p) :: st, M) Q = XX X d 177 (151, L, .int (ii (p + q)) :: st, M) Q := H_add rfl (by decide) rfl
theorem x177_151 : XX X d 177 (151, [l0, l1, l2, some (.int x)], st, M) Q = XX X d 177 (152, [l0, l1, l2, some (.int x)], .int x :: st, M) Q := H_ld rfl rfl rfl rfl rfl
theorem x177_152 : XX X d 177 (152, [l0, some (.int x), l2, l3], st, M) Q = XX X d 177 (153, [l0, some (.int x), l2, l3], .int x :: st, M) Q := H_ld rfl rfl rfl rfl rfl
theorem x177_153 (h : -2147483648 ≤ p ∧ p ≤ 2147483647 ∧ -2147483648 ≤ q ∧ q ≤ 2147483647) : XX X d 177 (153, L, .int (ii q) :: .int (ii p) :: st, M) Q = bq (q ≤ p) X d 177 165 156 L st M Q := H_if2 rfl ⟨rfl, rfl, rfl, by decide⟩ rfl rfl rfl rfl (D_le h)
theorem x177_156 : XX X d 177 (156, [some (.ref a), l1, l2, l3], st, M) Q = XX X d 177 (157, [some (.ref a), l1, l2, l3], .ref a :: st, M) Q := H_ld rfl rfl rfl rfl rfl
theorem x177_157 : XX X d 177 (157, L, .ref a :: st, M) Q = yg (M.2.2 a) 9 6 X d 177 160 L st M Q := G_getf rfl (by decide) rfl rfl rfl
theorem x177_160 : XX X d 177 (160, [l0, l1, l2, some (.int x)], st, M) Q = XX X d 177 (161, [l0, l1, l2, some (.int x)], .int x :: st, M) Q := H_ld rfl rfl rfl rfl rfl
theorem x177_161 : XX X d 177 (161, L, .int x :: .ref a :: st, M) Q = ya (M.2.2 a) .iaload x X d 177 162 L st M Q := G_ald rfl ⟨⟨rfl, rfl, rfl, by decide⟩, rfl, rfl⟩ rfl rfl
theorem x177_162 : XX X d 177 (162, L, st, M) Q = XX X d 177 (166, L, st, M) Q := H_jmp rfl (by decide) rfl
theorem x177_165 : XX X d 177 (165, L, st, M) Q = XX X d 177 (166, L, .int (ii 0) :: st, M) Q := G_cst rfl rfl rfl rfl rfl
theorem x177_166 : XX X d 177 (166, L, v :: .int x :: .ref a :: st, M) Q = yw (M.2.2 a) a .iastore v x X d 177 167 L st M Q := G_ast rfl ⟨⟨rfl, rfl, rfl, by decide⟩, rfl, rfl⟩ rfl rfl rfl
theorem x177_167 (h : wide (some l2) = false) : XX X d 177 (167, [l0, l1, l2, some (.int (ii p))], st, M) Q = XX X d 177 (170, [l0, l1, l2, some (.int (ii (p + 1)))], st, M) Q := H_inc rfl (by decide) rfl rfl rfl (Or.inr h)
theorem x177_170 : XX X d 177 (170, L, st, M) Q = XX X d 177 (133, L, st, M) Q := H_jmp rfl (by decide) rfl
theorem x177_173 : XX X d 177 (173, [l0, l1, some (.int x), l3], st, M) Q = XX X d 177 (174, [l0, l1, some (.int x), l3], .int x :: st, M) Q := H_ld rfl rfl rfl rfl rfl
theorem x177_174 : XX X d 177 (174, L, [.int (ii p)], M) Q = Q (.inl (some (.int (ii p)))) M := G_ret rfl ⟨⟨⟨rfl, rfl, rfl, by decide⟩, rfl, rfl⟩, rfl, rfl⟩ rfl
theorem e177 : CC X d 177 [.ref a] M Q = XX X d 177 (0, [some (.ref a), none, none, none], [], M) Q := H_ent rfl rfl
-- 178 X9_removePattern (I)I
theorem x178_0 : XX X d 178 (0, [some (.ref a), l1, l2, l3], st, M) Q = XX X d 178 (1, [some (.ref a), l1, l2, l3], .ref a :: st, M) Q := H_ld rfl rfl rfl rfl rfl
theorem x178_1 : XX X d 178 (1, [l0, some (.int x), l2, l3], st, M) Q = XX X d 178 (2, [l0, some (.int x), l2, l3], .int x :: st, M) Q := H_ld rfl rfl rfl rfl rfl
theorem x178_2 {v1 : Value} (hd : 0 < d) (hs : stB st = true) : XX X d 178 (2, L, v1 :: .ref a :: st, M) Q = (mcl M a = some 9 ∧ CC X (d - 1) 173 [.ref a, v1] M (XC X d 178 2 5 L st Q)) := H_virt [v1] rfl (by decide) rfl rfl rfl rfl rfl hd hs
theorem x178_5 (h : -2147483648 ≤ p ∧ p ≤ 2147483647) : XX X d 178 (5, L, .int (ii p) :: st, M) Q = bq (p = 0) X d 178 10 8 L st M Q := H_if rfl ⟨rfl, rfl, rfl, by decide⟩ rfl rfl rfl rfl (D_eq (b := 0) (by omega))
theorem x178_5b : XX X d 178 (5, L, .int (ii (b2i b)) :: st, M) Q = bq (b = false) X d 178 10 8 L st M Q := (x178_5 (b2i_r b)).trans (by rw [b2i_0])
theorem x178_8 : XX X d 178 (8, L, st, M) Q = XX X d 178 (9, L, .int (ii 0) :: st, M) Q := G_cst rfl rfl rfl rfl rfl
theorem x178_9 : XX X d 178 (9, L, [.int (ii p)], M) Q = Q (.inl (some (.int (ii p)))) M := G_ret rfl ⟨⟨⟨rfl, rfl, rfl, by decide⟩, rfl, rfl⟩, rfl, rfl⟩ rfl
theorem x178_10 : XX X d 178 (10, [some (.ref a), l1, l2, l3], st, M) Q = XX X d 178 (11, [some (.ref a), l1, l2, l3], .ref a :: st, M) Q := H_ld rfl rfl rfl rfl rfl
theorem x178_11 (hd : 0 < d) (hs : stB st = true) : XX X d 178 (11, L, .ref a :: st, M) Q = (mcl M a = some 9 ∧ CC X (d - 1) 149 [.ref a] M (XC X d 178 11 14 L st Q)) := H_virt [] rfl (by decide) rfl rfl rfl rfl rfl hd hs
theorem x178_14 : XX X d 178 (14, [some (.ref a), l1, l2, l3], st, M) Q = XX X d 178 (15, [some (.ref a), l1, l2, l3], .ref a :: st, M) Q := H_ld rfl rfl rfl rfl rfl
theorem x178_15 : XX X d 178 (15, L, .ref a :: st, M) Q = yg (M.2.2 a) 9 0 X d 178 18 L st M Q := G_getf rfl (by decide) rfl rfl rfl
theorem x178_18 : XX X d 178 (18, L, st, M) Q = XX X d 178 (19, L, .int (ii 0) :: st, M) Q := G_cst rfl rfl rfl rfl rfl
theorem x178_19 (h : v.category = 1 ∧ v2.category = 1) : XX X d 178 (19, L, v :: v2 :: st, M) Q = XX X d 178 (20, L, v :: v2 :: v :: v2 :: st, M) Q := G_sop rfl ⟨rfl, rfl, rfl, by decide⟩ (if_pos h) rfl
theorem x178_20 : XX X d 178 (20, L, .int x :: .ref a :: st, M) Q = ya (M.2.2 a) .iaload x X d 178 21 L st M Q := G_ald rfl ⟨⟨rfl, rfl, rfl, by decide⟩, rfl, rfl⟩ rfl rfl
theorem x178_21 : XX X d 178 (21, L, st, M) Q = XX X d 178 (22, L, .int (ii 1) :: st, M) Q := G_cst rfl rfl rfl rfl rfl
theorem x178_22 : XX X d 178 (22, L, .int (ii q) :: .int (ii p) :: st, M) Q = XX X d 178 (23, L, .int (ii (p - q)) :: st, M) Q := H_sub rfl (by decide) rfl
theorem x178_23 : XX X d 178 (23, L, v :: .int x :: .ref a :: st, M) Q = yw (M.2.2 a) a .iastore v x X d 178 24 L st M Q := G_ast rfl ⟨⟨rfl, rfl, rfl, by decide⟩, rfl, rfl⟩ rfl rfl rfl
theorem x178_24 : XX X d 178 (24, [l0, some (.int x), l2, l3], st, M) Q = XX X d 178 (25, [l0, some (.int x), l2, l3], .int x :: st, M) Q := H_ld rfl rfl rfl rfl rfl
theorem x178_25 (h : wide (some l1) = false) : XX X d 178 (25, [l0, l1, l2, l3], .int x :: st, M) Q = XX X d 178 (26, [l0, l1, some (.int x), l3], st, M) Q := H_st rfl rfl rfl rfl rfl rfl rfl rfl (Or.inr h)
theorem x178_26 : XX X d 178 (26, [l0, l1, some (.int x), l3], st, M) Q = XX X d 178 (27, [l0, l1, some (.int x), l3], .int x :: st, M) Q := H_ld rfl rfl rfl rfl rfl
theorem x178_27 : XX X d 178 (27, [some (.ref a), l1, l2, l3], st, M) Q = XX X d 178 (28, [some (.ref a), l1, l2, l3], .ref a :: st, M) Q := H_ld rfl rfl rfl rfl rfl
theorem x178_28 : XX X d 178 (28, L, .ref a :: st, M) Q = yg (M.2.2 a) 9 0 X d 178 31 L st M Q := G_getf rfl (by decide) rfl rfl rfl
theorem x178_31 : XX X d 178 (31, L, st, M) Q = XX X d 178 (32, L, .int (ii 0) :: st, M) Q := G_cst rfl rfl rfl rfl rfl
theorem x178_32 : XX X d 178 (32, L, .int x :: .ref a :: st, M) Q = ya (M.2.2 a) .iaload x X d 178 33 L st M Q := G_ald rfl ⟨⟨rfl, rfl, rfl, by decide⟩, rfl, rfl⟩ rfl rfl
theorem x178_33 (h : -2147483648 ≤ p ∧ p ≤ 2147483647 ∧ -2147483648 ≤ q ∧ q ≤ 2147483647) : XX X d 178 (33, L, .int (ii q) :: .int (ii p) :: st, M) Q = bq (q ≤ p) X d 178 103 36 L st M Q := H_if2 rfl ⟨rfl, rfl, rfl, by decide⟩ rfl rfl rfl rfl (D_le h)
theorem x178_36 : XX X d 178 (36, [some (.ref a), l1, l2, l3], st, M) Q = XX X d 178 (37, [some (.ref a), l1, l2, l3], .ref a :: st, M) Q := H_ld rfl rfl rfl rfl rfl
theorem x178_37 : XX X d 178 (37, L, .ref a :: st, M) Q = yg (M.2.2 a) 9 0 X d 178 40 L st M Q := G_getf rfl (by decide) rfl rfl rfl
theorem x178_40 : XX X d 178 (40, L, st, M) Q = XX X d 178 (41, L, .int (ii 1) :: st, M) Q := G_cst rfl rfl rfl rfl rfl
theorem x178_41 : XX X d 178 (41, [l0, l1, some (.int x), l3], st, M) Q = XX X d 178 (42, [l0, l1, some (.int x), l3], .int x :: st, M) Q := H_ld rfl rfl rfl rfl rfl
theorem x178_42 : XX X d 178 (42, L, .int (ii q) :: .int (ii p) :: st, M) Q = XX X d 178 (43, L, .int (ii (p + q)) :: st, M) Q := H_add rfl (by decide) rfl
theorem x178_43 : XX X d 178 (43, [some (.ref a), l1, l2, l3], st, M) Q = XX X d 178 (44, [some (.ref a), l1, l2, l3], .ref a :: st, M) Q := H_ld rfl rfl rfl rfl rfl
theorem x178_44 : XX X d 178 (44, L, .ref a :: st, M) Q = yg (M.2.2 a) 9 0 X d 178 47 L st M Q := G_getf rfl (by decide) rfl rfl rfl
theorem x178_47 : XX X d 178 (47, L, st, M) Q = XX X d 178 (48, L, .int (ii 1) :: st, M) Q := G_cst rfl rfl rfl rfl rfl
theorem x178_48 : XX X d 178 (48, [l0, l1, some (.int x), l3], st, M) Q = XX X d 178 (49, [l0, l1, some (.int x), l3], .int x :: st, M) Q := H_ld rfl rfl rfl rfl rfl
theorem x178_49 : XX X d 178 (49, L, .int (ii q) :: .int (ii p) :: st, M) Q = XX X d 178 (50, L, .int (ii (p + q)) :: st, M) Q := H_add rfl (by decide) rfl
theorem x178_50 : XX X d 178 (50, L, st, M) Q = XX X d 178 (51, L, .int (ii 1) :: st, M) Q := G_cst rfl rfl rfl rfl rfl
theorem x178_51 : XX X d 178 (51, L, .int (ii q) :: .int (ii p) :: st, M) Q = XX X d 178 (52, L, .int (ii (p + q)) :: st, M) Q := H_add rfl (by decide) rfl
theorem x178_52 : XX X d 178 (52, L, .int x :: .ref a :: st, M) Q = ya (M.2.2 a) .iaload x X d 178 53 L st M Q := G_ald rfl ⟨⟨rfl, rfl, rfl, by decide⟩, rfl, rfl⟩ rfl rfl
theorem x178_53 : XX X d 178 (53, L, v :: .int x :: .ref a :: st, M) Q = yw (M.2.2 a) a .iastore v x X d 178 54 L st M Q := G_ast rfl ⟨⟨rfl, rfl, rfl, by decide⟩, rfl, rfl⟩ rfl rfl rfl
theorem x178_54 : XX X d 178 (54, L, st, M) Q = XX X d 178 (55, L, .int (ii 0) :: st, M) Q := G_cst rfl rfl rfl rfl rfl
theorem x178_55 (h : wide (some l2) = false) : XX X d 178 (55, [l0, l1, l2, l3], .int x :: st, M) Q = XX X d 178 (56, [l0, l1, l2, some (.int x)], st, M) Q := H_st rfl rfl rfl rfl rfl rfl rfl rfl (Or.inr h)
theorem x178_56 : XX X d 178 (56, [l0, l1, l2, some (.int x)], st, M) Q = XX X d 178 (57, [l0, l1, l2, some (.int x)], .int x :: st, M) Q := H_ld rfl rfl rfl rfl rfl
theorem x178_57 : XX X d 178 (57, L, st, M) Q = XX X d 178 (59, L, .int (ii 30) :: st, M) Q := G_cst rfl rfl rfl rfl rfl
theorem x178_59 (h : -2147483648 ≤ p ∧ p ≤ 2147483647 ∧ -2147483648 ≤ q ∧ q ≤ 2147483647) : XX X d 178 (59, L, .int (ii q) :: .int (ii p) :: st, M) Q = bq (q ≤ p) X d 178 97 62 L st M Q := H_if2 rfl ⟨rfl, rfl, rfl, by decide⟩ rfl rfl rfl rfl (D_le h)
theorem x178_62 : XX X d 178 (62, [some (.ref a), l1, l2, l3], st, M) Q = XX X d 178 (63, [some (.ref a), l1, l2, l3], .ref a :: st, M) Q := H_ld rfl rfl rfl rfl rfl
theorem x178_63 : XX X d 178 (63, L, .ref a :: st, M) Q = yg (M.2.2 a) 9 0 X d 178 66 L st M Q := G_getf rfl (by decide) rfl rfl rfl
theorem x178_66 : XX X d 178 (66, L, st, M) Q = XX X d 178 (67, L, .int (ii 5) :: st, M) Q := G_cst rfl rfl rfl rfl rfl
theorem x178_67 : XX X d 178 (67, L, st, M) Q = XX X d 178 (69, L, .int (ii 30) :: st, M) Q := G_cst rfl rfl rfl rfl rfl
theorem x178_69 : XX X d 178 (69, [l0, l1, some (.int x), l3], st, M) Q = XX X d 178 (70, [l0, l1, some (.int x), l3], .int x :: st, M) Q := H_ld rfl rfl rfl rfl rfl
theorem x178_70 : XX X d 178 (70, L, .int (ii q) :: .int (ii p) :: st, M) Q = XX X d 178 (71, L, .int (ii (p * q)) :: st, M) Q := H_mul rfl (by decide) rfl
theorem x178_71 : XX X d 178 (71, L, .int (ii q) :: .int (ii p) :: st, M) Q = XX X d 178 (72, L, .int (ii (p + q)) :: st, M) Q := H_add rfl (by decide) rfl
theorem x178_72 : XX X d 178 (72, [l0, l1, l2, some (.int x)], st, M) Q = XX X d 178 (73, [l0, l1, l2, some (.int x)], .int x :: st, M) Q := H_ld rfl rfl rfl rfl rfl
theorem x178_73 : XX X d 178 (73, L, .int (ii q) :: .int (ii p) :: st, M) Q = XX X d 178 (74, L, .int (ii (p + q)) :: st, M) Q := H_add rfl (by decide) rfl
theorem x178_74 : XX X d 178 (74, [some (.ref a), l1, l2, l3], st, M) Q = XX X d 178 (75, [some (.ref a), l1, l2, l3], .ref a :: st, M) Q := H_ld rfl rfl rfl rfl rfl
theorem x178_75 : XX X d 178 (75, L, .ref a :: st, M) Q = yg (M.2.2 a) 9 0 X d 178 78 L st M Q := G_getf rfl (by decide) rfl rfl rfl
theorem x178_78 : XX X d 178 (78, L, st, M) Q = XX X d 178 (79, L, .int (ii 5) :: st, M) Q := G_cst rfl rfl rfl rfl rfl
theorem x178_79 : XX X d 178 (79, L, st, M) Q = XX X d 178 (81, L, .int (ii 30) :: st, M) Q := G_cst rfl rfl rfl rfl rfl
theorem x178_81 : XX X d 178 (81, [l0, l1, some (.int x), l3], st, M) Q = XX X d 178 (82, [l0, l1, some (.int x), l3], .int x :: st, M) Q := H_ld rfl rfl rfl rfl rfl
theorem x178_82 : XX X d 178 (82, L, .int (ii q) :: .int (ii p) :: st, M) Q = XX X d 178 (83, L, .int (ii (p * q)) :: st, M) Q := H_mul rfl (by decide) rfl
theorem x178_83 : XX X d 178 (83, L, .int (ii q) :: .int (ii p) :: st, M) Q = XX X d 178 (84, L, .int (ii (p + q)) :: st, M) Q := H_add rfl (by decide) rfl
theorem x178_84 : XX X d 178 (84, L, st, M) Q = XX X d 178 (86, L, .int (ii 30) :: st, M) Q := G_cst rfl rfl rfl rfl rfl
theorem x178_86 : XX X d 178 (86, L, .int (ii q) :: .int (ii p) :: st, M) Q = XX X d 178 (87, L, .int (ii (p + q)) :: st, M) Q := H_add rfl (by decide) rfl
theorem x178_87 : XX X d 178 (87, [l0, l1, l2, some (.int x)], st, M) Q = XX X d 178 (88, [l0, l1, l2, some (.int x)], .int x :: st, M) Q := H_ld rfl rfl rfl rfl rfl
theorem x178_88 : XX X d 178 (88, L, .int (ii q) :: .int (ii p) :: st, M) Q = XX X d 178 (89, L, .int (ii (p + q)) :: st, M) Q := H_add rfl (by decide) rfl
theorem x178_89 : XX X d 178 (89, L, .int x :: .ref a :: st, M) Q = ya (M.2.2 a) .iaload x X d 178 90 L st M Q := G_ald rfl ⟨⟨rfl, rfl, rfl, by decide⟩, rfl, rfl⟩ rfl rfl
theorem x178_90 : XX X d 178 (90, L, v :: .int x :: .ref a :: st, M) Q = yw (M.2.2 a) a .iastore v x X d 178 91 L st M Q := G_ast rfl ⟨⟨rfl, rfl, rfl, by decide⟩, rfl, rfl⟩ rfl rfl rfl
theorem x178_91 (h : wide (some l2) = false) : XX X d 178 (91, [l0, l1, l2, some (.int (ii p))], st, M) Q = XX X d 178 (94, [l0, l1, l2, some (.int (ii (p + 1)))], st, M) Q := H_inc rfl (by decide) rfl rfl rfl (Or.inr h)
theorem x178_94 : XX X d 178 (94, L, st, M) Q = XX X d 178 (56, L, st, M) Q := H_jmp rfl (by decide) rfl
theorem x178_97 (h : wide (some l1) = false) : XX X d 178 (97, [l0, l1, some (.int (ii p)), l3], st, M) Q = XX X d 178 (100, [l0, l1, some (.int (ii (p + 1))), l3], st, M) Q := H_inc rfl (by decide) rfl rfl rfl (Or.inr h)
theorem x178_100 : XX X d 178 (100, L, st, M) Q = XX X d 178 (26, L, st, M) Q := H_jmp rfl (by decide) rfl
theorem x178_103 : XX X d 178 (103, [some (.ref a), l1, l2, l3], st, M) Q = XX X d 178 (104, [some (.ref a), l1, l2, l3], .ref a :: st, M) Q := H_ld rfl rfl rfl rfl rfl
theorem x178_104 : XX X d 178 (104, L, .ref a :: st, M) Q = yg (M.2.2 a) 9 0 X d 178 107 L st M Q := G_getf rfl (by decide) rfl rfl rfl
theorem x178_107 : XX X d 178 (107, L, st, M) Q = XX X d 178 (108, L, .int (ii 1) :: st, M) Q := G_cst rfl rfl rfl rfl rfl
theorem x178_108 : XX X d 178 (108, [some (.ref a), l1, l2, l3], st, M) Q = XX X d 178 (109, [some (.ref a), l1, l2, l3], .ref a :: st, M) Q := H_ld rfl rfl rfl rfl rfl
theorem x178_109 : XX X d 178 (109, L, .ref a :: st, M) Q = yg (M.2.2 a) 9 0 X d 178 112 L st M Q := G_getf rfl (by decide) rfl rfl rfl
theorem x178_112 : XX X d 178 (112, L, st, M) Q = XX X d 178 (113, L, .int (ii 0) :: st, M) Q := G_cst rfl rfl rfl rfl rfl
theorem x178_113 : XX X d 178 (113, L, .int x :: .ref a :: st, M) Q = ya (M.2.2 a) .iaload x X d 178 114 L st M Q := G_ald rfl ⟨⟨rfl, rfl, rfl, by decide⟩, rfl, rfl⟩ rfl rfl
theorem x178_114 : XX X d 178 (114, L, .int (ii q) :: .int (ii p) :: st, M) Q = XX X d 178 (115, L, .int (ii (p + q)) :: st, M) Q := H_add rfl (by decide) rfl
theorem x178_115 : XX X d 178 (115, L, st, M) Q = XX X d 178 (116, L, .int (ii 0) :: st, M) Q := G_cst rfl rfl rfl rfl rfl
theorem x178_116 : XX X d 178 (116, L, v :: .int x :: .ref a :: st, M) Q = yw (M.2.2 a) a .iastore v x X d 178 117 L st M Q := G_ast rfl ⟨⟨rfl, rfl, rfl, by decide⟩, rfl, rfl⟩ rfl rfl rfl
theorem x178_117 : XX X d 178 (117, [some (.ref a), l1, l2, l3], st, M) Q = XX X d 178 (118, [some (.ref a), l1, l2, l3], .ref a :: st, M) Q := H_ld rfl rfl rfl rfl rfl
theorem x178_118 : XX X d 178 (118, L, .ref a :: st, M) Q = yg (M.2.2 a) 9 0 X d 178 121 L st M Q := G_getf rfl (by decide) rfl rfl rfl
theorem x178_121 : XX X d 178 (121, L, st, M) Q = XX X d 178 (122, L, .int (ii 0) :: st, M) Q := G_cst rfl rfl rfl rfl rfl
theorem x178_122 : XX X d 178 (122, L, .int x :: .ref a :: st, M) Q = ya (M.2.2 a) .iaload x X d 178 123 L st M Q := G_ald rfl ⟨⟨rfl, rfl, rfl, by decide⟩, rfl, rfl⟩ rfl rfl
theorem x178_123 : XX X d 178 (123, L, [.int (ii p)], M) Q = Q (.inl (some (.int (ii p)))) M := G_ret rfl ⟨⟨⟨rfl, rfl, rfl, by decide⟩, rfl, rfl⟩, rfl, rfl⟩ rfl
theorem e178 : CC X d 178 [.ref a, .int x] M Q = XX X d 178 (0, [some (.ref a), some (.int x), none, none], [], M) Q := H_ent rfl rfl
-- 179 X9_patternCount ()I
theorem x179_0 : XX X d 179 (0, [some (.ref a)], st, M) Q = XX X d 179 (1, [some (.ref a)], .ref a :: st, M) Q := H_ld rfl rfl rfl rfl rfl
theorem x179_1 : XX X d 179 (1, L, st, M) Q = XX X d 179 (2, L, .int (ii 0) :: st, M) Q := G_cst rfl rfl rfl rfl rfl
theorem x179_2 : XX X d 179 (2, L, v :: .ref a :: st, M) Q = yp (M.2.2 a) a 9 5 v X d 179 5 L st M Q := G_putf rfl (by decide) rfl rfl rfl
theorem x179_5 : XX X d 179 (5, [some (.ref a)], st, M) Q = XX X d 179 (6, [some (.ref a)], .ref a :: st, M) Q := H_ld rfl rfl rfl rfl rfl
theorem x179_6 : XX X d 179 (6, L, .ref a :: st, M) Q = yg (M.2.2 a) 9 0 X d 179 9 L st M Q := G_getf rfl (by decide) rfl rfl rfl
theorem x179_9 : XX X d 179 (9, L, st, M) Q = XX X d 179 (10, L, .int (ii 0) :: st, M) Q := G_cst rfl rfl rfl rfl rfl
theorem x179_10 : XX X d 179 (10, L, .int x :: .ref a :: st, M) Q = ya (M.2.2 a) .iaload x X d 179 11 L st M Q := G_ald rfl ⟨⟨rfl, rfl, rfl, by decide⟩, rfl, rfl⟩ rfl rfl
theorem x179_11 : XX X d 179 (11, L, [.int (ii p)], M) Q = Q (.inl (some (.int (ii p)))) M := G_ret rfl ⟨⟨⟨rfl, rfl, rfl, by decide⟩, rfl, rfl⟩, rfl, rfl⟩ rfl
theorem e179 : CC X d 179 [.ref a] M Q = XX X d 179 (0, [some (.ref a)], [], M) Q := H_ent rfl rfl
-- 180 X9_patternLength (I)I
theorem x180_0 : XX X d 180 (0, [some (.ref a), l1], st, M) Q = XX X d 180 (1, [some (.ref a), l1], .ref a :: st, M) Q := H_ld rfl rfl rfl rfl rfl
theorem x180_1 : XX X d 180 (1, [l0, some (.int x)], st, M) Q = XX X d 180 (2, [l0, some (.int x)], .int x :: st, M) Q := H_ld rfl rfl rfl rfl rfl
theorem x180_2 {v1 : Value} (hd : 0 < d) (hs : stB st = true) : XX X d 180 (2, L, v1 :: .ref a :: st, M) Q = (mcl M a = some 9 ∧ CC X (d - 1) 173 [.ref a, v1] M (XC X d 180 2 5 L st Q)) := H_virt [v1] rfl (by decide) rfl rfl rfl rfl rfl hd hs
theorem x180_5 (h : -2147483648 ≤ p ∧ p ≤ 2147483647) : XX X d 180 (5, L, .int (ii p) :: st, M) Q = bq (p = 0) X d 180 12 8 L st M Q := H_if rfl ⟨rfl, rfl, rfl, by decide⟩ rfl rfl rfl rfl (D_eq (b := 0) (by omega))
theorem x180_5b : XX X d 180 (5, L, .int (ii (b2i b)) :: st, M) Q = bq (b = false) X d 180 12 8 L st M Q := (x180_5 (b2i_r b)).trans (by rw [b2i_0])
theorem x180_8 : XX X d 180 (8, L, st, M) Q = XX X d 180 (9, L, .int (ii 0) :: st, M) Q := G_cst rfl rfl rfl rfl rfl
theorem x180_9 : XX X d 180 (9, L, st, M) Q = XX X d 180 (20, L, st, M) Q := H_jmp rfl (by decide) rfl
theorem x180_12 : XX X d 180 (12, [some (.ref a), l1], st, M) Q = XX X d 180 (13, [some (.ref a), l1], .ref a :: st, M) Q := H_ld rfl rfl rfl rfl rfl
theorem x180_13 : XX X d 180 (13, L, .ref a :: st, M) Q = yg (M.2.2 a) 9 0 X d 180 16 L st M Q := G_getf rfl (by decide) rfl rfl rfl
theorem x180_16 : XX X d 180 (16, L, st, M) Q = XX X d 180 (17, L, .int (ii 1) :: st, M) Q := G_cst rfl rfl rfl rfl rfl
theorem x180_17 : XX X d 180 (17, [l0, some (.int x)], st, M) Q = XX X d 180 (18, [l0, some (.int x)], .int x :: st, M) Q := H_ld rfl rfl rfl rfl rfl
theorem x180_18 : XX X d 180 (18, L, .int (ii q) :: .int (ii p) :: st, M) Q = XX X d 180 (19, L, .int (ii (p + q)) :: st, M) Q := H_add rfl (by decide) rfl
theorem x180_19 : XX X d 180 (19, L, .int x :: .ref a :: st, M) Q = ya (M.2.2 a) .iaload x X d 180 20 L st M Q := G_ald rfl ⟨⟨rfl, rfl, rfl, by decide⟩, rfl, rfl⟩ rfl rfl
theorem x180_20 : XX X d 180 (20, L, [.int (ii p)], M) Q = Q (.inl (some (.int (ii p)))) M := G_ret rfl ⟨⟨⟨rfl, rfl, rfl, by decide⟩, rfl, rfl⟩, rfl, rfl⟩ rfl
theorem e180 : CC X d 180 [.ref a, .int x] M Q = XX X d 180 (0, [some (.ref a), some (.int x)], [], M) Q := H_ent rfl rfl
-- 181 X9_patternCharacter (II)C
theorem x181_0 : XX X d 181 (0, [some (.ref a), l1, l2], st, M) Q = XX X d 181 (1, [some (.ref a), l1, l2], .ref a :: st, M) Q := H_ld rfl rfl rfl rfl rfl
theorem x181_1 : XX X d 181 (1, [some (.ref a), l1, l2], st, M) Q = XX X d 181 (2, [some (.ref a), l1, l2], .ref a :: st, M) Q := H_ld rfl rfl rfl rfl rfl
theorem x181_2 : XX X d 181 (2, [l0, some (.int x), l2], st, M) Q = XX X d 181 (3, [l0, some (.int x), l2], .int x :: st, M) Q := H_ld rfl rfl rfl rfl rfl
theorem x181_3 {v1 : Value} (hd : 0 < d) (hs : stB st = true) : XX X d 181 (3, L, v1 :: .ref a :: st, M) Q = (mcl M a = some 9 ∧ CC X (d - 1) 172 [.ref a, v1] M (XC X d 181 3 6 L st Q)) := H_virt [v1] rfl (by decide) rfl rfl rfl rfl rfl hd hs
theorem x181_6 (h : -2147483648 ≤ p ∧ p ≤ 2147483647) : XX X d 181 (6, L, .int (ii p) :: st, M) Q = bq (p = 0) X d 181 31 9 L st M Q := H_if rfl ⟨rfl, rfl, rfl, by decide⟩ rfl rfl rfl rfl (D_eq (b := 0) (by omega))
theorem x181_6b : XX X d 181 (6, L, .int (ii (b2i b)) :: st, M) Q = bq (b = false) X d 181 31 9 L st M Q := (x181_6 (b2i_r b)).trans (by rw [b2i_0])
theorem x181_9 : XX X d 181 (9, [l0, l1, some (.int x)], st, M) Q = XX X d 181 (10, [l0, l1, some (.int x)], .int x :: st, M) Q := H_ld rfl rfl rfl rfl rfl
theorem x181_10 : XX X d 181 (10, L, st, M) Q = XX X d 181 (11, L, .int (ii 0) :: st, M) Q := G_cst rfl rfl rfl rfl rfl
theorem x181_11 : XX X d 181 (11, [some (.ref a), l1, l2], st, M) Q = XX X d 181 (12, [some (.ref a), l1, l2], .ref a :: st, M) Q := H_ld rfl rfl rfl rfl rfl
theorem x181_12 : XX X d 181 (12, L, .ref a :: st, M) Q = yg (M.2.2 a) 9 0 X d 181 15 L st M Q := G_getf rfl (by decide) rfl rfl rfl
theorem x181_15 : XX X d 181 (15, L, st, M) Q = XX X d 181 (16, L, .int (ii 1) :: st, M) Q := G_cst rfl rfl rfl rfl rfl
theorem x181_16 : XX X d 181 (16, [l0, some (.int x), l2], st, M) Q = XX X d 181 (17, [l0, some (.int x), l2], .int x :: st, M) Q := H_ld rfl rfl rfl rfl rfl
theorem x181_17 : XX X d 181 (17, L, .int (ii q) :: .int (ii p) :: st, M) Q = XX X d 181 (18, L, .int (ii (p + q)) :: st, M) Q := H_add rfl (by decide) rfl
theorem x181_18 : XX X d 181 (18, L, .int x :: .ref a :: st, M) Q = ya (M.2.2 a) .iaload x X d 181 19 L st M Q := G_ald rfl ⟨⟨rfl, rfl, rfl, by decide⟩, rfl, rfl⟩ rfl rfl
theorem x181_19 : XX X d 181 (19, L, st, M) Q = XX X d 181 (20, L, .int (ii 1) :: st, M) Q := G_cst rfl rfl rfl rfl rfl
theorem x181_20 : XX X d 181 (20, L, .int (ii q) :: .int (ii p) :: st, M) Q = XX X d 181 (21, L, .int (ii (p - q)) :: st, M) Q := H_sub rfl (by decide) rfl
theorem x181_21 {v1 v2 v3 : Value} (hd : 0 < d) (hs : stB st = true) : XX X d 181 (21, L, v3 :: v2 :: v1 :: st, M) Q = CC X (d - 1) 145 [v1, v2, v3] M (XC X d 181 21 24 L st Q) := H_static [v1, v2, v3] rfl (by decide) rfl rfl (by decide) rfl rfl hd hs
theorem x181_24 (h : -2147483648 ≤ p ∧ p ≤ 2147483647) : XX X d 181 (24, L, .int (ii p) :: st, M) Q = bq (p = 0) X d 181 31 27 L st M Q := H_if rfl ⟨rfl, rfl, rfl, by decide⟩ rfl rfl rfl rfl (D_eq (b := 0) (by omega))
theorem x181_24b : XX X d 181 (24, L, .int (ii (b2i b)) :: st, M) Q = bq (b = false) X d 181 31 27 L st M Q := (x181_24 (b2i_r b)).trans (by rw [b2i_0])
theorem x181_27 : XX X d 181 (27, L, st, M) Q = XX X d 181 (28, L, .int (ii 0) :: st, M) Q := G_cst rfl rfl rfl rfl rfl
theorem x181_28 : XX X d 181 (28, L, st, M) Q = XX X d 181 (32, L, st, M) Q := H_jmp rfl (by decide) rfl
theorem x181_31 : XX X d 181 (31, L, st, M) Q = XX X d 181 (32, L, .int (ii 1) :: st, M) Q := G_cst rfl rfl rfl rfl rfl
theorem x181_32 {v1 : Value} (hd : 0 < d) (hs : stB st = true) : XX X d 181 (32, L, v1 :: .ref a :: st, M) Q = (mcl M a = some 9 ∧ CC X (d - 1) 144 [.ref a, v1] M (XC X d 181 32 35 L st Q)) := H_virt [v1] rfl (by decide) rfl rfl rfl rfl rfl hd hs
theorem x181_35 (h : -2147483648 ≤ p ∧ p ≤ 2147483647) : XX X d 181 (35, L, .int (ii p) :: st, M) Q = bq (p = 0) X d 181 41 38 L st M Q := H_if rfl ⟨rfl, rfl, rfl, by decide⟩ rfl rfl rfl rfl (D_eq (b := 0) (by omega))
theorem x181_35b : XX X d 181 (35, L, .int (ii (b2i b)) :: st, M) Q = bq (b = false) X d 181 41 38 L st M Q := (x181_35 (b2i_r b)).trans (by rw [b2i_0])
theorem x181_38 : XX X d 181 (38, L, st, M) Q = XX X d 181 (40, L, .int (ii 32) :: st, M) Q := G_cst rfl rfl rfl rfl rfl
theorem x181_40 (h : 0 ≤ p ∧ p ≤ 65535) : XX X d 181 (40, L, [.int (ii p)], M) Q = Q (.inl (some (.int (ii p)))) M := G_ret rfl ⟨⟨⟨rfl, rfl, rfl, by decide⟩, rfl, rfl⟩, rfl, rfl⟩ (cz_ok h)
theorem x181_41 : XX X d 181 (41, [some (.ref a), l1, l2], st, M) Q = XX X d 181 (42, [some (.ref a), l1, l2], .ref a :: st, M) Q := H_ld rfl rfl rfl rfl rfl
theorem x181_42 : XX X d 181 (42, L, .ref a :: st, M) Q = yg (M.2.2 a) 9 0 X d 181 45 L st M Q := G_getf rfl (by decide) rfl rfl rfl
theorem x181_45 : XX X d 181 (45, L, st, M) Q = XX X d 181 (46, L, .int (ii 5) :: st, M) Q := G_cst rfl rfl rfl rfl rfl
theorem x181_46 : XX X d 181 (46, L, st, M) Q = XX X d 181 (48, L, .int (ii 30) :: st, M) Q := G_cst rfl rfl rfl rfl rfl
theorem x181_48 : XX X d 181 (48, [l0, some (.int x), l2], st, M) Q = XX X d 181 (49, [l0, some (.int x), l2], .int x :: st, M) Q := H_ld rfl rfl rfl rfl rfl
theorem x181_49 : XX X d 181 (49, L, .int (ii q) :: .int (ii p) :: st, M) Q = XX X d 181 (50, L, .int (ii (p * q)) :: st, M) Q := H_mul rfl (by decide) rfl
theorem x181_50 : XX X d 181 (50, L, .int (ii q) :: .int (ii p) :: st, M) Q = XX X d 181 (51, L, .int (ii (p + q)) :: st, M) Q := H_add rfl (by decide) rfl
theorem x181_51 : XX X d 181 (51, [l0, l1, some (.int x)], st, M) Q = XX X d 181 (52, [l0, l1, some (.int x)], .int x :: st, M) Q := H_ld rfl rfl rfl rfl rfl
theorem x181_52 : XX X d 181 (52, L, .int (ii q) :: .int (ii p) :: st, M) Q = XX X d 181 (53, L, .int (ii (p + q)) :: st, M) Q := H_add rfl (by decide) rfl
theorem x181_53 : XX X d 181 (53, L, .int x :: .ref a :: st, M) Q = ya (M.2.2 a) .iaload x X d 181 54 L st M Q := G_ald rfl ⟨⟨rfl, rfl, rfl, by decide⟩, rfl, rfl⟩ rfl rfl
theorem x181_54 (h : 0 ≤ p ∧ p ≤ 65535) : XX X d 181 (54, L, .int (ii p) :: st, M) Q = XX X d 181 (55, L, .int (ii p) :: st, M) Q := H_i2c rfl (by decide) rfl h
theorem x181_55 (h : 0 ≤ p ∧ p ≤ 65535) : XX X d 181 (55, L, [.int (ii p)], M) Q = Q (.inl (some (.int (ii p)))) M := G_ret rfl ⟨⟨⟨rfl, rfl, rfl, by decide⟩, rfl, rfl⟩, rfl, rfl⟩ (cz_ok h)
theorem e181 : CC X d 181 [.ref a, .int x, .int x2] M Q = XX X d 181 (0, [some (.ref a), some (.int x), some (.int x2)], [], M) Q := H_ent rfl rfl
-- 182 X9_groupCount (I)I
theorem x182_0 : XX X d 182 (0, [some (.ref a), l1], st, M) Q = XX X d 182 (1, [some (.ref a), l1], .ref a :: st, M) Q := H_ld rfl rfl rfl rfl rfl
theorem x182_1 : XX X d 182 (1, [l0, some (.int x)], st, M) Q = XX X d 182 (2, [l0, some (.int x)], .int x :: st, M) Q := H_ld rfl rfl rfl rfl rfl
theorem x182_2 {v1 : Value} (hd : 0 < d) (hs : stB st = true) : XX X d 182 (2, L, v1 :: .ref a :: st, M) Q = (mcl M a = some 9 ∧ CC X (d - 1) 173 [.ref a, v1] M (XC X d 182 2 5 L st Q)) := H_virt [v1] rfl (by decide) rfl rfl rfl rfl rfl hd hs
theorem x182_5 (h : -2147483648 ≤ p ∧ p ≤ 2147483647) : XX X d 182 (5, L, .int (ii p) :: st, M) Q = bq (p = 0) X d 182 10 8 L st M Q := H_if rfl ⟨rfl, rfl, rfl, by decide⟩ rfl rfl rfl rfl (D_eq (b := 0) (by omega))
theorem x182_5b : XX X d 182 (5, L, .int (ii (b2i b)) :: st, M) Q = bq (b = false) X d 182 10 8 L st M Q := (x182_5 (b2i_r b)).trans (by rw [b2i_0])
theorem x182_8 : XX X d 182 (8, L, st, M) Q = XX X d 182 (9, L, .int (ii 0) :: st, M) Q := G_cst rfl rfl rfl rfl rfl
theorem x182_9 : XX X d 182 (9, L, [.int (ii p)], M) Q = Q (.inl (some (.int (ii p)))) M := G_ret rfl ⟨⟨⟨rfl, rfl, rfl, by decide⟩, rfl, rfl⟩, rfl, rfl⟩ rfl
theorem x182_10 : XX X d 182 (10, [some (.ref a), l1], st, M) Q = XX X d 182 (11, [some (.ref a), l1], .ref a :: st, M) Q := H_ld rfl rfl rfl rfl rfl
theorem x182_11 : XX X d 182 (11, [l0, some (.int x)], st, M) Q = XX X d 182 (12, [l0, some (.int x)], .int x :: st, M) Q := H_ld rfl rfl rfl rfl rfl
theorem x182_12 {v1 : Value} (hd : 0 < d) (hs : stB st = true) : XX X d 182 (12, L, v1 :: .ref a :: st, M) Q = (mcl M a = some 9 ∧ CC X (d - 1) 164 [.ref a, v1] M (XC X d 182 12 15 L st Q)) := H_virt [v1] rfl (by decide) rfl rfl rfl rfl rfl hd hs
theorem x182_15 : XX X d 182 (15, [some (.ref a), l1], st, M) Q = XX X d 182 (16, [some (.ref a), l1], .ref a :: st, M) Q := H_ld rfl rfl rfl rfl rfl
theorem x182_16 : XX X d 182 (16, L, .ref a :: st, M) Q = yg (M.2.2 a) 9 25 X d 182 19 L st M Q := G_getf rfl (by decide) rfl rfl rfl
theorem x182_19 : XX X d 182 (19, L, [.int (ii p)], M) Q = Q (.inl (some (.int (ii p)))) M := G_ret rfl ⟨⟨⟨rfl, rfl, rfl, by decide⟩, rfl, rfl⟩, rfl, rfl⟩ rfl
theorem e182 : CC X d 182 [.ref a, .int x] M Q = XX X d 182 (0, [some (.ref a), some (.int x)], [], M) Q := H_ent rfl rfl
-- 183 X9_minimumLength (I)I
theorem x183_0 : XX X d 183 (0, [some (.ref a), l1], st, M) Q = XX X d 183 (1, [some (.ref a), l1], .ref a :: st, M) Q := H_ld rfl rfl rfl rfl rfl
theorem x183_1 : XX X d 183 (1, [l0, some (.int x)], st, M) Q = XX X d 183 (2, [l0, some (.int x)], .int x :: st, M) Q := H_ld rfl rfl rfl rfl rfl
theorem x183_2 {v1 : Value} (hd : 0 < d) (hs : stB st = true) : XX X d 183 (2, L, v1 :: .ref a :: st, M) Q = (mcl M a = some 9 ∧ CC X (d - 1) 173 [.ref a, v1] M (XC X d 183 2 5 L st Q)) := H_virt [v1] rfl (by decide) rfl rfl rfl rfl rfl hd hs
theorem x183_5 (h : -2147483648 ≤ p ∧ p ≤ 2147483647) : XX X d 183 (5, L, .int (ii p) :: st, M) Q = bq (p = 0) X d 183 10 8 L st M Q := H_if rfl ⟨rfl, rfl, rfl, by decide⟩ rfl rfl rfl rfl (D_eq (b := 0) (by omega))
theorem x183_5b : XX X d 183 (5, L, .int (ii (b2i b)) :: st, M) Q = bq (b = false) X d 183 10 8 L st M Q := (x183_5 (b2i_r b)).trans (by rw [b2i_0])
theorem x183_8 : XX X d 183 (8, L, st, M) Q = XX X d 183 (9, L, .int (ii 0) :: st, M) Q := G_cst rfl rfl rfl rfl rfl
theorem x183_9 : XX X d 183 (9, L, [.int (ii p)], M) Q = Q (.inl (some (.int (ii p)))) M := G_ret rfl ⟨⟨⟨rfl, rfl, rfl, by decide⟩, rfl, rfl⟩, rfl, rfl⟩ rfl
theorem x183_10 : XX X d 183 (10, [some (.ref a), l1], st, M) Q = XX X d 183 (11, [some (.ref a), l1], .ref a :: st, M) Q := H_ld rfl rfl rfl rfl rfl
theorem x183_11 : XX X d 183 (11, [l0, some (.int x)], st, M) Q = XX X d 183 (12, [l0, some (.int x)], .int x :: st, M) Q := H_ld rfl rfl rfl rfl rfl
theorem x183_12 {v1 : Value} (hd : 0 < d) (hs : stB st = true) : XX X d 183 (12, L, v1 :: .ref a :: st, M) Q = (mcl M a = some 9 ∧ CC X (d - 1) 164 [.ref a, v1] M (XC X d 183 12 15 L st Q)) := H_virt [v1] rfl (by decide) rfl rfl rfl rfl rfl hd hs
theorem x183_15 : XX X d 183 (15, [some (.ref a), l1], st, M) Q = XX X d 183 (16, [some (.ref a), l1], .ref a :: st, M) Q := H_ld rfl rfl rfl rfl rfl
theorem x183_16 : XX X d 183 (16, L, .ref a :: st, M) Q = yg (M.2.2 a) 9 22 X d 183 19 L st M Q := G_getf rfl (by decide) rfl rfl rfl
theorem x183_19 : XX X d 183 (19, [some (.ref a), l1], st, M) Q = XX X d 183 (20, [some (.ref a), l1], .ref a :: st, M) Q := H_ld rfl rfl rfl rfl rfl
theorem x183_20 : XX X d 183 (20, L, .ref a :: st, M) Q = yg (M.2.2 a) 9 24 X d 183 23 L st M Q := G_getf rfl (by decide) rfl rfl rfl
theorem x183_23 : XX X d 183 (23, L, st, M) Q = XX X d 183 (24, L, .int (ii 1) :: st, M) Q := G_cst rfl rfl rfl rfl rfl
theorem x183_24 : XX X d 183 (24, L, .int (ii q) :: .int (ii p) :: st, M) Q = XX X d 183 (25, L, .int (ii (p - q)) :: st, M) Q := H_sub rfl (by decide) rfl
theorem x183_25 : XX X d 183 (25, L, .int x :: .ref a :: st, M) Q = ya (M.2.2 a) .iaload x X d 183 26 L st M Q := G_ald rfl ⟨⟨rfl, rfl, rfl, by decide⟩, rfl, rfl⟩ rfl rfl
theorem x183_26 : XX X d 183 (26, L, [.int (ii p)], M) Q = Q (.inl (some (.int (ii p)))) M := G_ret rfl ⟨⟨⟨rfl, rfl, rfl, by decide⟩, rfl, rfl⟩, rfl, rfl⟩ rfl
theorem e183 : CC X d 183 [.ref a, .int x] M Q = XX X d 183 (0, [some (.ref a), some (.int x)], [], M) Q := H_ent rfl rfl
-- 184 X9_maximumLength (I)I
theorem x184_0 : XX X d 184 (0, [some (.ref a), l1], st, M) Q = XX X d 184 (1, [some (.ref a), l1], .ref a :: st, M) Q := H_ld rfl rfl rfl rfl rfl
theorem x184_1 : XX X d 184 (1, [l0, some (.int x)], st, M) Q = XX X d 184 (2, [l0, some (.int x)], .int x :: st, M) Q := H_ld rfl rfl rfl rfl rfl
theorem x184_2 {v1 : Value} (hd : 0 < d) (hs : stB st = true) : XX X d 184 (2, L, v1 :: .ref a :: st, M) Q = (mcl M a = some 9 ∧ CC X (d - 1) 173 [.ref a, v1] M (XC X d 184 2 5 L st Q)) := H_virt [v1] rfl (by decide) rfl rfl rfl rfl rfl hd hs
theorem x184_5 (h : -2147483648 ≤ p ∧ p ≤ 2147483647) : XX X d 184 (5, L, .int (ii p) :: st, M) Q = bq (p = 0) X d 184 10 8 L st M Q := H_if rfl ⟨rfl, rfl, rfl, by decide⟩ rfl rfl rfl rfl (D_eq (b := 0) (by omega))
theorem x184_5b : XX X d 184 (5, L, .int (ii (b2i b)) :: st, M) Q = bq (b = false) X d 184 10 8 L st M Q := (x184_5 (b2i_r b)).trans (by rw [b2i_0])
theorem x184_8 : XX X d 184 (8, L, st, M) Q = XX X d 184 (9, L, .int (ii 0) :: st, M) Q := G_cst rfl rfl rfl rfl rfl
theorem x184_9 : XX X d 184 (9, L, [.int (ii p)], M) Q = Q (.inl (some (.int (ii p)))) M := G_ret rfl ⟨⟨⟨rfl, rfl, rfl, by decide⟩, rfl, rfl⟩, rfl, rfl⟩ rfl
theorem x184_10 : XX X d 184 (10, [some (.ref a), l1], st, M) Q = XX X d 184 (11, [some (.ref a), l1], .ref a :: st, M) Q := H_ld rfl rfl rfl rfl rfl
theorem x184_11 : XX X d 184 (11, [l0, some (.int x)], st, M) Q = XX X d 184 (12, [l0, some (.int x)], .int x :: st, M) Q := H_ld rfl rfl rfl rfl rfl
theorem x184_12 {v1 : Value} (hd : 0 < d) (hs : stB st = true) : XX X d 184 (12, L, v1 :: .ref a :: st, M) Q = (mcl M a = some 9 ∧ CC X (d - 1) 164 [.ref a, v1] M (XC X d 184 12 15 L st Q)) := H_virt [v1] rfl (by decide) rfl rfl rfl rfl rfl hd hs
theorem x184_15 : XX X d 184 (15, [some (.ref a), l1], st, M) Q = XX X d 184 (16, [some (.ref a), l1], .ref a :: st, M) Q := H_ld rfl rfl rfl rfl rfl
theorem x184_16 : XX X d 184 (16, [some (.ref a), l1], st, M) Q = XX X d 184 (17, [some (.ref a), l1], .ref a :: st, M) Q := H_ld rfl rfl rfl rfl rfl
theorem x184_17 : XX X d 184 (17, L, .ref a :: st, M) Q = yg (M.2.2 a) 9 23 X d 184 20 L st M Q := G_getf rfl (by decide) rfl rfl rfl
theorem x184_20 : XX X d 184 (20, [some (.ref a), l1], st, M) Q = XX X d 184 (21, [some (.ref a), l1], .ref a :: st, M) Q := H_ld rfl rfl rfl rfl rfl
theorem x184_21 : XX X d 184 (21, L, .ref a :: st, M) Q = yg (M.2.2 a) 9 24 X d 184 24 L st M Q := G_getf rfl (by decide) rfl rfl rfl
theorem x184_24 : XX X d 184 (24, L, st, M) Q = XX X d 184 (25, L, .int (ii 1) :: st, M) Q := G_cst rfl rfl rfl rfl rfl
theorem x184_25 : XX X d 184 (25, L, .int (ii q) :: .int (ii p) :: st, M) Q = XX X d 184 (26, L, .int (ii (p - q)) :: st, M) Q := H_sub rfl (by decide) rfl
theorem x184_26 : XX X d 184 (26, L, .int x :: .ref a :: st, M) Q = ya (M.2.2 a) .iaload x X d 184 27 L st M Q := G_ald rfl ⟨⟨rfl, rfl, rfl, by decide⟩, rfl, rfl⟩ rfl rfl
theorem x184_27 : XX X d 184 (27, L, st, M) Q = XX X d 184 (29, L, .int (ii 1000000) :: st, M) Q := G_cst rfl rfl rfl rfl rfl
theorem x184_29 (h : -2147483648 ≤ p ∧ p ≤ 2147483647 ∧ -2147483648 ≤ q ∧ q ≤ 2147483647) : XX X d 184 (29, L, .int (ii q) :: .int (ii p) :: st, M) Q = bq (p ≠ q) X d 184 36 32 L st M Q := H_if2 rfl ⟨rfl, rfl, rfl, by decide⟩ rfl rfl rfl rfl (D_ne h)
theorem x184_32 : XX X d 184 (32, L, st, M) Q = XX X d 184 (33, L, .int (ii 2) :: st, M) Q := G_cst rfl rfl rfl rfl rfl
theorem x184_33 : XX X d 184 (33, L, st, M) Q = XX X d 184 (37, L, st, M) Q := H_jmp rfl (by decide) rfl
theorem x184_36 : XX X d 184 (36, L, st, M) Q = XX X d 184 (37, L, .int (ii 0) :: st, M) Q := G_cst rfl rfl rfl rfl rfl
theorem x184_37 {v1 : Value} (hd : 0 < d) (hs : stB st = true) : XX X d 184 (37, L, v1 :: .ref a :: st, M) Q = (mcl M a = some 9 ∧ CC X (d - 1) 144 [.ref a, v1] M (XC X d 184 37 40 L st Q)) := H_virt [v1] rfl (by decide) rfl rfl rfl rfl rfl hd hs
theorem x184_40 (h : -2147483648 ≤ p ∧ p ≤ 2147483647) : XX X d 184 (40, L, .int (ii p) :: st, M) Q = bq (p = 0) X d 184 47 43 L st M Q := H_if rfl ⟨rfl, rfl, rfl, by decide⟩ rfl rfl rfl rfl (D_eq (b := 0) (by omega))
theorem x184_40b : XX X d 184 (40, L, .int (ii (b2i b)) :: st, M) Q = bq (b = false) X d 184 47 43 L st M Q := (x184_40 (b2i_r b)).trans (by rw [b2i_0])
theorem x184_43 : XX X d 184 (43, L, st, M) Q = XX X d 184 (44, L, .int (ii 0) :: st, M) Q := G_cst rfl rfl rfl rfl rfl
theorem x184_44 : XX X d 184 (44, L, st, M) Q = XX X d 184 (58, L, st, M) Q := H_jmp rfl (by decide) rfl
theorem x184_47 : XX X d 184 (47, [some (.ref a), l1], st, M) Q = XX X d 184 (48, [some (.ref a), l1], .ref a :: st, M) Q := H_ld rfl rfl rfl rfl rfl
theorem x184_48 : XX X d 184 (48, L, .ref a :: st, M) Q = yg (M.2.2 a) 9 23 X d 184 51 L st M Q := G_getf rfl (by decide) rfl rfl rfl
theorem x184_51 : XX X d 184 (51, [some (.ref a), l1], st, M) Q = XX X d 184 (52, [some (.ref a), l1], .ref a :: st, M) Q := H_ld rfl rfl rfl rfl rfl
theorem x184_52 : XX X d 184 (52, L, .ref a :: st, M) Q = yg (M.2.2 a) 9 24 X d 184 55 L st M Q := G_getf rfl (by decide) rfl rfl rfl
theorem x184_55 : XX X d 184 (55, L, st, M) Q = XX X d 184 (56, L, .int (ii 1) :: st, M) Q := G_cst rfl rfl rfl rfl rfl
theorem x184_56 : XX X d 184 (56, L, .int (ii q) :: .int (ii p) :: st, M) Q = XX X d 184 (57, L, .int (ii (p - q)) :: st, M) Q := H_sub rfl (by decide) rfl
theorem x184_57 : XX X d 184 (57, L, .int x :: .ref a :: st, M) Q = ya (M.2.2 a) .iaload x X d 184 58 L st M Q := G_ald rfl ⟨⟨rfl, rfl, rfl, by decide⟩, rfl, rfl⟩ rfl rfl
theorem x184_58 : XX X d 184 (58, L, [.int (ii p)], M) Q = Q (.inl (some (.int (ii p)))) M := G_ret rfl ⟨⟨⟨rfl, rfl, rfl, by decide⟩, rfl, rfl⟩, rfl, rfl⟩ rfl
theorem e184 : CC X d 184 [.ref a, .int x] M Q = XX X d 184 (0, [some (.ref a), some (.int x)], [], M) Q := H_ent rfl rfl
-- 185 X9_faultPosition ()I
theorem x185_0 : XX X d 185 (0, [some (.ref a)], st, M) Q = XX X d 185 (1, [some (.ref a)], .ref a :: st, M) Q := H_ld rfl rfl rfl rfl rfl
theorem x185_1 : XX X d 185 (1, [some (.ref a)], st, M) Q = XX X d 185 (2, [some (.ref a)], .ref a :: st, M) Q := H_ld rfl rfl rfl rfl rfl
theorem x185_2 : XX X d 185 (2, L, .ref a :: st, M) Q = yg (M.2.2 a) 9 10 X d 185 5 L st M Q := G_getf rfl (by decide) rfl rfl rfl
theorem x185_5 (h : -2147483648 ≤ p ∧ p ≤ 2147483647) : XX X d 185 (5, L, .int (ii p) :: st, M) Q = bq (0 ≤ p) X d 185 12 8 L st M Q := H_if rfl ⟨rfl, rfl, rfl, by decide⟩ rfl rfl rfl rfl (D_le (b := 0) (by omega))
theorem x185_8 : XX X d 185 (8, L, st, M) Q = XX X d 185 (9, L, .int (ii 1) :: st, M) Q := G_cst rfl rfl rfl rfl rfl
theorem x185_9 : XX X d 185 (9, L, st, M) Q = XX X d 185 (13, L, st, M) Q := H_jmp rfl (by decide) rfl
theorem x185_12 : XX X d 185 (12, L, st, M) Q = XX X d 185 (13, L, .int (ii 0) :: st, M) Q := G_cst rfl rfl rfl rfl rfl
theorem x185_13 {v1 : Value} (hd : 0 < d) (hs : stB st = true) : XX X d 185 (13, L, v1 :: .ref a :: st, M) Q = (mcl M a = some 9 ∧ CC X (d - 1) 144 [.ref a, v1] M (XC X d 185 13 16 L st Q)) := H_virt [v1] rfl (by decide) rfl rfl rfl rfl rfl hd hs
theorem x185_16 (h : -2147483648 ≤ p ∧ p ≤ 2147483647) : XX X d 185 (16, L, .int (ii p) :: st, M) Q = bq (p = 0) X d 185 23 19 L st M Q := H_if rfl ⟨rfl, rfl, rfl, by decide⟩ rfl rfl rfl rfl (D_eq (b := 0) (by omega))
theorem x185_16b : XX X d 185 (16, L, .int (ii (b2i b)) :: st, M) Q = bq (b = false) X d 185 23 19 L st M Q := (x185_16 (b2i_r b)).trans (by rw [b2i_0])
theorem x185_19 : XX X d 185 (19, L, st, M) Q = XX X d 185 (20, L, .int (ii 0) :: st, M) Q := G_cst rfl rfl rfl rfl rfl
theorem x185_20 : XX X d 185 (20, L, st, M) Q = XX X d 185 (27, L, st, M) Q := H_jmp rfl (by decide) rfl
theorem x185_23 : XX X d 185 (23, [some (.ref a)], st, M) Q = XX X d 185 (24, [some (.ref a)], .ref a :: st, M) Q := H_ld rfl rfl rfl rfl rfl
theorem x185_24 : XX X d 185 (24, L, .ref a :: st, M) Q = yg (M.2.2 a) 9 10 X d 185 27 L st M Q := G_getf rfl (by decide) rfl rfl rfl
theorem x185_27 : XX X d 185 (27, L, [.int (ii p)], M) Q = Q (.inl (some (.int (ii p)))) M := G_ret rfl ⟨⟨⟨rfl, rfl, rfl, by decide⟩, rfl, rfl⟩, rfl, rfl⟩ rfl
theorem e185 : CC X d 185 [.ref a] M Q = XX X d 185 (0, [some (.ref a)], [], M) Q := H_ent rfl rfl
-- 186 X9_faultKind ()I
theorem x186_0 : XX X d 186 (0, [some (.ref a)], st, M) Q = XX X d 186 (1, [some (.ref a)], .ref a :: st, M) Q := H_ld rfl rfl rfl rfl rfl
theorem x186_1 : XX X d 186 (1, [some (.ref a)], st, M) Q = XX X d 186 (2, [some (.ref a)], .ref a :: st, M) Q := H_ld rfl rfl rfl rfl rfl
theorem x186_2 : XX X d 186 (2, L, .ref a :: st, M) Q = yg (M.2.2 a) 9 10 X d 186 5 L st M Q := G_getf rfl (by decide) rfl rfl rfl
theorem x186_5 (h : -2147483648 ≤ p ∧ p ≤ 2147483647) : XX X d 186 (5, L, .int (ii p) :: st, M) Q = bq (0 ≤ p) X d 186 12 8 L st M Q := H_if rfl ⟨rfl, rfl, rfl, by decide⟩ rfl rfl rfl rfl (D_le (b := 0) (by omega))
theorem x186_8 : XX X d 186 (8, L, st, M) Q = XX X d 186 (9, L, .int (ii 1) :: st, M) Q := G_cst rfl rfl rfl rfl rfl
theorem x186_9 : XX X d 186 (9, L, st, M) Q = XX X d 186 (13, L, st, M) Q := H_jmp rfl (by decide) rfl
theorem x186_12 : XX X d 186 (12, L, st, M) Q = XX X d 186 (13, L, .int (ii 0) :: st, M) Q := G_cst rfl rfl rfl rfl rfl
theorem x186_13 {v1 : Value} (hd : 0 < d) (hs : stB st = true) : XX X d 186 (13, L, v1 :: .ref a :: st, M) Q = (mcl M a = some 9 ∧ CC X (d - 1) 144 [.ref a, v1] M (XC X d 186 13 16 L st Q)) := H_virt [v1] rfl (by decide) rfl rfl rfl rfl rfl hd hs
theorem x186_16 (h : -2147483648 ≤ p ∧ p ≤ 2147483647) : XX X d 186 (16, L, .int (ii p) :: st, M) Q = bq (p = 0) X d 186 23 19 L st M Q := H_if rfl ⟨rfl, rfl, rfl, by decide⟩ rfl rfl rfl rfl (D_eq (b := 0) (by omega))
theorem x186_16b : XX X d 186 (16, L, .int (ii (b2i b)) :: st, M) Q = bq (b = false) X d 186 23 19 L st M Q := (x186_16 (b2i_r b)).trans (by rw [b2i_0])
theorem x186_19 : XX X d 186 (19, L, st, M) Q = XX X d 186 (20, L, .int (ii 0) :: st, M) Q := G_cst rfl rfl rfl rfl rfl
theorem x186_20 : XX X d 186 (20, L, st, M) Q = XX X d 186 (27, L, st, M) Q := H_jmp rfl (by decide) rfl
theorem x186_23 : XX X d 186 (23, [some (.ref a)], st, M) Q = XX X d 186 (24, [some (.ref a)], .ref a :: st, M) Q := H_ld rfl rfl rfl rfl rfl
theorem x186_24 : XX X d 186 (24, L, .ref a :: st, M) Q = yg (M.2.2 a) 9 11 X d 186 27 L st M Q := G_getf rfl (by decide) rfl rfl rfl
theorem x186_27 : XX X d 186 (27, L, [.int (ii p)], M) Q = Q (.inl (some (.int (ii p)))) M := G_ret rfl ⟨⟨⟨rfl, rfl, rfl, by decide⟩, rfl, rfl⟩, rfl, rfl⟩ rfl
theorem e186 : CC X d 186 [.ref a] M Q = XX X d 186 (0, [some (.ref a)], [], M) Q := H_ent rfl rfl
-- 187 X9_faultDepth ()I
theorem x187_0 : XX X d 187 (0, [some (.ref a)], st, M) Q = XX X d 187 (1, [some (.ref a)], .ref a :: st, M) Q := H_ld rfl rfl rfl rfl rfl
theorem x187_1 : XX X d 187 (1, [some (.ref a)], st, M) Q = XX X d 187 (2, [some (.ref a)], .ref a :: st, M) Q := H_ld rfl rfl rfl rfl rfl
theorem x187_2 : XX X d 187 (2, L, .ref a :: st, M) Q = yg (M.2.2 a) 9 10 X d 187 5 L st M Q := G_getf rfl (by decide) rfl rfl rfl
theorem x187_5 (h : -2147483648 ≤ p ∧ p ≤ 2147483647) : XX X d 187 (5, L, .int (ii p) :: st, M) Q = bq (0 ≤ p) X d 187 12 8 L st M Q := H_if rfl ⟨rfl, rfl, rfl, by decide⟩ rfl rfl rfl rfl (D_le (b := 0) (by omega))
theorem x187_8 : XX X d 187 (8, L, st, M) Q = XX X d 187 (9, L, .int (ii 1) :: st, M) Q := G_cst rfl rfl rfl rfl rfl
theorem x187_9 : XX X d 187 (9, L, st, M) Q = XX X d 187 (13, L, st, M) Q := H_jmp rfl (by decide) rfl
theorem x187_12 : XX X d 187 (12, L, st, M) Q = XX X d 187 (13, L, .int (ii 0) :: st, M) Q := G_cst rfl rfl rfl rfl rfl
theorem x187_13 {v1 : Value} (hd : 0 < d) (hs : stB st = true) : XX X d 187 (13, L, v1 :: .ref a :: st, M) Q = (mcl M a = some 9 ∧ CC X (d - 1) 144 [.ref a, v1] M (XC X d 187 13 16 L st Q)) := H_virt [v1] rfl (by decide) rfl rfl rfl rfl rfl hd hs
theorem x187_16 (h : -2147483648 ≤ p ∧ p ≤ 2147483647) : XX X d 187 (16, L, .int (ii p) :: st, M) Q = bq (p = 0) X d 187 23 19 L st M Q := H_if rfl ⟨rfl, rfl, rfl, by decide⟩ rfl rfl rfl rfl (D_eq (b := 0) (by omega))
theorem x187_16b : XX X d 187 (16, L, .int (ii (b2i b)) :: st, M) Q = bq (b = false) X d 187 23 19 L st M Q := (x187_16 (b2i_r b)).trans (by rw [b2i_0])
theorem x187_19 : XX X d 187 (19, L, st, M) Q = XX X d 187 (20, L, .int (ii 0) :: st, M) Q := G_cst rfl rfl rfl rfl rfl
theorem x187_20 : XX X d 187 (20, L, st, M) Q = XX X d 187 (27, L, st, M) Q := H_jmp rfl (by decide) rfl
theorem x187_23 : XX X d 187 (23, [some (.ref a)], st, M) Q = XX X d 187 (24, [some (.ref a)], .ref a :: st, M) Q := H_ld rfl rfl rfl rfl rfl
theorem x187_24 : XX X d 187 (24, L, .ref a :: st, M) Q = yg (M.2.2 a) 9 12 X d 187 27 L st M Q := G_getf rfl (by decide) rfl rfl rfl
theorem x187_27 : XX X d 187 (27, L, [.int (ii p)], M) Q = Q (.inl (some (.int (ii p)))) M := G_ret rfl ⟨⟨⟨rfl, rfl, rfl, by decide⟩, rfl, rfl⟩, rfl, rfl⟩ rfl
theorem e187 : CC X d 187 [.ref a] M Q = XX X d 187 (0, [some (.ref a)], [], M) Q := H_ent rfl rfl
-- 188 X9_isPlain (I)Z
theorem x188_0 : XX X d 188 (0, [some (.int x)], st, M) Q = XX X d 188 (1, [some (.int x)], .int x :: st, M) Q := H_ld rfl rfl rfl rfl rfl
theorem x188_1 : XX X d 188 (1, L, st, M) Q = XX X d 188 (3, L, .int (ii 32) :: st, M) Q := G_cst rfl rfl rfl rfl rfl
theorem x188_3 : XX X d 188 (3, L, st, M) Q = XX X d 188 (5, L, .int (ii 126) :: st, M) Q := G_cst rfl rfl rfl rfl rfl
theorem x188_5 {v1 v2 v3 : Value} (hd : 0 < d) (hs : stB st = true) : XX X d 188 (5, L, v3 :: v2 :: v1 :: st, M) Q = CC X (d - 1) 145 [v1, v2, v3] M (XC X d 188 5 8 L st Q) := H_static [v1, v2, v3] rfl (by decide) rfl rfl (by decide) rfl rfl hd hs
theorem x188_8 (h : p = 0 ∨ p = 1) : XX X d 188 (8, L, [.int (ii p)], M) Q = Q (.inl (some (.int (ii p)))) M := G_ret rfl ⟨⟨⟨rfl, rfl, rfl, by decide⟩, rfl, rfl⟩, rfl, rfl⟩ (bz_ok h)
theorem e188 : CC X d 188 [.int x] M Q = XX X d 188 (0, [some (.int x)], [], M) Q := H_ent rfl rfl
-- 189 X9_typeText (C)I
theorem x189_0 : XX X d 189 (0, [some (.ref a), l1], st, M) Q = XX X d 189 (1, [some (.ref a), l1], .ref a :: st, M) Q := H_ld rfl rfl rfl rfl rfl
theorem x189_1 : XX X d 189 (1, [l0, some (.int x)], st, M) Q = XX X d 189 (2, [l0, some (.int x)], .int x :: st, M) Q := H_ld rfl rfl rfl rfl rfl
theorem x189_2 {v1 : Value} (hd : 0 < d) (hs : stB st = true) : XX X d 189 (2, L, v1 :: st, M) Q = CC X (d - 1) 188 [v1] M (XC X d 189 2 5 L st Q) := H_static [v1] rfl (by decide) rfl rfl (by decide) rfl rfl hd hs
theorem x189_5 (h : -2147483648 ≤ p ∧ p ≤ 2147483647) : XX X d 189 (5, L, .int (ii p) :: st, M) Q = bq (p ≠ 0) X d 189 12 8 L st M Q := H_if rfl ⟨rfl, rfl, rfl, by decide⟩ rfl rfl rfl rfl (D_ne (b := 0) (by omega))
theorem x189_5b : XX X d 189 (5, L, .int (ii (b2i b)) :: st, M) Q = bq (b = true) X d 189 12 8 L st M Q := (x189_5 (b2i_r b)).trans (by rw [b2i_n0])
theorem x189_8 : XX X d 189 (8, L, st, M) Q = XX X d 189 (9, L, .int (ii 1) :: st, M) Q := G_cst rfl rfl rfl rfl rfl
theorem x189_9 : XX X d 189 (9, L, st, M) Q = XX X d 189 (26, L, st, M) Q := H_jmp rfl (by decide) rfl
theorem x189_12 : XX X d 189 (12, [some (.ref a), l1], st, M) Q = XX X d 189 (13, [some (.ref a), l1], .ref a :: st, M) Q := H_ld rfl rfl rfl rfl rfl
theorem x189_13 : XX X d 189 (13, L, .ref a :: st, M) Q = yg (M.2.2 a) 9 9 X d 189 16 L st M Q := G_getf rfl (by decide) rfl rfl rfl
theorem x189_16 : XX X d 189 (16, L, st, M) Q = XX X d 189 (18, L, .int (ii 40) :: st, M) Q := G_cst rfl rfl rfl rfl rfl
theorem x189_18 (h : -2147483648 ≤ p ∧ p ≤ 2147483647 ∧ -2147483648 ≤ q ∧ q ≤ 2147483647) : XX X d 189 (18, L, .int (ii q) :: .int (ii p) :: st, M) Q = bq (p ≠ q) X d 189 25 21 L st M Q := H_if2 rfl ⟨rfl, rfl, rfl, by decide⟩ rfl rfl rfl rfl (D_ne h)
theorem x189_21 : XX X d 189 (21, L, st, M) Q = XX X d 189 (22, L, .int (ii 2) :: st, M) Q := G_cst rfl rfl rfl rfl rfl
theorem x189_22 : XX X d 189 (22, L, st, M) Q = XX X d 189 (26, L, st, M) Q := H_jmp rfl (by decide) rfl
theorem x189_25 : XX X d 189 (25, L, st, M) Q = XX X d 189 (26, L, .int (ii 0) :: st, M) Q := G_cst rfl rfl rfl rfl rfl
theorem x189_26 {v1 : Value} (hd : 0 < d) (hs : stB st = true) : XX X d 189 (26, L, v1 :: .ref a :: st, M) Q = (mcl M a = some 9 ∧ CC X (d - 1) 144 [.ref a, v1] M (XC X d 189 26 29 L st Q)) := H_virt [v1] rfl (by decide) rfl rfl rfl rfl rfl hd hs
theorem x189_29 (h : -2147483648 ≤ p ∧ p ≤ 2147483647) : XX X d 189 (29, L, .int (ii p) :: st, M) Q = bq (p = 0) X d 189 34 32 L st M Q := H_if rfl ⟨rfl, rfl, rfl, by decide⟩ rfl rfl rfl rfl (D_eq (b := 0) (by omega))
theorem x189_29b : XX X d 189 (29, L, .int (ii (b2i b)) :: st, M) Q = bq (b = false) X d 189 34 32 L st M Q := (x189_29 (b2i_r b)).trans (by rw [b2i_0])
theorem x189_32 : XX X d 189 (32, L, st, M) Q = XX X d 189 (33, L, .int (ii 0) :: st, M) Q := G_cst rfl rfl rfl rfl rfl
theorem x189_33 : XX X d 189 (33, L, [.int (ii p)], M) Q = Q (.inl (some (.int (ii p)))) M := G_ret rfl ⟨⟨⟨rfl, rfl, rfl, by decide⟩, rfl, rfl⟩, rfl, rfl⟩ rfl
theorem x189_34 : XX X d 189 (34, [some (.ref a), l1], st, M) Q = XX X d 189 (35, [some (.ref a), l1], .ref a :: st, M) Q := H_ld rfl rfl rfl rfl rfl
theorem x189_35 : XX X d 189 (35, L, .ref a :: st, M) Q = yg (M.2.2 a) 9 8 X d 189 38 L st M Q := G_getf rfl (by decide) rfl rfl rfl
theorem x189_38 : XX X d 189 (38, [some (.ref a), l1], st, M) Q = XX X d 189 (39, [some (.ref a), l1], .ref a :: st, M) Q := H_ld rfl rfl rfl rfl rfl
theorem x189_39 : XX X d 189 (39, L, .ref a :: st, M) Q = yg (M.2.2 a) 9 9 X d 189 42 L st M Q := G_getf rfl (by decide) rfl rfl rfl
theorem x189_42 : XX X d 189 (42, [l0, some (.int x)], st, M) Q = XX X d 189 (43, [l0, some (.int x)], .int x :: st, M) Q := H_ld rfl rfl rfl rfl rfl
theorem x189_43 : XX X d 189 (43, L, v :: .int x :: .ref a :: st, M) Q = yw (M.2.2 a) a .iastore v x X d 189 44 L st M Q := G_ast rfl ⟨⟨rfl, rfl, rfl, by decide⟩, rfl, rfl⟩ rfl rfl rfl
theorem x189_44 : XX X d 189 (44, [some (.ref a), l1], st, M) Q = XX X d 189 (45, [some (.ref a), l1], .ref a :: st, M) Q := H_ld rfl rfl rfl rfl rfl
theorem x189_45 (h : v.category = 1) : XX X d 189 (45, L, v :: st, M) Q = XX X d 189 (46, L, v :: v :: st, M) Q := G_sop rfl ⟨rfl, rfl, rfl, by decide⟩ (if_pos h) rfl
theorem x189_46 : XX X d 189 (46, L, .ref a :: st, M) Q = yg (M.2.2 a) 9 9 X d 189 49 L st M Q := G_getf rfl (by decide) rfl rfl rfl
theorem x189_49 : XX X d 189 (49, L, st, M) Q = XX X d 189 (50, L, .int (ii 1) :: st, M) Q := G_cst rfl rfl rfl rfl rfl
theorem x189_50 : XX X d 189 (50, L, .int (ii q) :: .int (ii p) :: st, M) Q = XX X d 189 (51, L, .int (ii (p + q)) :: st, M) Q := H_add rfl (by decide) rfl
theorem x189_51 : XX X d 189 (51, L, v :: .ref a :: st, M) Q = yp (M.2.2 a) a 9 9 v X d 189 54 L st M Q := G_putf rfl (by decide) rfl rfl rfl
theorem x189_54 : XX X d 189 (54, [some (.ref a), l1], st, M) Q = XX X d 189 (55, [some (.ref a), l1], .ref a :: st, M) Q := H_ld rfl rfl rfl rfl rfl
theorem x189_55 : XX X d 189 (55, L, .ref a :: st, M) Q = yg (M.2.2 a) 9 9 X d 189 58 L st M Q := G_getf rfl (by decide) rfl rfl rfl
theorem x189_58 : XX X d 189 (58, L, [.int (ii p)], M) Q = Q (.inl (some (.int (ii p)))) M := G_ret rfl ⟨⟨⟨rfl, rfl, rfl, by decide⟩, rfl, rfl⟩, rfl, rfl⟩ rfl
theorem e189 : CC X d 189 [.ref a, .int x] M Q = XX X d 189 (0, [some (.ref a), some (.int x)], [], M) Q := H_ent rfl rfl
-- 190 X9_setText ()I
theorem x190_0 : XX X d 190 (0, [some (.ref a), l1], st, M) Q = XX X d 190 (1, [some (.ref a), l1], .ref a :: st, M) Q := H_ld rfl rfl rfl rfl rfl
theorem x190_1 (hd : 0 < d) (hs : stB st = true) : XX X d 190 (1, L, .ref a :: st, M) Q = (mcl M a = some 9 ∧ CC X (d - 1) 149 [.ref a] M (XC X d 190 1 4 L st Q)) := H_virt [] rfl (by decide) rfl rfl rfl rfl rfl hd hs
theorem x190_4 : XX X d 190 (4, [some (.ref a), l1], st, M) Q = XX X d 190 (5, [some (.ref a), l1], .ref a :: st, M) Q := H_ld rfl rfl rfl rfl rfl
theorem x190_5 : XX X d 190 (5, L, .ref a :: st, M) Q = yg (M.2.2 a) 9 0 X d 190 8 L st M Q := G_getf rfl (by decide) rfl rfl rfl
theorem x190_8 : XX X d 190 (8, L, st, M) Q = XX X d 190 (10, L, .int (ii 125) :: st, M) Q := G_cst rfl rfl rfl rfl rfl
theorem x190_10 : XX X d 190 (10, [some (.ref a), l1], st, M) Q = XX X d 190 (11, [some (.ref a), l1], .ref a :: st, M) Q := H_ld rfl rfl rfl rfl rfl
theorem x190_11 : XX X d 190 (11, L, .ref a :: st, M) Q = yg (M.2.2 a) 9 9 X d 190 14 L st M Q := G_getf rfl (by decide) rfl rfl rfl
theorem x190_14 : XX X d 190 (14, L, v :: .int x :: .ref a :: st, M) Q = yw (M.2.2 a) a .iastore v x X d 190 15 L st M Q := G_ast rfl ⟨⟨rfl, rfl, rfl, by decide⟩, rfl, rfl⟩ rfl rfl rfl
theorem x190_15 : XX X d 190 (15, L, st, M) Q = XX X d 190 (16, L, .int (ii 0) :: st, M) Q := G_cst rfl rfl rfl rfl rfl
theorem x190_16 (h : wide (some l0) = false) : XX X d 190 (16, [l0, l1], .int x :: st, M) Q = XX X d 190 (17, [l0, some (.int x)], st, M) Q := H_st rfl rfl rfl rfl rfl rfl rfl rfl (Or.inr h)
theorem x190_17 : XX X d 190 (17, [l0, some (.int x)], st, M) Q = XX X d 190 (18, [l0, some (.int x)], .int x :: st, M) Q := H_ld rfl rfl rfl rfl rfl
theorem x190_18 : XX X d 190 (18, L, st, M) Q = XX X d 190 (20, L, .int (ii 40) :: st, M) Q := G_cst rfl rfl rfl rfl rfl
theorem x190_20 (h : -2147483648 ≤ p ∧ p ≤ 2147483647 ∧ -2147483648 ≤ q ∧ q ≤ 2147483647) : XX X d 190 (20, L, .int (ii q) :: .int (ii p) :: st, M) Q = bq (q ≤ p) X d 190 56 23 L st M Q := H_if2 rfl ⟨rfl, rfl, rfl, by decide⟩ rfl rfl rfl rfl (D_le h)
theorem x190_23 : XX X d 190 (23, [some (.ref a), l1], st, M) Q = XX X d 190 (24, [some (.ref a), l1], .ref a :: st, M) Q := H_ld rfl rfl rfl rfl rfl
theorem x190_24 : XX X d 190 (24, L, .ref a :: st, M) Q = yg (M.2.2 a) 9 0 X d 190 27 L st M Q := G_getf rfl (by decide) rfl rfl rfl
theorem x190_27 : XX X d 190 (27, L, st, M) Q = XX X d 190 (29, L, .int (ii 126) :: st, M) Q := G_cst rfl rfl rfl rfl rfl
theorem x190_29 : XX X d 190 (29, [l0, some (.int x)], st, M) Q = XX X d 190 (30, [l0, some (.int x)], .int x :: st, M) Q := H_ld rfl rfl rfl rfl rfl
theorem x190_30 : XX X d 190 (30, L, .int (ii q) :: .int (ii p) :: st, M) Q = XX X d 190 (31, L, .int (ii (p + q)) :: st, M) Q := H_add rfl (by decide) rfl
theorem x190_31 : XX X d 190 (31, [l0, some (.int x)], st, M) Q = XX X d 190 (32, [l0, some (.int x)], .int x :: st, M) Q := H_ld rfl rfl rfl rfl rfl
theorem x190_32 : XX X d 190 (32, [some (.ref a), l1], st, M) Q = XX X d 190 (33, [some (.ref a), l1], .ref a :: st, M) Q := H_ld rfl rfl rfl rfl rfl
theorem x190_33 : XX X d 190 (33, L, .ref a :: st, M) Q = yg (M.2.2 a) 9 9 X d 190 36 L st M Q := G_getf rfl (by decide) rfl rfl rfl
theorem x190_36 (h : -2147483648 ≤ p ∧ p ≤ 2147483647 ∧ -2147483648 ≤ q ∧ q ≤ 2147483647) : XX X d 190 (36, L, .int (ii q) :: .int (ii p) :: st, M) Q = bq (q ≤ p) X d 190 48 39 L st M Q := H_if2 rfl ⟨rfl, rfl, rfl, by decide⟩ rfl rfl rfl rfl (D_le h)
theorem x190_39 : XX X d 190 (39, [some (.ref a), l1], st, M) Q = XX X d 190 (40, [some (.ref a), l1], .ref a :: st, M) Q := H_ld rfl rfl rfl rfl rfl
theorem x190_40 : XX X d 190 (40, L, .ref a :: st, M) Q = yg (M.2.2 a) 9 8 X d 190 43 L st M Q := G_getf rfl (by decide) rfl rfl rfl
theorem x190_43 : XX X d 190 (43, [l0, some (.int x)], st, M) Q = XX X d 190 (44, [l0, some (.int x)], .int x :: st, M) Q := H_ld rfl rfl rfl rfl rfl
theorem x190_44 : XX X d 190 (44, L, .int x :: .ref a :: st, M) Q = ya (M.2.2 a) .iaload x X d 190 45 L st M Q := G_ald rfl ⟨⟨rfl, rfl, rfl, by decide⟩, rfl, rfl⟩ rfl rfl
theorem x190_45 : XX X d 190 (45, L, st, M) Q = XX X d 190 (49, L, st, M) Q := H_jmp rfl (by decide) rfl
theorem x190_48 : XX X d 190 (48, L, st, M) Q = XX X d 190 (49, L, .int (ii 0) :: st, M) Q := G_cst rfl rfl rfl rfl rfl
theorem x190_49 : XX X d 190 (49, L, v :: .int x :: .ref a :: st, M) Q = yw (M.2.2 a) a .iastore v x X d 190 50 L st M Q := G_ast rfl ⟨⟨rfl, rfl, rfl, by decide⟩, rfl, rfl⟩ rfl rfl rfl
theorem x190_50 (h : wide (some l0) = false) : XX X d 190 (50, [l0, some (.int (ii p))], st, M) Q = XX X d 190 (53, [l0, some (.int (ii (p + 1)))], st, M) Q := H_inc rfl (by decide) rfl rfl rfl (Or.inr h)
theorem x190_53 : XX X d 190 (53, L, st, M) Q = XX X d 190 (17, L, st, M) Q := H_jmp rfl (by decide) rfl
theorem x190_56 : XX X d 190 (56, [some (.ref a), l1], st, M) Q = XX X d 190 (57, [some (.ref a), l1], .ref a :: st, M) Q := H_ld rfl rfl rfl rfl rfl
theorem x190_57 : XX X d 190 (57, L, st, M) Q = XX X d 190 (58, L, .int (ii 0) :: st, M) Q := G_cst rfl rfl rfl rfl rfl
theorem x190_58 : XX X d 190 (58, L, v :: .ref a :: st, M) Q = yp (M.2.2 a) a 9 9 v X d 190 61 L st M Q := G_putf rfl (by decide) rfl rfl rfl
theorem x190_61 : XX X d 190 (61, [some (.ref a), l1], st, M) Q = XX X d 190 (62, [some (.ref a), l1], .ref a :: st, M) Q := H_ld rfl rfl rfl rfl rfl
theorem x190_62 : XX X d 190 (62, L, .ref a :: st, M) Q = yg (M.2.2 a) 9 0 X d 190 65 L st M Q := G_getf rfl (by decide) rfl rfl rfl
theorem x190_65 : XX X d 190 (65, L, st, M) Q = XX X d 190 (67, L, .int (ii 125) :: st, M) Q := G_cst rfl rfl rfl rfl rfl
theorem x190_67 : XX X d 190 (67, L, .int x :: .ref a :: st, M) Q = ya (M.2.2 a) .iaload x X d 190 68 L st M Q := G_ald rfl ⟨⟨rfl, rfl, rfl, by decide⟩, rfl, rfl⟩ rfl rfl
theorem x190_68 : XX X d 190 (68, L, [.int (ii p)], M) Q = Q (.inl (some (.int (ii p)))) M := G_ret rfl ⟨⟨⟨rfl, rfl, rfl, by decide⟩, rfl, rfl⟩, rfl, rfl⟩ rfl
theorem e190 : CC X d 190 [.ref a] M Q = XX X d 190 (0, [some (.ref a), none], [], M) Q := H_ent rfl rfl
-- 191 X9_insertText (I)I
theorem x191_0 : XX X d 191 (0, [some (.ref a), l1, l2, l3], st, M) Q = XX X d 191 (1, [some (.ref a), l1, l2, l3], .ref a :: st, M) Q := H_ld rfl rfl rfl rfl rfl
theorem x191_1 : XX X d 191 (1, L, .ref a :: st, M) Q = yg (M.2.2 a) 9 9 X d 191 4 L st M Q := G_getf rfl (by decide) rfl rfl rfl
theorem x191_4 (h : wide (some l1) = false) : XX X d 191 (4, [l0, l1, l2, l3], .int x :: st, M) Q = XX X d 191 (5, [l0, l1, some (.int x), l3], st, M) Q := H_st rfl rfl rfl rfl rfl rfl rfl rfl (Or.inr h)
theorem x191_5 : XX X d 191 (5, [some (.ref a), l1, l2, l3], st, M) Q = XX X d 191 (6, [some (.ref a), l1, l2, l3], .ref a :: st, M) Q := H_ld rfl rfl rfl rfl rfl
theorem x191_6 : XX X d 191 (6, L, st, M) Q = XX X d 191 (7, L, .int (ii 0) :: st, M) Q := G_cst rfl rfl rfl rfl rfl
theorem x191_7 : XX X d 191 (7, L, v :: .ref a :: st, M) Q = yp (M.2.2 a) a 9 9 v X d 191 10 L st M Q := G_putf rfl (by decide) rfl rfl rfl
theorem x191_10 : XX X d 191 (10, [some (.ref a), l1, l2, l3], st, M) Q = XX X d 191 (11, [some (.ref a), l1, l2, l3], .ref a :: st, M) Q := H_ld rfl rfl rfl rfl rfl
theorem x191_11 : XX X d 191 (11, [l0, some (.int x), l2, l3], st, M) Q = XX X d 191 (12, [l0, some (.int x), l2, l3], .int x :: st, M) Q := H_ld rfl rfl rfl rfl rfl
theorem x191_12 : XX X d 191 (12, L, st, M) Q = XX X d 191 (13, L, .int (ii 0) :: st, M) Q := G_cst rfl rfl rfl rfl rfl
theorem x191_13 : XX X d 191 (13, [some (.ref a), l1, l2, l3], st, M) Q = XX X d 191 (14, [some (.ref a), l1, l2, l3], .ref a :: st, M) Q := H_ld rfl rfl rfl rfl rfl
theorem x191_14 : XX X d 191 (14, L, .ref a :: st, M) Q = yg (M.2.2 a) 9 0 X d 191 17 L st M Q := G_getf rfl (by decide) rfl rfl rfl
theorem x191_17 : XX X d 191 (17, L, st, M) Q = XX X d 191 (19, L, .int (ii 125) :: st, M) Q := G_cst rfl rfl rfl rfl rfl
theorem x191_19 : XX X d 191 (19, L, .int x :: .ref a :: st, M) Q = ya (M.2.2 a) .iaload x X d 191 20 L st M Q := G_ald rfl ⟨⟨rfl, rfl, rfl, by decide⟩, rfl, rfl⟩ rfl rfl
theorem x191_20 {v1 v2 v3 : Value} (hd : 0 < d) (hs : stB st = true) : XX X d 191 (20, L, v3 :: v2 :: v1 :: st, M) Q = CC X (d - 1) 145 [v1, v2, v3] M (XC X d 191 20 23 L st Q) := H_static [v1, v2, v3] rfl (by decide) rfl rfl (by decide) rfl rfl hd hs
theorem x191_23 (h : -2147483648 ≤ p ∧ p ≤ 2147483647) : XX X d 191 (23, L, .int (ii p) :: st, M) Q = bq (p ≠ 0) X d 191 30 26 L st M Q := H_if rfl ⟨rfl, rfl, rfl, by decide⟩ rfl rfl rfl rfl (D_ne (b := 0) (by omega))
theorem x191_23b : XX X d 191 (23, L, .int (ii (b2i b)) :: st, M) Q = bq (b = true) X d 191 30 26 L st M Q := (x191_23 (b2i_r b)).trans (by rw [b2i_n0])
theorem x191_26 : XX X d 191 (26, L, st, M) Q = XX X d 191 (27, L, .int (ii 1) :: st, M) Q := G_cst rfl rfl rfl rfl rfl
theorem x191_27 : XX X d 191 (27, L, st, M) Q = XX X d 191 (49, L, st, M) Q := H_jmp rfl (by decide) rfl
theorem x191_30 : XX X d 191 (30, [some (.ref a), l1, l2, l3], st, M) Q = XX X d 191 (31, [some (.ref a), l1, l2, l3], .ref a :: st, M) Q := H_ld rfl rfl rfl rfl rfl
theorem x191_31 : XX X d 191 (31, L, .ref a :: st, M) Q = yg (M.2.2 a) 9 0 X d 191 34 L st M Q := G_getf rfl (by decide) rfl rfl rfl
theorem x191_34 : XX X d 191 (34, L, st, M) Q = XX X d 191 (36, L, .int (ii 125) :: st, M) Q := G_cst rfl rfl rfl rfl rfl
theorem x191_36 : XX X d 191 (36, L, .int x :: .ref a :: st, M) Q = ya (M.2.2 a) .iaload x X d 191 37 L st M Q := G_ald rfl ⟨⟨rfl, rfl, rfl, by decide⟩, rfl, rfl⟩ rfl rfl
theorem x191_37 : XX X d 191 (37, [l0, l1, some (.int x), l3], st, M) Q = XX X d 191 (38, [l0, l1, some (.int x), l3], .int x :: st, M) Q := H_ld rfl rfl rfl rfl rfl
theorem x191_38 : XX X d 191 (38, L, .int (ii q) :: .int (ii p) :: st, M) Q = XX X d 191 (39, L, .int (ii (p + q)) :: st, M) Q := H_add rfl (by decide) rfl
theorem x191_39 : XX X d 191 (39, L, st, M) Q = XX X d 191 (41, L, .int (ii 40) :: st, M) Q := G_cst rfl rfl rfl rfl rfl
theorem x191_41 (h : -2147483648 ≤ p ∧ p ≤ 2147483647 ∧ -2147483648 ≤ q ∧ q ≤ 2147483647) : XX X d 191 (41, L, .int (ii q) :: .int (ii p) :: st, M) Q = bq (p ≤ q) X d 191 48 44 L st M Q := H_if2 rfl ⟨rfl, rfl, rfl, by decide⟩ rfl rfl rfl rfl (D_ge h)
theorem x191_44 : XX X d 191 (44, L, st, M) Q = XX X d 191 (45, L, .int (ii 2) :: st, M) Q := G_cst rfl rfl rfl rfl rfl
theorem x191_45 : XX X d 191 (45, L, st, M) Q = XX X d 191 (49, L, st, M) Q := H_jmp rfl (by decide) rfl
theorem x191_48 : XX X d 191 (48, L, st, M) Q = XX X d 191 (49, L, .int (ii 0) :: st, M) Q := G_cst rfl rfl rfl rfl rfl
theorem x191_49 {v1 : Value} (hd : 0 < d) (hs : stB st = true) : XX X d 191 (49, L, v1 :: .ref a :: st, M) Q = (mcl M a = some 9 ∧ CC X (d - 1) 144 [.ref a, v1] M (XC X d 191 49 52 L st Q)) := H_virt [v1] rfl (by decide) rfl rfl rfl rfl rfl hd hs
theorem x191_52 (h : -2147483648 ≤ p ∧ p ≤ 2147483647) : XX X d 191 (52, L, .int (ii p) :: st, M) Q = bq (p = 0) X d 191 57 55 L st M Q := H_if rfl ⟨rfl, rfl, rfl, by decide⟩ rfl rfl rfl rfl (D_eq (b := 0) (by omega))
theorem x191_52b : XX X d 191 (52, L, .int (ii (b2i b)) :: st, M) Q = bq (b = false) X d 191 57 55 L st M Q := (x191_52 (b2i_r b)).trans (by rw [b2i_0])
theorem x191_55 : XX X d 191 (55, L, st, M) Q = XX X d 191 (56, L, .int (ii 0) :: st, M) Q := G_cst rfl rfl rfl rfl rfl
theorem x191_56 : XX X d 191 (56, L, [.int (ii p)], M) Q = Q (.inl (some (.int (ii p)))) M := G_ret rfl ⟨⟨⟨rfl, rfl, rfl, by decide⟩, rfl, rfl⟩, rfl, rfl⟩ rfl
theorem x191_57 : XX X d 191 (57, [some (.ref a), l1, l2, l3], st, M) Q = XX X d 191 (58, [some (.ref a), l1, l2, l3], .ref a :: st, M) Q := H_ld rfl rfl rfl rfl rfl
theorem x191_58 (hd : 0 < d) (hs : stB st = true) : XX X d 191 (58, L, .ref a :: st, M) Q = (mcl M a = some 9 ∧ CC X (d - 1) 149 [.ref a] M (XC X d 191 58 61 L st Q)) := H_virt [] rfl (by decide) rfl rfl rfl rfl rfl hd hs
theorem x191_61 : XX X d 191 (61, [some (.ref a), l1, l2, l3], st, M) Q = XX X d 191 (62, [some (.ref a), l1, l2, l3], .ref a :: st, M) Q := H_ld rfl rfl rfl rfl rfl
theorem x191_62 : XX X d 191 (62, L, .ref a :: st, M) Q = yg (M.2.2 a) 9 0 X d 191 65 L st M Q := G_getf rfl (by decide) rfl rfl rfl
theorem x191_65 : XX X d 191 (65, L, st, M) Q = XX X d 191 (67, L, .int (ii 125) :: st, M) Q := G_cst rfl rfl rfl rfl rfl
theorem x191_67 : XX X d 191 (67, L, .int x :: .ref a :: st, M) Q = ya (M.2.2 a) .iaload x X d 191 68 L st M Q := G_ald rfl ⟨⟨rfl, rfl, rfl, by decide⟩, rfl, rfl⟩ rfl rfl
theorem x191_68 : XX X d 191 (68, L, st, M) Q = XX X d 191 (69, L, .int (ii 1) :: st, M) Q := G_cst rfl rfl rfl rfl rfl
theorem x191_69 : XX X d 191 (69, L, .int (ii q) :: .int (ii p) :: st, M) Q = XX X d 191 (70, L, .int (ii (p - q)) :: st, M) Q := H_sub rfl (by decide) rfl
theorem x191_70 (h : wide (some l2) = false) : XX X d 191 (70, [l0, l1, l2, l3], .int x :: st, M) Q = XX X d 191 (71, [l0, l1, l2, some (.int x)], st, M) Q := H_st rfl rfl rfl rfl rfl rfl rfl rfl (Or.inr h)
theorem x191_71 : XX X d 191 (71, [l0, l1, l2, some (.int x)], st, M) Q = XX X d 191 (72, [l0, l1, l2, some (.int x)], .int x :: st, M) Q := H_ld rfl rfl rfl rfl rfl
theorem x191_72 : XX X d 191 (72, [l0, some (.int x), l2, l3], st, M) Q = XX X d 191 (73, [l0, some (.int x), l2, l3], .int x :: st, M) Q := H_ld rfl rfl rfl rfl rfl
theorem x191_73 (h : -2147483648 ≤ p ∧ p ≤ 2147483647 ∧ -2147483648 ≤ q ∧ q ≤ 2147483647) : XX X d 191 (73, L, .int (ii q) :: .int (ii p) :: st, M) Q = bq (p < q) X d 191 102 76 L st M Q := H_if2 rfl ⟨rfl, rfl, rfl, by decide⟩ rfl rfl rfl rfl (D_lt h)
theorem x191_76 : XX X d 191 (76, [some (.ref a), l1, l2, l3], st, M) Q = XX X d 191 (77, [some (.ref a), l1, l2, l3], .ref a :: st, M) Q := H_ld rfl rfl rfl rfl rfl
theorem x191_77 : XX X d 191 (77, L, .ref a :: st, M) Q = yg (M.2.2 a) 9 0 X d 191 80 L st M Q := G_getf rfl (by decide) rfl rfl rfl
theorem x191_80 : XX X d 191 (80, L, st, M) Q = XX X d 191 (82, L, .int (ii 126) :: st, M) Q := G_cst rfl rfl rfl rfl rfl
theorem x191_82 : XX X d 191 (82, [l0, l1, l2, some (.int x)], st, M) Q = XX X d 191 (83, [l0, l1, l2, some (.int x)], .int x :: st, M) Q := H_ld rfl rfl rfl rfl rfl
theorem x191_83 : XX X d 191 (83, L, .int (ii q) :: .int (ii p) :: st, M) Q = XX X d 191 (84, L, .int (ii (p + q)) :: st, M) Q := H_add rfl (by decide) rfl
theorem x191_84 : XX X d 191 (84, [l0, l1, some (.int x), l3], st, M) Q = XX X d 191 (85, [l0, l1, some (.int x), l3], .int x :: st, M) Q := H_ld rfl rfl rfl rfl rfl
theorem x191_85 : XX X d 191 (85, L, .int (ii q) :: .int (ii p) :: st, M) Q = XX X d 191 (86, L, .int (ii (p + q)) :: st, M) Q := H_add rfl (by decide) rfl
theorem x191_86 : XX X d 191 (86, [some (.ref a), l1, l2, l3], st, M) Q = XX X d 191 (87, [some (.ref a), l1, l2, l3], .ref a :: st, M) Q := H_ld rfl rfl rfl rfl rfl
theorem x191_87 : XX X d 191 (87, L, .ref a :: st, M) Q = yg (M.2.2 a) 9 0 X d 191 90 L st M Q := G_getf rfl (by decide) rfl rfl rfl
theorem x191_90 : XX X d 191 (90, L, st, M) Q = XX X d 191 (92, L, .int (ii 126) :: st, M) Q := G_cst rfl rfl rfl rfl rfl
theorem x191_92 : XX X d 191 (92, [l0, l1, l2, some (.int x)], st, M) Q = XX X d 191 (93, [l0, l1, l2, some (.int x)], .int x :: st, M) Q := H_ld rfl rfl rfl rfl rfl
theorem x191_93 : XX X d 191 (93, L, .int (ii q) :: .int (ii p) :: st, M) Q = XX X d 191 (94, L, .int (ii (p + q)) :: st, M) Q := H_add rfl (by decide) rfl
theorem x191_94 : XX X d 191 (94, L, .int x :: .ref a :: st, M) Q = ya (M.2.2 a) .iaload x X d 191 95 L st M Q := G_ald rfl ⟨⟨rfl, rfl, rfl, by decide⟩, rfl, rfl⟩ rfl rfl
theorem x191_95 : XX X d 191 (95, L, v :: .int x :: .ref a :: st, M) Q = yw (M.2.2 a) a .iastore v x X d 191 96 L st M Q := G_ast rfl ⟨⟨rfl, rfl, rfl, by decide⟩, rfl, rfl⟩ rfl rfl rfl
theorem x191_96 (h : wide (some l2) = false) : XX X d 191 (96, [l0, l1, l2, some (.int (ii p))], st, M) Q = XX X d 191 (99, [l0, l1, l2, some (.int (ii (p + (-1))))], st, M) Q := H_inc rfl (by decide) rfl rfl rfl (Or.inr h)
theorem x191_99 : XX X d 191 (99, L, st, M) Q = XX X d 191 (71, L, st, M) Q := H_jmp rfl (by decide) rfl
theorem x191_102 : XX X d 191 (102, L, st, M) Q = XX X d 191 (103, L, .int (ii 0) :: st, M) Q := G_cst rfl rfl rfl rfl rfl
theorem x191_103 (h : wide (some l2) = false) : XX X d 191 (103, [l0, l1, l2, l3], .int x :: st, M) Q = XX X d 191 (104, [l0, l1, l2, some (.int x)], st, M) Q := H_st rfl rfl rfl rfl rfl rfl rfl rfl (Or.inr h)
theorem x191_104 : XX X d 191 (104, [l0, l1, l2, some (.int x)], st, M) Q = XX X d 191 (105, [l0, l1, l2, some (.int x)], .int x :: st, M) Q := H_ld rfl rfl rfl rfl rfl
theorem x191_105 : XX X d 191 (105, [l0, l1, some (.int x), l3], st, M) Q = XX X d 191 (106, [l0, l1, some (.int x), l3], .int x :: st, M) Q := H_ld rfl rfl rfl rfl rfl
theorem x191_106 (h : -2147483648 ≤ p ∧ p ≤ 2147483647 ∧ -2147483648 ≤ q ∧ q ≤ 2147483647) : XX X d 191 (106, L, .int (ii q) :: .int (ii p) :: st, M) Q = bq (q ≤ p) X d 191 132 109 L st M Q := H_if2 rfl ⟨rfl, rfl, rfl, by decide⟩ rfl rfl rfl rfl (D_le h)
theorem x191_109 : XX X d 191 (109, [some (.ref a), l1, l2, l3], st, M) Q = XX X d 191 (110, [some (.ref a), l1, l2, l3], .ref a :: st, M) Q := H_ld rfl rfl rfl rfl rfl
theorem x191_110 : XX X d 191 (110, L, .ref a :: st, M) Q = yg (M.2.2 a) 9 0 X d 191 113 L st M Q := G_getf rfl (by decide) rfl rfl rfl
theorem x191_113 : XX X d 191 (113, L, st, M) Q = XX X d 191 (115, L, .int (ii 126) :: st, M) Q := G_cst rfl rfl rfl rfl rfl
theorem x191_115 : XX X d 191 (115, [l0, some (.int x), l2, l3], st, M) Q = XX X d 191 (116, [l0, some (.int x), l2, l3], .int x :: st, M) Q := H_ld rfl rfl rfl rfl rfl
theorem x191_116 : XX X d 191 (116, L, .int (ii q) :: .int (ii p) :: st, M) Q = XX X d 191 (117, L, .int (ii (p + q)) :: st, M) Q := H_add rfl (by decide) rfl
theorem x191_117 : XX X d 191 (117, [l0, l1, l2, some (.int x)], st, M) Q = XX X d 191 (118, [l0, l1, l2, some (.int x)], .int x :: st, M) Q := H_ld rfl rfl rfl rfl rfl
theorem x191_118 : XX X d 191 (118, L, .int (ii q) :: .int (ii p) :: st, M) Q = XX X d 191 (119, L, .int (ii (p + q)) :: st, M) Q := H_add rfl (by decide) rfl
theorem x191_119 : XX X d 191 (119, [some (.ref a), l1, l2, l3], st, M) Q = XX X d 191 (120, [some (.ref a), l1, l2, l3], .ref a :: st, M) Q := H_ld rfl rfl rfl rfl rfl
theorem x191_120 : XX X d 191 (120, L, .ref a :: st, M) Q = yg (M.2.2 a) 9 8 X d 191 123 L st M Q := G_getf rfl (by decide) rfl rfl rfl
theorem x191_123 : XX X d 191 (123, [l0, l1, l2, some (.int x)], st, M) Q = XX X d 191 (124, [l0, l1, l2, some (.int x)], .int x :: st, M) Q := H_ld rfl rfl rfl rfl rfl
theorem x191_124 : XX X d 191 (124, L, .int x :: .ref a :: st, M) Q = ya (M.2.2 a) .iaload x X d 191 125 L st M Q := G_ald rfl ⟨⟨rfl, rfl, rfl, by decide⟩, rfl, rfl⟩ rfl rfl
theorem x191_125 : XX X d 191 (125, L, v :: .int x :: .ref a :: st, M) Q = yw (M.2.2 a) a .iastore v x X d 191 126 L st M Q := G_ast rfl ⟨⟨rfl, rfl, rfl, by decide⟩, rfl, rfl⟩ rfl rfl rfl
theorem x191_126 (h : wide (some l2) = false) : XX X d 191 (126, [l0, l1, l2, some (.int (ii p))], st, M) Q = XX X d 191 (129, [l0, l1, l2, some (.int (ii (p + 1)))], st, M) Q := H_inc rfl (by decide) rfl rfl rfl (Or.inr h)
theorem x191_129 : XX X d 191 (129, L, st, M) Q = XX X d 191 (104, L, st, M) Q := H_jmp rfl (by decide) rfl
theorem x191_132 : XX X d 191 (132, [some (.ref a), l1, l2, l3], st, M) Q = XX X d 191 (133, [some (.ref a), l1, l2, l3], .ref a :: st, M) Q := H_ld rfl rfl rfl rfl rfl
theorem x191_133 : XX X d 191 (133, L, .ref a :: st, M) Q = yg (M.2.2 a) 9 0 X d 191 136 L st M Q := G_getf rfl (by decide) rfl rfl rfl
theorem x191_136 : XX X d 191 (136, L, st, M) Q = XX X d 191 (138, L, .int (ii 125) :: st, M) Q := G_cst rfl rfl rfl rfl rfl
theorem x191_138 (h : v.category = 1 ∧ v2.category = 1) : XX X d 191 (138, L, v :: v2 :: st, M) Q = XX X d 191 (139, L, v :: v2 :: v :: v2 :: st, M) Q := G_sop rfl ⟨rfl, rfl, rfl, by decide⟩ (if_pos h) rfl
theorem x191_139 : XX X d 191 (139, L, .int x :: .ref a :: st, M) Q = ya (M.2.2 a) .iaload x X d 191 140 L st M Q := G_ald rfl ⟨⟨rfl, rfl, rfl, by decide⟩, rfl, rfl⟩ rfl rfl
theorem x191_140 : XX X d 191 (140, [l0, l1, some (.int x), l3], st, M) Q = XX X d 191 (141, [l0, l1, some (.int x), l3], .int x :: st, M) Q := H_ld rfl rfl rfl rfl rfl
theorem x191_141 : XX X d 191 (141, L, .int (ii q) :: .int (ii p) :: st, M) Q = XX X d 191 (142, L, .int (ii (p + q)) :: st, M) Q := H_add rfl (by decide) rfl
theorem x191_142 : XX X d 191 (142, L, v :: .int x :: .ref a :: st, M) Q = yw (M.2.2 a) a .iastore v x X d 191 143 L st M Q := G_ast rfl ⟨⟨rfl, rfl, rfl, by decide⟩, rfl, rfl⟩ rfl rfl rfl
theorem x191_143 : XX X d 191 (143, [some (.ref a), l1, l2, l3], st, M) Q = XX X d 191 (144, [some (.ref a), l1, l2, l3], .ref a :: st, M) Q := H_ld rfl rfl rfl rfl rfl
theorem x191_144 : XX X d 191 (144, L, .ref a :: st, M) Q = yg (M.2.2 a) 9 0 X d 191 147 L st M Q := G_getf rfl (by decide) rfl rfl rfl
theorem x191_147 : XX X d 191 (147, L, st, M) Q = XX X d 191 (149, L, .int (ii 125) :: st, M) Q := G_cst rfl rfl rfl rfl rfl
theorem x191_149 : XX X d 191 (149, L, .int x :: .ref a :: st, M) Q = ya (M.2.2 a) .iaload x X d 191 150 L st M Q := G_ald rfl ⟨⟨rfl, rfl, rfl, by decide⟩, rfl, rfl⟩ rfl rfl
theorem x191_150 : XX X d 191 (150, L, [.int (ii p)], M) Q = Q (.inl (some (.int (ii p)))) M := G_ret rfl ⟨⟨⟨rfl, rfl, rfl, by decide⟩, rfl, rfl⟩, rfl, rfl⟩ rfl
theorem e191 : CC X d 191 [.ref a, .int x] M Q = XX X d 191 (0, [some (.ref a), some (.int x), none, none], [], M) Q := H_ent rfl rfl
-- 192 X9_deleteText (II)I
theorem x192_0 : XX X d 192 (0, [some (.ref a), l1, l2, l3], st, M) Q = XX X d 192 (1, [some (.ref a), l1, l2, l3], .ref a :: st, M) Q := H_ld rfl rfl rfl rfl rfl
theorem x192_1 : XX X d 192 (1, [l0, some (.int x), l2, l3], st, M) Q = XX X d 192 (2, [l0, some (.int x), l2, l3], .int x :: st, M) Q := H_ld rfl rfl rfl rfl rfl
theorem x192_2 (h : -2147483648 ≤ p ∧ p ≤ 2147483647) : XX X d 192 (2, L, .int (ii p) :: st, M) Q = bq (p < 0) X d 192 25 5 L st M Q := H_if rfl ⟨rfl, rfl, rfl, by decide⟩ rfl rfl rfl rfl (D_lt (b := 0) (by omega))
theorem x192_5 : XX X d 192 (5, [l0, some (.int x), l2, l3], st, M) Q = XX X d 192 (6, [l0, some (.int x), l2, l3], .int x :: st, M) Q := H_ld rfl rfl rfl rfl rfl
theorem x192_6 : XX X d 192 (6, [l0, l1, some (.int x), l3], st, M) Q = XX X d 192 (7, [l0, l1, some (.int x), l3], .int x :: st, M) Q := H_ld rfl rfl rfl rfl rfl
theorem x192_7 (h : -2147483648 ≤ p ∧ p ≤ 2147483647 ∧ -2147483648 ≤ q ∧ q ≤ 2147483647) : XX X d 192 (7, L, .int (ii q) :: .int (ii p) :: st, M) Q = bq (q < p) X d 192 25 10 L st M Q := H_if2 rfl ⟨rfl, rfl, rfl, by decide⟩ rfl rfl rfl rfl (D_gt h)
theorem x192_10 : XX X d 192 (10, [l0, l1, some (.int x), l3], st, M) Q = XX X d 192 (11, [l0, l1, some (.int x), l3], .int x :: st, M) Q := H_ld rfl rfl rfl rfl rfl
theorem x192_11 : XX X d 192 (11, [some (.ref a), l1, l2, l3], st, M) Q = XX X d 192 (12, [some (.ref a), l1, l2, l3], .ref a :: st, M) Q := H_ld rfl rfl rfl rfl rfl
theorem x192_12 : XX X d 192 (12, L, .ref a :: st, M) Q = yg (M.2.2 a) 9 0 X d 192 15 L st M Q := G_getf rfl (by decide) rfl rfl rfl
theorem x192_15 : XX X d 192 (15, L, st, M) Q = XX X d 192 (17, L, .int (ii 125) :: st, M) Q := G_cst rfl rfl rfl rfl rfl
theorem x192_17 : XX X d 192 (17, L, .int x :: .ref a :: st, M) Q = ya (M.2.2 a) .iaload x X d 192 18 L st M Q := G_ald rfl ⟨⟨rfl, rfl, rfl, by decide⟩, rfl, rfl⟩ rfl rfl
theorem x192_18 (h : -2147483648 ≤ p ∧ p ≤ 2147483647 ∧ -2147483648 ≤ q ∧ q ≤ 2147483647) : XX X d 192 (18, L, .int (ii q) :: .int (ii p) :: st, M) Q = bq (q < p) X d 192 25 21 L st M Q := H_if2 rfl ⟨rfl, rfl, rfl, by decide⟩ rfl rfl rfl rfl (D_gt h)
theorem x192_21 : XX X d 192 (21, L, st, M) Q = XX X d 192 (22, L, .int (ii 0) :: st, M) Q := G_cst rfl rfl rfl rfl rfl
theorem x192_22 : XX X d 192 (22, L, st, M) Q = XX X d 192 (26, L, st, M) Q := H_jmp rfl (by decide) rfl
theorem x192_25 : XX X d 192 (25, L, st, M) Q = XX X d 192 (26, L, .int (ii 1) :: st, M) Q := G_cst rfl rfl rfl rfl rfl
theorem x192_26 {v1 : Value} (hd : 0 < d) (hs : stB st = true) : XX X d 192 (26, L, v1 :: .ref a :: st, M) Q = (mcl M a = some 9 ∧ CC X (d - 1) 144 [.ref a, v1] M (XC X d 192 26 29 L st Q)) := H_virt [v1] rfl (by decide) rfl rfl rfl rfl rfl hd hs
theorem x192_29 (h : -2147483648 ≤ p ∧ p ≤ 2147483647) : XX X d 192 (29, L, .int (ii p) :: st, M) Q = bq (p = 0) X d 192 34 32 L st M Q := H_if rfl ⟨rfl, rfl, rfl, by decide⟩ rfl rfl rfl rfl (D_eq (b := 0) (by omega))
theorem x192_29b : XX X d 192 (29, L, .int (ii (b2i b)) :: st, M) Q = bq (b = false) X d 192 34 32 L st M Q := (x192_29 (b2i_r b)).trans (by rw [b2i_0])
theorem x192_32 : XX X d 192 (32, L, st, M) Q = XX X d 192 (33, L, .int (ii 0) :: st, M) Q := G_cst rfl rfl rfl rfl rfl
theorem x192_33 : XX X d 192 (33, L, [.int (ii p)], M) Q = Q (.inl (some (.int (ii p)))) M := G_ret rfl ⟨⟨⟨rfl, rfl, rfl, by decide⟩, rfl, rfl⟩, rfl, rfl⟩ rfl
theorem x192_34 : XX X d 192 (34, [some (.ref a), l1, l2, l3], st, M) Q = XX X d 192 (35, [some (.ref a), l1, l2, l3], .ref a :: st, M) Q := H_ld rfl rfl rfl rfl rfl
theorem x192_35 (hd : 0 < d) (hs : stB st = true) : XX X d 192 (35, L, .ref a :: st, M) Q = (mcl M a = some 9 ∧ CC X (d - 1) 149 [.ref a] M (XC X d 192 35 38 L st Q)) := H_virt [] rfl (by decide) rfl rfl rfl rfl rfl hd hs
theorem x192_38 : XX X d 192 (38, [l0, l1, some (.int x), l3], st, M) Q = XX X d 192 (39, [l0, l1, some (.int x), l3], .int x :: st, M) Q := H_ld rfl rfl rfl rfl rfl
theorem x192_39 (h : wide (some l2) = false) : XX X d 192 (39, [l0, l1, l2, l3], .int x :: st, M) Q = XX X d 192 (40, [l0, l1, l2, some (.int x)], st, M) Q := H_st rfl rfl rfl rfl rfl rfl rfl rfl (Or.inr h)
theorem x192_40 : XX X d 192 (40, [l0, l1, l2, some (.int x)], st, M) Q = XX X d 192 (41, [l0, l1, l2, some (.int x)], .int x :: st, M) Q := H_ld rfl rfl rfl rfl rfl
theorem x192_41 : XX X d 192 (41, [some (.ref a), l1, l2, l3], st, M) Q = XX X d 192 (42, [some (.ref a), l1, l2, l3], .ref a :: st, M) Q := H_ld rfl rfl rfl rfl rfl
theorem x192_42 : XX X d 192 (42, L, .ref a :: st, M) Q = yg (M.2.2 a) 9 0 X d 192 45 L st M Q := G_getf rfl (by decide) rfl rfl rfl
theorem x192_45 : XX X d 192 (45, L, st, M) Q = XX X d 192 (47, L, .int (ii 125) :: st, M) Q := G_cst rfl rfl rfl rfl rfl
theorem x192_47 : XX X d 192 (47, L, .int x :: .ref a :: st, M) Q = ya (M.2.2 a) .iaload x X d 192 48 L st M Q := G_ald rfl ⟨⟨rfl, rfl, rfl, by decide⟩, rfl, rfl⟩ rfl rfl
theorem x192_48 (h : -2147483648 ≤ p ∧ p ≤ 2147483647 ∧ -2147483648 ≤ q ∧ q ≤ 2147483647) : XX X d 192 (48, L, .int (ii q) :: .int (ii p) :: st, M) Q = bq (q ≤ p) X d 192 79 51 L st M Q := H_if2 rfl ⟨rfl, rfl, rfl, by decide⟩ rfl rfl rfl rfl (D_le h)
theorem x192_51 : XX X d 192 (51, [some (.ref a), l1, l2, l3], st, M) Q = XX X d 192 (52, [some (.ref a), l1, l2, l3], .ref a :: st, M) Q := H_ld rfl rfl rfl rfl rfl
theorem x192_52 : XX X d 192 (52, L, .ref a :: st, M) Q = yg (M.2.2 a) 9 0 X d 192 55 L st M Q := G_getf rfl (by decide) rfl rfl rfl
theorem x192_55 : XX X d 192 (55, L, st, M) Q = XX X d 192 (57, L, .int (ii 126) :: st, M) Q := G_cst rfl rfl rfl rfl rfl
theorem x192_57 : XX X d 192 (57, [l0, some (.int x), l2, l3], st, M) Q = XX X d 192 (58, [l0, some (.int x), l2, l3], .int x :: st, M) Q := H_ld rfl rfl rfl rfl rfl
theorem x192_58 : XX X d 192 (58, L, .int (ii q) :: .int (ii p) :: st, M) Q = XX X d 192 (59, L, .int (ii (p + q)) :: st, M) Q := H_add rfl (by decide) rfl
theorem x192_59 : XX X d 192 (59, [l0, l1, l2, some (.int x)], st, M) Q = XX X d 192 (60, [l0, l1, l2, some (.int x)], .int x :: st, M) Q := H_ld rfl rfl rfl rfl rfl
theorem x192_60 : XX X d 192 (60, L, .int (ii q) :: .int (ii p) :: st, M) Q = XX X d 192 (61, L, .int (ii (p + q)) :: st, M) Q := H_add rfl (by decide) rfl
theorem x192_61 : XX X d 192 (61, [l0, l1, some (.int x), l3], st, M) Q = XX X d 192 (62, [l0, l1, some (.int x), l3], .int x :: st, M) Q := H_ld rfl rfl rfl rfl rfl
theorem x192_62 : XX X d 192 (62, L, .int (ii q) :: .int (ii p) :: st, M) Q = XX X d 192 (63, L, .int (ii (p - q)) :: st, M) Q := H_sub rfl (by decide) rfl
theorem x192_63 : XX X d 192 (63, [some (.ref a), l1, l2, l3], st, M) Q = XX X d 192 (64, [some (.ref a), l1, l2, l3], .ref a :: st, M) Q := H_ld rfl rfl rfl rfl rfl
theorem x192_64 : XX X d 192 (64, L, .ref a :: st, M) Q = yg (M.2.2 a) 9 0 X d 192 67 L st M Q := G_getf rfl (by decide) rfl rfl rfl
theorem x192_67 : XX X d 192 (67, L, st, M) Q = XX X d 192 (69, L, .int (ii 126) :: st, M) Q := G_cst rfl rfl rfl rfl rfl
theorem x192_69 : XX X d 192 (69, [l0, l1, l2, some (.int x)], st, M) Q = XX X d 192 (70, [l0, l1, l2, some (.int x)], .int x :: st, M) Q := H_ld rfl rfl rfl rfl rfl
theorem x192_70 : XX X d 192 (70, L, .int (ii q) :: .int (ii p) :: st, M) Q = XX X d 192 (71, L, .int (ii (p + q)) :: st, M) Q := H_add rfl (by decide) rfl
theorem x192_71 : XX X d 192 (71, L, .int x :: .ref a :: st, M) Q = ya (M.2.2 a) .iaload x X d 192 72 L st M Q := G_ald rfl ⟨⟨rfl, rfl, rfl, by decide⟩, rfl, rfl⟩ rfl rfl
theorem x192_72 : XX X d 192 (72, L, v :: .int x :: .ref a :: st, M) Q = yw (M.2.2 a) a .iastore v x X d 192 73 L st M Q := G_ast rfl ⟨⟨rfl, rfl, rfl, by decide⟩, rfl, rfl⟩ rfl rfl rfl
theorem x192_73 (h : wide (some l2) = false) : XX X d 192 (73, [l0, l1, l2, some (.int (ii p))], st, M) Q = XX X d 192 (76, [l0, l1, l2, some (.int (ii (p + 1)))], st, M) Q := H_inc rfl (by decide) rfl rfl rfl (Or.inr h)
theorem x192_76 : XX X d 192 (76, L, st, M) Q = XX X d 192 (40, L, st, M) Q := H_jmp rfl (by decide) rfl
theorem x192_79 : XX X d 192 (79, [some (.ref a), l1, l2, l3], st, M) Q = XX X d 192 (80, [some (.ref a), l1, l2, l3], .ref a :: st, M) Q := H_ld rfl rfl rfl rfl rfl
theorem x192_80 : XX X d 192 (80, L, .ref a :: st, M) Q = yg (M.2.2 a) 9 0 X d 192 83 L st M Q := G_getf rfl (by decide) rfl rfl rfl
theorem x192_83 : XX X d 192 (83, L, st, M) Q = XX X d 192 (85, L, .int (ii 125) :: st, M) Q := G_cst rfl rfl rfl rfl rfl
theorem x192_85 (h : v.category = 1 ∧ v2.category = 1) : XX X d 192 (85, L, v :: v2 :: st, M) Q = XX X d 192 (86, L, v :: v2 :: v :: v2 :: st, M) Q := G_sop rfl ⟨rfl, rfl, rfl, by decide⟩ (if_pos h) rfl
theorem x192_86 : XX X d 192 (86, L, .int x :: .ref a :: st, M) Q = ya (M.2.2 a) .iaload x X d 192 87 L st M Q := G_ald rfl ⟨⟨rfl, rfl, rfl, by decide⟩, rfl, rfl⟩ rfl rfl
theorem x192_87 : XX X d 192 (87, [l0, l1, some (.int x), l3], st, M) Q = XX X d 192 (88, [l0, l1, some (.int x), l3], .int x :: st, M) Q := H_ld rfl rfl rfl rfl rfl
theorem x192_88 : XX X d 192 (88, [l0, some (.int x), l2, l3], st, M) Q = XX X d 192 (89, [l0, some (.int x), l2, l3], .int x :: st, M) Q := H_ld rfl rfl rfl rfl rfl
theorem x192_89 : XX X d 192 (89, L, .int (ii q) :: .int (ii p) :: st, M) Q = XX X d 192 (90, L, .int (ii (p - q)) :: st, M) Q := H_sub rfl (by decide) rfl
theorem x192_90 : XX X d 192 (90, L, .int (ii q) :: .int (ii p) :: st, M) Q = XX X d 192 (91, L, .int (ii (p - q)) :: st, M) Q := H_sub rfl (by decide) rfl
theorem x192_91 : XX X d 192 (91, L, v :: .int x :: .ref a :: st, M) Q = yw (M.2.2 a) a .iastore v x X d 192 92 L st M Q := G_ast rfl ⟨⟨rfl, rfl, rfl, by decide⟩, rfl, rfl⟩ rfl rfl rfl
theorem x192_92 : XX X d 192 (92, [some (.ref a), l1, l2, l3], st, M) Q = XX X d 192 (93, [some (.ref a), l1, l2, l3], .ref a :: st, M) Q := H_ld rfl rfl rfl rfl rfl
theorem x192_93 : XX X d 192 (93, L, .ref a :: st, M) Q = yg (M.2.2 a) 9 0 X d 192 96 L st M Q := G_getf rfl (by decide) rfl rfl rfl
theorem x192_96 : XX X d 192 (96, L, st, M) Q = XX X d 192 (98, L, .int (ii 125) :: st, M) Q := G_cst rfl rfl rfl rfl rfl
theorem x192_98 : XX X d 192 (98, L, .int x :: .ref a :: st, M) Q = ya (M.2.2 a) .iaload x X d 192 99 L st M Q := G_ald rfl ⟨⟨rfl, rfl, rfl, by decide⟩, rfl, rfl⟩ rfl rfl
theorem x192_99 : XX X d 192 (99, L, [.int (ii p)], M) Q = Q (.inl (some (.int (ii p)))) M := G_ret rfl ⟨⟨⟨rfl, rfl, rfl, by decide⟩, rfl, rfl⟩, rfl, rfl⟩ rfl
theorem e192 : CC X d 192 [.ref a, .int x, .int x2] M Q = XX X d 192 (0, [some (.ref a), some (.int x), some (.int x2), none], [], M) Q := H_ent rfl rfl
-- 193 X9_lists (I)V
theorem x193_0 : XX X d 193 (0, [some (.ref a), l1, l2, l3], st, M) Q = XX X d 193 (1, [some (.ref a), l1, l2, l3], .ref a :: st, M) Q := H_ld rfl rfl rfl rfl rfl
theorem x193_1 : XX X d 193 (1, [l0, some (.int x), l2, l3], st, M) Q = XX X d 193 (2, [l0, some (.int x), l2, l3], .int x :: st, M) Q := H_ld rfl rfl rfl rfl rfl
theorem x193_2 {v1 : Value} (hd : 0 < d) (hs : stB st = true) : XX X d 193 (2, L, v1 :: .ref a :: st, M) Q = (mcl M a = some 9 ∧ CC X (d - 1) 164 [.ref a, v1] M (XC X d 193 2 5 L st Q)) := H_virt [v1] rfl (by decide) rfl rfl rfl rfl rfl hd hs
theorem x193_5 : XX X d 193 (5, [some (.ref a), l1, l2, l3], st, M) Q = XX X d 193 (6, [some (.ref a), l1, l2, l3], .ref a :: st, M) Q := H_ld rfl rfl rfl rfl rfl
theorem x193_6 : XX X d 193 (6, L, st, M) Q = XX X d 193 (7, L, .int (ii 0) :: st, M) Q := G_cst rfl rfl rfl rfl rfl
theorem x193_7 : XX X d 193 (7, L, v :: .ref a :: st, M) Q = yp (M.2.2 a) a 9 38 v X d 193 10 L st M Q := G_putf rfl (by decide) rfl rfl rfl
theorem x193_10 : XX X d 193 (10, L, st, M) Q = XX X d 193 (11, L, .int (ii 0) :: st, M) Q := G_cst rfl rfl rfl rfl rfl
theorem x193_11 (h : wide (some l1) = false) : XX X d 193 (11, [l0, l1, l2, l3], .int x :: st, M) Q = XX X d 193 (12, [l0, l1, some (.int x), l3], st, M) Q := H_st rfl rfl rfl rfl rfl rfl rfl rfl (Or.inr h)
theorem x193_12 : XX X d 193 (12, [l0, l1, some (.int x), l3], st, M) Q = XX X d 193 (13, [l0, l1, some (.int x), l3], .int x :: st, M) Q := H_ld rfl rfl rfl rfl rfl
theorem x193_13 : XX X d 193 (13, [some (.ref a), l1, l2, l3], st, M) Q = XX X d 193 (14, [some (.ref a), l1, l2, l3], .ref a :: st, M) Q := H_ld rfl rfl rfl rfl rfl
theorem x193_14 : XX X d 193 (14, L, .ref a :: st, M) Q = yg (M.2.2 a) 9 0 X d 193 17 L st M Q := G_getf rfl (by decide) rfl rfl rfl
theorem x193_17 : XX X d 193 (17, L, st, M) Q = XX X d 193 (19, L, .int (ii 125) :: st, M) Q := G_cst rfl rfl rfl rfl rfl
theorem x193_19 : XX X d 193 (19, L, .int x :: .ref a :: st, M) Q = ya (M.2.2 a) .iaload x X d 193 20 L st M Q := G_ald rfl ⟨⟨rfl, rfl, rfl, by decide⟩, rfl, rfl⟩ rfl rfl
theorem x193_20 (h : -2147483648 ≤ p ∧ p ≤ 2147483647 ∧ -2147483648 ≤ q ∧ q ≤ 2147483647) : XX X d 193 (20, L, .int (ii q) :: .int (ii p) :: st, M) Q = bq (q < p) X d 193 92 23 L st M Q := H_if2 rfl ⟨rfl, rfl, rfl, by decide⟩ rfl rfl rfl rfl (D_gt h)
theorem x193_23 : XX X d 193 (23, [some (.ref a), l1, l2, l3], st, M) Q = XX X d 193 (24, [some (.ref a), l1, l2, l3], .ref a :: st, M) Q := H_ld rfl rfl rfl rfl rfl
theorem x193_24 : XX X d 193 (24, [l0, l1, some (.int x), l3], st, M) Q = XX X d 193 (25, [l0, l1, some (.int x), l3], .int x :: st, M) Q := H_ld rfl rfl rfl rfl rfl
theorem x193_25 {v1 : Value} (hd : 0 < d) (hs : stB st = true) : XX X d 193 (25, L, v1 :: .ref a :: st, M) Q = (mcl M a = some 9 ∧ CC X (d - 1) 171 [.ref a, v1] M (XC X d 193 25 28 L st Q)) := H_virt [v1] rfl (by decide) rfl rfl rfl rfl rfl hd hs
theorem x193_28 (h : wide (some l2) = false) : XX X d 193 (28, [l0, l1, l2, l3], .int x :: st, M) Q = XX X d 193 (29, [l0, l1, l2, some (.int x)], st, M) Q := H_st rfl rfl rfl rfl rfl rfl rfl rfl (Or.inr h)
theorem x193_29 : XX X d 193 (29, [l0, l1, l2, some (.int x)], st, M) Q = XX X d 193 (30, [l0, l1, l2, some (.int x)], .int x :: st, M) Q := H_ld rfl rfl rfl rfl rfl
theorem x193_30 (h : -2147483648 ≤ p ∧ p ≤ 2147483647) : XX X d 193 (30, L, .int (ii p) :: st, M) Q = bq (0 ≤ p) X d 193 34 33 L st M Q := H_if rfl ⟨rfl, rfl, rfl, by decide⟩ rfl rfl rfl rfl (D_le (b := 0) (by omega))
theorem x193_33 : XX X d 193 (33, L, [], M) Q = Q (.inl none) M := G_retv rfl (by decide) rfl
theorem x193_34 : XX X d 193 (34, [some (.ref a), l1, l2, l3], st, M) Q = XX X d 193 (35, [some (.ref a), l1, l2, l3], .ref a :: st, M) Q := H_ld rfl rfl rfl rfl rfl
theorem x193_35 : XX X d 193 (35, L, .ref a :: st, M) Q = yg (M.2.2 a) 9 36 X d 193 38 L st M Q := G_getf rfl (by decide) rfl rfl rfl
theorem x193_38 : XX X d 193 (38, [some (.ref a), l1, l2, l3], st, M) Q = XX X d 193 (39, [some (.ref a), l1, l2, l3], .ref a :: st, M) Q := H_ld rfl rfl rfl rfl rfl
theorem x193_39 : XX X d 193 (39, L, .ref a :: st, M) Q = yg (M.2.2 a) 9 38 X d 193 42 L st M Q := G_getf rfl (by decide) rfl rfl rfl
theorem x193_42 : XX X d 193 (42, [l0, l1, l2, some (.int x)], st, M) Q = XX X d 193 (43, [l0, l1, l2, some (.int x)], .int x :: st, M) Q := H_ld rfl rfl rfl rfl rfl
theorem x193_43 : XX X d 193 (43, L, v :: .int x :: .ref a :: st, M) Q = yw (M.2.2 a) a .iastore v x X d 193 44 L st M Q := G_ast rfl ⟨⟨rfl, rfl, rfl, by decide⟩, rfl, rfl⟩ rfl rfl rfl
theorem x193_44 : XX X d 193 (44, [some (.ref a), l1, l2, l3], st, M) Q = XX X d 193 (45, [some (.ref a), l1, l2, l3], .ref a :: st, M) Q := H_ld rfl rfl rfl rfl rfl
theorem x193_45 : XX X d 193 (45, L, .ref a :: st, M) Q = yg (M.2.2 a) 9 37 X d 193 48 L st M Q := G_getf rfl (by decide) rfl rfl rfl
theorem x193_48 : XX X d 193 (48, [some (.ref a), l1, l2, l3], st, M) Q = XX X d 193 (49, [some (.ref a), l1, l2, l3], .ref a :: st, M) Q := H_ld rfl rfl rfl rfl rfl
theorem x193_49 : XX X d 193 (49, L, .ref a :: st, M) Q = yg (M.2.2 a) 9 38 X d 193 52 L st M Q := G_getf rfl (by decide) rfl rfl rfl
theorem x193_52 : XX X d 193 (52, [some (.ref a), l1, l2, l3], st, M) Q = XX X d 193 (53, [some (.ref a), l1, l2, l3], .ref a :: st, M) Q := H_ld rfl rfl rfl rfl rfl
theorem x193_53 : XX X d 193 (53, L, .ref a :: st, M) Q = yg (M.2.2 a) 9 35 X d 193 56 L st M Q := G_getf rfl (by decide) rfl rfl rfl
theorem x193_56 : XX X d 193 (56, L, v :: .int x :: .ref a :: st, M) Q = yw (M.2.2 a) a .iastore v x X d 193 57 L st M Q := G_ast rfl ⟨⟨rfl, rfl, rfl, by decide⟩, rfl, rfl⟩ rfl rfl rfl
theorem x193_57 : XX X d 193 (57, [some (.ref a), l1, l2, l3], st, M) Q = XX X d 193 (58, [some (.ref a), l1, l2, l3], .ref a :: st, M) Q := H_ld rfl rfl rfl rfl rfl
theorem x193_58 (h : v.category = 1) : XX X d 193 (58, L, v :: st, M) Q = XX X d 193 (59, L, v :: v :: st, M) Q := G_sop rfl ⟨rfl, rfl, rfl, by decide⟩ (if_pos h) rfl
theorem x193_59 : XX X d 193 (59, L, .ref a :: st, M) Q = yg (M.2.2 a) 9 38 X d 193 62 L st M Q := G_getf rfl (by decide) rfl rfl rfl
theorem x193_62 : XX X d 193 (62, L, st, M) Q = XX X d 193 (63, L, .int (ii 1) :: st, M) Q := G_cst rfl rfl rfl rfl rfl
theorem x193_63 : XX X d 193 (63, L, .int (ii q) :: .int (ii p) :: st, M) Q = XX X d 193 (64, L, .int (ii (p + q)) :: st, M) Q := H_add rfl (by decide) rfl
theorem x193_64 : XX X d 193 (64, L, v :: .ref a :: st, M) Q = yp (M.2.2 a) a 9 38 v X d 193 67 L st M Q := G_putf rfl (by decide) rfl rfl rfl
theorem x193_67 : XX X d 193 (67, [some (.ref a), l1, l2, l3], st, M) Q = XX X d 193 (68, [some (.ref a), l1, l2, l3], .ref a :: st, M) Q := H_ld rfl rfl rfl rfl rfl
theorem x193_68 : XX X d 193 (68, L, .ref a :: st, M) Q = yg (M.2.2 a) 9 35 X d 193 71 L st M Q := G_getf rfl (by decide) rfl rfl rfl
theorem x193_71 : XX X d 193 (71, [l0, l1, l2, some (.int x)], st, M) Q = XX X d 193 (72, [l0, l1, l2, some (.int x)], .int x :: st, M) Q := H_ld rfl rfl rfl rfl rfl
theorem x193_72 (h : -2147483648 ≤ p ∧ p ≤ 2147483647 ∧ -2147483648 ≤ q ∧ q ≤ 2147483647) : XX X d 193 (72, L, .int (ii q) :: .int (ii p) :: st, M) Q = bq (p ≤ q) X d 193 82 75 L st M Q := H_if2 rfl ⟨rfl, rfl, rfl, by decide⟩ rfl rfl rfl rfl (D_ge h)
theorem x193_75 : XX X d 193 (75, [some (.ref a), l1, l2, l3], st, M) Q = XX X d 193 (76, [some (.ref a), l1, l2, l3], .ref a :: st, M) Q := H_ld rfl rfl rfl rfl rfl
theorem x193_76 : XX X d 193 (76, L, .ref a :: st, M) Q = yg (M.2.2 a) 9 35 X d 193 79 L st M Q := G_getf rfl (by decide) rfl rfl rfl
theorem x193_79 : XX X d 193 (79, L, st, M) Q = XX X d 193 (88, L, st, M) Q := H_jmp rfl (by decide) rfl
theorem x193_82 : XX X d 193 (82, [some (.ref a), l1, l2, l3], st, M) Q = XX X d 193 (83, [some (.ref a), l1, l2, l3], .ref a :: st, M) Q := H_ld rfl rfl rfl rfl rfl
theorem x193_83 : XX X d 193 (83, L, .ref a :: st, M) Q = yg (M.2.2 a) 9 35 X d 193 86 L st M Q := G_getf rfl (by decide) rfl rfl rfl
theorem x193_86 : XX X d 193 (86, L, st, M) Q = XX X d 193 (87, L, .int (ii 1) :: st, M) Q := G_cst rfl rfl rfl rfl rfl
theorem x193_87 : XX X d 193 (87, L, .int (ii q) :: .int (ii p) :: st, M) Q = XX X d 193 (88, L, .int (ii (p + q)) :: st, M) Q := H_add rfl (by decide) rfl
theorem x193_88 (h : wide (some l1) = false) : XX X d 193 (88, [l0, l1, l2, l3], .int x :: st, M) Q = XX X d 193 (89, [l0, l1, some (.int x), l3], st, M) Q := H_st rfl rfl rfl rfl rfl rfl rfl rfl (Or.inr h)
theorem x193_89 : XX X d 193 (89, L, st, M) Q = XX X d 193 (12, L, st, M) Q := H_jmp rfl (by decide) rfl
theorem x193_92 : XX X d 193 (92, L, [], M) Q = Q (.inl none) M := G_retv rfl (by decide) rfl
theorem e193 : CC X d 193 [.ref a, .int x] M Q = XX X d 193 (0, [some (.ref a), some (.int x), none, none], [], M) Q := H_ent rfl rfl
-- 194 X9_covered ()I
theorem x194_0 : XX X d 194 (0, L, st, M) Q = XX X d 194 (1, L, .int (ii 0) :: st, M) Q := G_cst rfl rfl rfl rfl rfl
theorem x194_1 (h : wide (some l0) = false) : XX X d 194 (1, [l0, l1, l2], .int x :: st, M) Q = XX X d 194 (2, [l0, some (.int x), l2], st, M) Q := H_st rfl rfl rfl rfl rfl rfl rfl rfl (Or.inr h)
theorem x194_2 : XX X d 194 (2, L, st, M) Q = XX X d 194 (3, L, .int (ii 0) :: st, M) Q := G_cst rfl rfl rfl rfl rfl
theorem x194_3 (h : wide (some l1) = false) : XX X d 194 (3, [l0, l1, l2], .int x :: st, M) Q = XX X d 194 (4, [l0, l1, some (.int x)], st, M) Q := H_st rfl rfl rfl rfl rfl rfl rfl rfl (Or.inr h)
theorem x194_4 : XX X d 194 (4, [l0, l1, some (.int x)], st, M) Q = XX X d 194 (5, [l0, l1, some (.int x)], .int x :: st, M) Q := H_ld rfl rfl rfl rfl rfl
theorem x194_5 : XX X d 194 (5, [some (.ref a), l1, l2], st, M) Q = XX X d 194 (6, [some (.ref a), l1, l2], .ref a :: st, M) Q := H_ld rfl rfl rfl rfl rfl
theorem x194_6 : XX X d 194 (6, L, .ref a :: st, M) Q = yg (M.2.2 a) 9 38 X d 194 9 L st M Q := G_getf rfl (by decide) rfl rfl rfl
theorem x194_9 (h : -2147483648 ≤ p ∧ p ≤ 2147483647 ∧ -2147483648 ≤ q ∧ q ≤ 2147483647) : XX X d 194 (9, L, .int (ii q) :: .int (ii p) :: st, M) Q = bq (q ≤ p) X d 194 34 12 L st M Q := H_if2 rfl ⟨rfl, rfl, rfl, by decide⟩ rfl rfl rfl rfl (D_le h)
theorem x194_12 : XX X d 194 (12, [l0, some (.int x), l2], st, M) Q = XX X d 194 (13, [l0, some (.int x), l2], .int x :: st, M) Q := H_ld rfl rfl rfl rfl rfl
theorem x194_13 : XX X d 194 (13, [some (.ref a), l1, l2], st, M) Q = XX X d 194 (14, [some (.ref a), l1, l2], .ref a :: st, M) Q := H_ld rfl rfl rfl rfl rfl
theorem x194_14 : XX X d 194 (14, L, .ref a :: st, M) Q = yg (M.2.2 a) 9 37 X d 194 17 L st M Q := G_getf rfl (by decide) rfl rfl rfl
theorem x194_17 : XX X d 194 (17, [l0, l1, some (.int x)], st, M) Q = XX X d 194 (18, [l0, l1, some (.int x)], .int x :: st, M) Q := H_ld rfl rfl rfl rfl rfl
theorem x194_18 : XX X d 194 (18, L, .int x :: .ref a :: st, M) Q = ya (M.2.2 a) .iaload x X d 194 19 L st M Q := G_ald rfl ⟨⟨rfl, rfl, rfl, by decide⟩, rfl, rfl⟩ rfl rfl
theorem x194_19 : XX X d 194 (19, [some (.ref a), l1, l2], st, M) Q = XX X d 194 (20, [some (.ref a), l1, l2], .ref a :: st, M) Q := H_ld rfl rfl rfl rfl rfl
theorem x194_20 : XX X d 194 (20, L, .ref a :: st, M) Q = yg (M.2.2 a) 9 36 X d 194 23 L st M Q := G_getf rfl (by decide) rfl rfl rfl
theorem x194_23 : XX X d 194 (23, [l0, l1, some (.int x)], st, M) Q = XX X d 194 (24, [l0, l1, some (.int x)], .int x :: st, M) Q := H_ld rfl rfl rfl rfl rfl
theorem x194_24 : XX X d 194 (24, L, .int x :: .ref a :: st, M) Q = ya (M.2.2 a) .iaload x X d 194 25 L st M Q := G_ald rfl ⟨⟨rfl, rfl, rfl, by decide⟩, rfl, rfl⟩ rfl rfl
theorem x194_25 : XX X d 194 (25, L, .int (ii q) :: .int (ii p) :: st, M) Q = XX X d 194 (26, L, .int (ii (p - q)) :: st, M) Q := H_sub rfl (by decide) rfl
theorem x194_26 : XX X d 194 (26, L, .int (ii q) :: .int (ii p) :: st, M) Q = XX X d 194 (27, L, .int (ii (p + q)) :: st, M) Q := H_add rfl (by decide) rfl
theorem x194_27 (h : wide (some l0) = false) : XX X d 194 (27, [l0, l1, l2], .int x :: st, M) Q = XX X d 194 (28, [l0, some (.int x), l2], st, M) Q := H_st rfl rfl rfl rfl rfl rfl rfl rfl (Or.inr h)
theorem x194_28 (h : wide (some l1) = false) : XX X d 194 (28, [l0, l1, some (.int (ii p))], st, M) Q = XX X d 194 (31, [l0, l1, some (.int (ii (p + 1)))], st, M) Q := H_inc rfl (by decide) rfl rfl rfl (Or.inr h)
theorem x194_31 : XX X d 194 (31, L, st, M) Q = XX X d 194 (4, L, st, M) Q := H_jmp rfl (by decide) rfl
theorem x194_34 : XX X d 194 (34, [l0, some (.int x), l2], st, M) Q = XX X d 194 (35, [l0, some (.int x), l2], .int x :: st, M) Q := H_ld rfl rfl rfl rfl rfl
theorem x194_35 : XX X d 194 (35, L, [.int (ii p)], M) Q = Q (.inl (some (.int (ii p)))) M := G_ret rfl ⟨⟨⟨rfl, rfl, rfl, by decide⟩, rfl, rfl⟩, rfl, rfl⟩ rfl
theorem e194 : CC X d 194 [.ref a] M Q = XX X d 194 (0, [some (.ref a), none, none], [], M) Q := H_ent rfl rfl
-- 195 X9_replaceMatches (IC)I
theorem x195_0 : XX X d 195 (0, [some (.ref a), l1, l2, l3, l4, l5, l6, l7], st, M) Q = XX X d 195 (1, [some (.ref a), l1, l2, l3, l4, l5, l6, l7], .ref a :: st, M) Q := H_ld rfl rfl rfl rfl rfl
theorem x195_1 : XX X d 195 (1, [some (.ref a), l1, l2, l3, l4, l5, l6, l7], st, M) Q = XX X d 195 (2, [some (.ref a), l1, l2, l3, l4, l5, l6, l7], .ref a :: st, M) Q := H_ld rfl rfl rfl rfl rfl
theorem x195_2 : XX X d 195 (2, [l0, some (.int x), l2, l3, l4, l5, l6, l7], st, M) Q = XX X d 195 (3, [l0, some (.int x), l2, l3, l4, l5, l6, l7], .int x :: st, M) Q := H_ld rfl rfl rfl rfl rfl
theorem x195_3 {v1 : Value} (hd : 0 < d) (hs : stB st = true) : XX X d 195 (3, L, v1 :: .ref a :: st, M) Q = (mcl M a = some 9 ∧ CC X (d - 1) 172 [.ref a, v1] M (XC X d 195 3 6 L st Q)) := H_virt [v1] rfl (by decide) rfl rfl rfl rfl rfl hd hs
theorem x195_6 (h : -2147483648 ≤ p ∧ p ≤ 2147483647) : XX X d 195 (6, L, .int (ii p) :: st, M) Q = bq (p ≠ 0) X d 195 13 9 L st M Q := H_if rfl ⟨rfl, rfl, rfl, by decide⟩ rfl rfl rfl rfl (D_ne (b := 0) (by omega))
theorem x195_6b : XX X d 195 (6, L, .int (ii (b2i b)) :: st, M) Q = bq (b = true) X d 195 13 9 L st M Q := (x195_6 (b2i_r b)).trans (by rw [b2i_n0])
theorem x195_9 : XX X d 195 (9, L, st, M) Q = XX X d 195 (10, L, .int (ii 1) :: st, M) Q := G_cst rfl rfl rfl rfl rfl
theorem x195_10 : XX X d 195 (10, L, st, M) Q = XX X d 195 (25, L, st, M) Q := H_jmp rfl (by decide) rfl
theorem x195_13 : XX X d 195 (13, [l0, l1, some (.int x), l3, l4, l5, l6, l7], st, M) Q = XX X d 195 (14, [l0, l1, some (.int x), l3, l4, l5, l6, l7], .int x :: st, M) Q := H_ld rfl rfl rfl rfl rfl
theorem x195_14 {v1 : Value} (hd : 0 < d) (hs : stB st = true) : XX X d 195 (14, L, v1 :: st, M) Q = CC X (d - 1) 188 [v1] M (XC X d 195 14 17 L st Q) := H_static [v1] rfl (by decide) rfl rfl (by decide) rfl rfl hd hs
theorem x195_17 (h : -2147483648 ≤ p ∧ p ≤ 2147483647) : XX X d 195 (17, L, .int (ii p) :: st, M) Q = bq (p = 0) X d 195 24 20 L st M Q := H_if rfl ⟨rfl, rfl, rfl, by decide⟩ rfl rfl rfl rfl (D_eq (b := 0) (by omega))
theorem x195_17b : XX X d 195 (17, L, .int (ii (b2i b)) :: st, M) Q = bq (b = false) X d 195 24 20 L st M Q := (x195_17 (b2i_r b)).trans (by rw [b2i_0])
theorem x195_20 : XX X d 195 (20, L, st, M) Q = XX X d 195 (21, L, .int (ii 0) :: st, M) Q := G_cst rfl rfl rfl rfl rfl
theorem x195_21 : XX X d 195 (21, L, st, M) Q = XX X d 195 (25, L, st, M) Q := H_jmp rfl (by decide) rfl
theorem x195_24 : XX X d 195 (24, L, st, M) Q = XX X d 195 (25, L, .int (ii 2) :: st, M) Q := G_cst rfl rfl rfl rfl rfl
theorem x195_25 {v1 : Value} (hd : 0 < d) (hs : stB st = true) : XX X d 195 (25, L, v1 :: .ref a :: st, M) Q = (mcl M a = some 9 ∧ CC X (d - 1) 144 [.ref a, v1] M (XC X d 195 25 28 L st Q)) := H_virt [v1] rfl (by decide) rfl rfl rfl rfl rfl hd hs
theorem x195_28 (h : -2147483648 ≤ p ∧ p ≤ 2147483647) : XX X d 195 (28, L, .int (ii p) :: st, M) Q = bq (p = 0) X d 195 33 31 L st M Q := H_if rfl ⟨rfl, rfl, rfl, by decide⟩ rfl rfl rfl rfl (D_eq (b := 0) (by omega))
theorem x195_28b : XX X d 195 (28, L, .int (ii (b2i b)) :: st, M) Q = bq (b = false) X d 195 33 31 L st M Q := (x195_28 (b2i_r b)).trans (by rw [b2i_0])
theorem x195_31 : XX X d 195 (31, L, st, M) Q = XX X d 195 (32, L, .int (ii 0) :: st, M) Q := G_cst rfl rfl rfl rfl rfl
theorem x195_32 : XX X d 195 (32, L, [.int (ii p)], M) Q = Q (.inl (some (.int (ii p)))) M := G_ret rfl ⟨⟨⟨rfl, rfl, rfl, by decide⟩, rfl, rfl⟩, rfl, rfl⟩ rfl
theorem x195_33 : XX X d 195 (33, [some (.ref a), l1, l2, l3, l4, l5, l6, l7], st, M) Q = XX X d 195 (34, [some (.ref a), l1, l2, l3, l4, l5, l6, l7], .ref a :: st, M) Q := H_ld rfl rfl rfl rfl rfl
theorem x195_34 : XX X d 195 (34, [l0, some (.int x), l2, l3, l4, l5, l6, l7], st, M) Q = XX X d 195 (35, [l0, some (.int x), l2, l3, l4, l5, l6, l7], .int x :: st, M) Q := H_ld rfl rfl rfl rfl rfl
theorem x195_35 {v1 : Value} (hd : 0 < d) (hs : stB st = true) : XX X d 195 (35, L, v1 :: .ref a :: st, M) Q = (mcl M a = some 9 ∧ CC X (d - 1) 193 [.ref a, v1] M (XC X d 195 35 38 L st Q)) := H_virt [v1] rfl (by decide) rfl rfl rfl rfl rfl hd hs
theorem x195_38 : XX X d 195 (38, [some (.ref a), l1, l2, l3, l4, l5, l6, l7], st, M) Q = XX X d 195 (39, [some (.ref a), l1, l2, l3, l4, l5, l6, l7], .ref a :: st, M) Q := H_ld rfl rfl rfl rfl rfl
theorem x195_39 : XX X d 195 (39, [some (.ref a), l1, l2, l3, l4, l5, l6, l7], st, M) Q = XX X d 195 (40, [some (.ref a), l1, l2, l3, l4, l5, l6, l7], .ref a :: st, M) Q := H_ld rfl rfl rfl rfl rfl
theorem x195_40 : XX X d 195 (40, L, .ref a :: st, M) Q = yg (M.2.2 a) 9 0 X d 195 43 L st M Q := G_getf rfl (by decide) rfl rfl rfl
theorem x195_43 : XX X d 195 (43, L, st, M) Q = XX X d 195 (45, L, .int (ii 125) :: st, M) Q := G_cst rfl rfl rfl rfl rfl
theorem x195_45 : XX X d 195 (45, L, .int x :: .ref a :: st, M) Q = ya (M.2.2 a) .iaload x X d 195 46 L st M Q := G_ald rfl ⟨⟨rfl, rfl, rfl, by decide⟩, rfl, rfl⟩ rfl rfl
theorem x195_46 : XX X d 195 (46, [some (.ref a), l1, l2, l3, l4, l5, l6, l7], st, M) Q = XX X d 195 (47, [some (.ref a), l1, l2, l3, l4, l5, l6, l7], .ref a :: st, M) Q := H_ld rfl rfl rfl rfl rfl
theorem x195_47 (hd : 0 < d) (hs : stB st = true) : XX X d 195 (47, L, .ref a :: st, M) Q = (mcl M a = some 9 ∧ CC X (d - 1) 194 [.ref a] M (XC X d 195 47 50 L st Q)) := H_virt [] rfl (by decide) rfl rfl rfl rfl rfl hd hs
theorem x195_50 : XX X d 195 (50, L, .int (ii q) :: .int (ii p) :: st, M) Q = XX X d 195 (51, L, .int (ii (p - q)) :: st, M) Q := H_sub rfl (by decide) rfl
theorem x195_51 : XX X d 195 (51, [some (.ref a), l1, l2, l3, l4, l5, l6, l7], st, M) Q = XX X d 195 (52, [some (.ref a), l1, l2, l3, l4, l5, l6, l7], .ref a :: st, M) Q := H_ld rfl rfl rfl rfl rfl
theorem x195_52 : XX X d 195 (52, L, .ref a :: st, M) Q = yg (M.2.2 a) 9 38 X d 195 55 L st M Q := G_getf rfl (by decide) rfl rfl rfl
theorem x195_55 : XX X d 195 (55, L, .int (ii q) :: .int (ii p) :: st, M) Q = XX X d 195 (56, L, .int (ii (p + q)) :: st, M) Q := H_add rfl (by decide) rfl
theorem x195_56 : XX X d 195 (56, L, st, M) Q = XX X d 195 (58, L, .int (ii 40) :: st, M) Q := G_cst rfl rfl rfl rfl rfl
theorem x195_58 (h : -2147483648 ≤ p ∧ p ≤ 2147483647 ∧ -2147483648 ≤ q ∧ q ≤ 2147483647) : XX X d 195 (58, L, .int (ii q) :: .int (ii p) :: st, M) Q = bq (p ≤ q) X d 195 65 61 L st M Q := H_if2 rfl ⟨rfl, rfl, rfl, by decide⟩ rfl rfl rfl rfl (D_ge h)
theorem x195_61 : XX X d 195 (61, L, st, M) Q = XX X d 195 (62, L, .int (ii 3) :: st, M) Q := G_cst rfl rfl rfl rfl rfl
theorem x195_62 : XX X d 195 (62, L, st, M) Q = XX X d 195 (66, L, st, M) Q := H_jmp rfl (by decide) rfl
theorem x195_65 : XX X d 195 (65, L, st, M) Q = XX X d 195 (66, L, .int (ii 0) :: st, M) Q := G_cst rfl rfl rfl rfl rfl
theorem x195_66 {v1 : Value} (hd : 0 < d) (hs : stB st = true) : XX X d 195 (66, L, v1 :: .ref a :: st, M) Q = (mcl M a = some 9 ∧ CC X (d - 1) 144 [.ref a, v1] M (XC X d 195 66 69 L st Q)) := H_virt [v1] rfl (by decide) rfl rfl rfl rfl rfl hd hs
theorem x195_69 (h : -2147483648 ≤ p ∧ p ≤ 2147483647) : XX X d 195 (69, L, .int (ii p) :: st, M) Q = bq (p = 0) X d 195 74 72 L st M Q := H_if rfl ⟨rfl, rfl, rfl, by decide⟩ rfl rfl rfl rfl (D_eq (b := 0) (by omega))
theorem x195_69b : XX X d 195 (69, L, .int (ii (b2i b)) :: st, M) Q = bq (b = false) X d 195 74 72 L st M Q := (x195_69 (b2i_r b)).trans (by rw [b2i_0])
theorem x195_72 : XX X d 195 (72, L, st, M) Q = XX X d 195 (73, L, .int (ii 0) :: st, M) Q := G_cst rfl rfl rfl rfl rfl
theorem x195_73 : XX X d 195 (73, L, [.int (ii p)], M) Q = Q (.inl (some (.int (ii p)))) M := G_ret rfl ⟨⟨⟨rfl, rfl, rfl, by decide⟩, rfl, rfl⟩, rfl, rfl⟩ rfl
theorem x195_74 : XX X d 195 (74, [some (.ref a), l1, l2, l3, l4, l5, l6, l7], st, M) Q = XX X d 195 (75, [some (.ref a), l1, l2, l3, l4, l5, l6, l7], .ref a :: st, M) Q := H_ld rfl rfl rfl rfl rfl
theorem x195_75 (hd : 0 < d) (hs : stB st = true) : XX X d 195 (75, L, .ref a :: st, M) Q = (mcl M a = some 9 ∧ CC X (d - 1) 149 [.ref a] M (XC X d 195 75 78 L st Q)) := H_virt [] rfl (by decide) rfl rfl rfl rfl rfl hd hs
theorem x195_78 : XX X d 195 (78, L, st, M) Q = XX X d 195 (79, L, .int (ii 0) :: st, M) Q := G_cst rfl rfl rfl rfl rfl
theorem x195_79 (h : wide (some l2) = false) : XX X d 195 (79, [l0, l1, l2, l3, l4, l5, l6, l7], .int x :: st, M) Q = XX X d 195 (80, [l0, l1, l2, some (.int x), l4, l5, l6, l7], st, M) Q := H_st rfl rfl rfl rfl rfl rfl rfl rfl (Or.inr h)
theorem x195_80 : XX X d 195 (80, L, st, M) Q = XX X d 195 (81, L, .int (ii 0) :: st, M) Q := G_cst rfl rfl rfl rfl rfl
theorem x195_81 (h : wide (some l3) = false) : XX X d 195 (81, [l0, l1, l2, l3, l4, l5, l6, l7], .int x :: st, M) Q = XX X d 195 (83, [l0, l1, l2, l3, some (.int x), l5, l6, l7], st, M) Q := H_st rfl rfl rfl rfl rfl rfl rfl rfl (Or.inr h)
theorem x195_83 : XX X d 195 (83, L, st, M) Q = XX X d 195 (84, L, .int (ii 0) :: st, M) Q := G_cst rfl rfl rfl rfl rfl
theorem x195_84 (h : wide (some l4) = false) : XX X d 195 (84, [l0, l1, l2, l3, l4, l5, l6, l7], .int x :: st, M) Q = XX X d 195 (86, [l0, l1, l2, l3, l4, some (.int x), l6, l7], st, M) Q := H_st rfl rfl rfl rfl rfl rfl rfl rfl (Or.inr h)
theorem x195_86 : XX X d 195 (86, [l0, l1, l2, l3, l4, some (.int x), l6, l7], st, M) Q = XX X d 195 (88, [l0, l1, l2, l3, l4, some (.int x), l6, l7], .int x :: st, M) Q := H_ld rfl rfl rfl rfl rfl
theorem x195_88 : XX X d 195 (88, [some (.ref a), l1, l2, l3, l4, l5, l6, l7], st, M) Q = XX X d 195 (89, [some (.ref a), l1, l2, l3, l4, l5, l6, l7], .ref a :: st, M) Q := H_ld rfl rfl rfl rfl rfl
theorem x195_89 : XX X d 195 (89, L, .ref a :: st, M) Q = yg (M.2.2 a) 9 0 X d 195 92 L st M Q := G_getf rfl (by decide) rfl rfl rfl
theorem x195_92 : XX X d 195 (92, L, st, M) Q = XX X d 195 (94, L, .int (ii 125) :: st, M) Q := G_cst rfl rfl rfl rfl rfl
theorem x195_94 : XX X d 195 (94, L, .int x :: .ref a :: st, M) Q = ya (M.2.2 a) .iaload x X d 195 95 L st M Q := G_ald rfl ⟨⟨rfl, rfl, rfl, by decide⟩, rfl, rfl⟩ rfl rfl
theorem x195_95 (h : -2147483648 ≤ p ∧ p ≤ 2147483647 ∧ -2147483648 ≤ q ∧ q ≤ 2147483647) : XX X d 195 (95, L, .int (ii q) :: .int (ii p) :: st, M) Q = bq (q < p) X d 195 235 98 L st M Q := H_if2 rfl ⟨rfl, rfl, rfl, by decide⟩ rfl rfl rfl rfl (D_gt h)
theorem x195_98 : XX X d 195 (98, L, st, M) Q = XX X d 195 (99, L, .int (ii 0) :: st, M) Q := G_cst rfl rfl rfl rfl rfl
theorem x195_99 (h : wide (some l5) = false) : XX X d 195 (99, [l0, l1, l2, l3, l4, l5, l6, l7], .int x :: st, M) Q = XX X d 195 (101, [l0, l1, l2, l3, l4, l5, some (.int x), l7], st, M) Q := H_st rfl rfl rfl rfl rfl rfl rfl rfl (Or.inr h)
theorem x195_101 : XX X d 195 (101, L, st, M) Q = XX X d 195 (102, L, .int (ii 0) :: st, M) Q := G_cst rfl rfl rfl rfl rfl
theorem x195_102 (h : wide (some l6) = false) : XX X d 195 (102, [l0, l1, l2, l3, l4, l5, l6, l7], .int x :: st, M) Q = XX X d 195 (104, [l0, l1, l2, l3, l4, l5, l6, some (.int x)], st, M) Q := H_st rfl rfl rfl rfl rfl rfl rfl rfl (Or.inr h)
theorem x195_104 : XX X d 195 (104, [l0, l1, l2, l3, l4, l5, l6, some (.int x)], st, M) Q = XX X d 195 (106, [l0, l1, l2, l3, l4, l5, l6, some (.int x)], .int x :: st, M) Q := H_ld rfl rfl rfl rfl rfl
theorem x195_106 : XX X d 195 (106, [some (.ref a), l1, l2, l3, l4, l5, l6, l7], st, M) Q = XX X d 195 (107, [some (.ref a), l1, l2, l3, l4, l5, l6, l7], .ref a :: st, M) Q := H_ld rfl rfl rfl rfl rfl
theorem x195_107 : XX X d 195 (107, L, .ref a :: st, M) Q = yg (M.2.2 a) 9 38 X d 195 110 L st M Q := G_getf rfl (by decide) rfl rfl rfl
theorem x195_110 (h : -2147483648 ≤ p ∧ p ≤ 2147483647 ∧ -2147483648 ≤ q ∧ q ≤ 2147483647) : XX X d 195 (110, L, .int (ii q) :: .int (ii p) :: st, M) Q = bq (q ≤ p) X d 195 153 113 L st M Q := H_if2 rfl ⟨rfl, rfl, rfl, by decide⟩ rfl rfl rfl rfl (D_le h)
theorem x195_113 : XX X d 195 (113, [l0, l1, l2, l3, l4, l5, some (.int x), l7], st, M) Q = XX X d 195 (115, [l0, l1, l2, l3, l4, l5, some (.int x), l7], .int x :: st, M) Q := H_ld rfl rfl rfl rfl rfl
theorem x195_115 : XX X d 195 (115, [l0, l1, l2, l3, l4, some (.int x), l6, l7], st, M) Q = XX X d 195 (117, [l0, l1, l2, l3, l4, some (.int x), l6, l7], .int x :: st, M) Q := H_ld rfl rfl rfl rfl rfl
theorem x195_117 : XX X d 195 (117, [some (.ref a), l1, l2, l3, l4, l5, l6, l7], st, M) Q = XX X d 195 (118, [some (.ref a), l1, l2, l3, l4, l5, l6, l7], .ref a :: st, M) Q := H_ld rfl rfl rfl rfl rfl
theorem x195_118 : XX X d 195 (118, L, .ref a :: st, M) Q = yg (M.2.2 a) 9 36 X d 195 121 L st M Q := G_getf rfl (by decide) rfl rfl rfl
theorem x195_121 : XX X d 195 (121, [l0, l1, l2, l3, l4, l5, l6, some (.int x)], st, M) Q = XX X d 195 (123, [l0, l1, l2, l3, l4, l5, l6, some (.int x)], .int x :: st, M) Q := H_ld rfl rfl rfl rfl rfl
theorem x195_123 : XX X d 195 (123, L, .int x :: .ref a :: st, M) Q = ya (M.2.2 a) .iaload x X d 195 124 L st M Q := G_ald rfl ⟨⟨rfl, rfl, rfl, by decide⟩, rfl, rfl⟩ rfl rfl
theorem x195_124 (h : -2147483648 ≤ p ∧ p ≤ 2147483647 ∧ -2147483648 ≤ q ∧ q ≤ 2147483647) : XX X d 195 (124, L, .int (ii q) :: .int (ii p) :: st, M) Q = bq (p < q) X d 195 143 127 L st M Q := H_if2 rfl ⟨rfl, rfl, rfl, by decide⟩ rfl rfl rfl rfl (D_lt h)
theorem x195_127 : XX X d 195 (127, [l0, l1, l2, l3, l4, some (.int x), l6, l7], st, M) Q = XX X d 195 (129, [l0, l1, l2, l3, l4, some (.int x), l6, l7], .int x :: st, M) Q := H_ld rfl rfl rfl rfl rfl
theorem x195_129 : XX X d 195 (129, [some (.ref a), l1, l2, l3, l4, l5, l6, l7], st, M) Q = XX X d 195 (130, [some (.ref a), l1, l2, l3, l4, l5, l6, l7], .ref a :: st, M) Q := H_ld rfl rfl rfl rfl rfl
theorem x195_130 : XX X d 195 (130, L, .ref a :: st, M) Q = yg (M.2.2 a) 9 37 X d 195 133 L st M Q := G_getf rfl (by decide) rfl rfl rfl
theorem x195_133 : XX X d 195 (133, [l0, l1, l2, l3, l4, l5, l6, some (.int x)], st, M) Q = XX X d 195 (135, [l0, l1, l2, l3, l4, l5, l6, some (.int x)], .int x :: st, M) Q := H_ld rfl rfl rfl rfl rfl
theorem x195_135 : XX X d 195 (135, L, .int x :: .ref a :: st, M) Q = ya (M.2.2 a) .iaload x X d 195 136 L st M Q := G_ald rfl ⟨⟨rfl, rfl, rfl, by decide⟩, rfl, rfl⟩ rfl rfl
theorem x195_136 (h : -2147483648 ≤ p ∧ p ≤ 2147483647 ∧ -2147483648 ≤ q ∧ q ≤ 2147483647) : XX X d 195 (136, L, .int (ii q) :: .int (ii p) :: st, M) Q = bq (q ≤ p) X d 195 143 139 L st M Q := H_if2 rfl ⟨rfl, rfl, rfl, by decide⟩ rfl rfl rfl rfl (D_le h)
theorem x195_139 : XX X d 195 (139, L, st, M) Q = XX X d 195 (140, L, .int (ii 1) :: st, M) Q := G_cst rfl rfl rfl rfl rfl
theorem x195_140 : XX X d 195 (140, L, st, M) Q = XX X d 195 (144, L, st, M) Q := H_jmp rfl (by decide) rfl
theorem x195_143 : XX X d 195 (143, L, st, M) Q = XX X d 195 (144, L, .int (ii 0) :: st, M) Q := G_cst rfl rfl rfl rfl rfl
theorem x195_144 : XX X d 195 (144, L, .int x2 :: .int x :: st, M) Q = XX X d 195 (145, L, .int (x ||| x2) :: st, M) Q := G_sop rfl ⟨rfl, rfl, rfl, by decide⟩ rfl rfl
theorem x195_145 (h : wide (some l5) = false) : XX X d 195 (145, [l0, l1, l2, l3, l4, l5, l6, l7], .int x :: st, M) Q = XX X d 195 (147, [l0, l1, l2, l3, l4, l5, some (.int x), l7], st, M) Q := H_st rfl rfl rfl rfl rfl rfl rfl rfl (Or.inr h)
theorem x195_147 (h : wide (some l6) = false) : XX X d 195 (147, [l0, l1, l2, l3, l4, l5, l6, some (.int (ii p))], st, M) Q = XX X d 195 (150, [l0, l1, l2, l3, l4, l5, l6, some (.int (ii (p + 1)))], st, M) Q := H_inc rfl (by decide) rfl rfl rfl (Or.inr h)
theorem x195_150 : XX X d 195 (150, L, st, M) Q = XX X d 195 (104, L, st, M) Q := H_jmp rfl (by decide) rfl
theorem x195_153 : XX X d 195 (153, [l0, l1, l2, l3, some (.int x), l5, l6, l7], st, M) Q = XX X d 195 (155, [l0, l1, l2, l3, some (.int x), l5, l6, l7], .int x :: st, M) Q := H_ld rfl rfl rfl rfl rfl
theorem x195_155 : XX X d 195 (155, [some (.ref a), l1, l2, l3, l4, l5, l6, l7], st, M) Q = XX X d 195 (156, [some (.ref a), l1, l2, l3, l4, l5, l6, l7], .ref a :: st, M) Q := H_ld rfl rfl rfl rfl rfl
theorem x195_156 : XX X d 195 (156, L, .ref a :: st, M) Q = yg (M.2.2 a) 9 38 X d 195 159 L st M Q := G_getf rfl (by decide) rfl rfl rfl
theorem x195_159 (h : -2147483648 ≤ p ∧ p ≤ 2147483647 ∧ -2147483648 ≤ q ∧ q ≤ 2147483647) : XX X d 195 (159, L, .int (ii q) :: .int (ii p) :: st, M) Q = bq (q ≤ p) X d 195 190 162 L st M Q := H_if2 rfl ⟨rfl, rfl, rfl, by decide⟩ rfl rfl rfl rfl (D_le h)
theorem x195_162 : XX X d 195 (162, [some (.ref a), l1, l2, l3, l4, l5, l6, l7], st, M) Q = XX X d 195 (163, [some (.ref a), l1, l2, l3, l4, l5, l6, l7], .ref a :: st, M) Q := H_ld rfl rfl rfl rfl rfl
theorem x195_163 : XX X d 195 (163, L, .ref a :: st, M) Q = yg (M.2.2 a) 9 36 X d 195 166 L st M Q := G_getf rfl (by decide) rfl rfl rfl
theorem x195_166 : XX X d 195 (166, [l0, l1, l2, l3, some (.int x), l5, l6, l7], st, M) Q = XX X d 195 (168, [l0, l1, l2, l3, some (.int x), l5, l6, l7], .int x :: st, M) Q := H_ld rfl rfl rfl rfl rfl
theorem x195_168 : XX X d 195 (168, L, .int x :: .ref a :: st, M) Q = ya (M.2.2 a) .iaload x X d 195 169 L st M Q := G_ald rfl ⟨⟨rfl, rfl, rfl, by decide⟩, rfl, rfl⟩ rfl rfl
theorem x195_169 : XX X d 195 (169, [l0, l1, l2, l3, l4, some (.int x), l6, l7], st, M) Q = XX X d 195 (171, [l0, l1, l2, l3, l4, some (.int x), l6, l7], .int x :: st, M) Q := H_ld rfl rfl rfl rfl rfl
theorem x195_171 (h : -2147483648 ≤ p ∧ p ≤ 2147483647 ∧ -2147483648 ≤ q ∧ q ≤ 2147483647) : XX X d 195 (171, L, .int (ii q) :: .int (ii p) :: st, M) Q = bq (p ≠ q) X d 195 190 174 L st M Q := H_if2 rfl ⟨rfl, rfl, rfl, by decide⟩ rfl rfl rfl rfl (D_ne h)
theorem x195_174 : XX X d 195 (174, [some (.ref a), l1, l2, l3, l4, l5, l6, l7], st, M) Q = XX X d 195 (175, [some (.ref a), l1, l2, l3, l4, l5, l6, l7], .ref a :: st, M) Q := H_ld rfl rfl rfl rfl rfl
theorem x195_175 : XX X d 195 (175, L, .ref a :: st, M) Q = yg (M.2.2 a) 9 39 X d 195 178 L st M Q := G_getf rfl (by decide) rfl rfl rfl
theorem x195_178 : XX X d 195 (178, [l0, l1, l2, some (.int x), l4, l5, l6, l7], st, M) Q = XX X d 195 (179, [l0, l1, l2, some (.int x), l4, l5, l6, l7], .int x :: st, M) Q := H_ld rfl rfl rfl rfl rfl
theorem x195_179 : XX X d 195 (179, [l0, l1, some (.int x), l3, l4, l5, l6, l7], st, M) Q = XX X d 195 (180, [l0, l1, some (.int x), l3, l4, l5, l6, l7], .int x :: st, M) Q := H_ld rfl rfl rfl rfl rfl
theorem x195_180 : XX X d 195 (180, L, v :: .int x :: .ref a :: st, M) Q = yw (M.2.2 a) a .iastore v x X d 195 181 L st M Q := G_ast rfl ⟨⟨rfl, rfl, rfl, by decide⟩, rfl, rfl⟩ rfl rfl rfl
theorem x195_181 (h : wide (some l2) = false) : XX X d 195 (181, [l0, l1, l2, some (.int (ii p)), l4, l5, l6, l7], st, M) Q = XX X d 195 (184, [l0, l1, l2, some (.int (ii (p + 1))), l4, l5, l6, l7], st, M) Q := H_inc rfl (by decide) rfl rfl rfl (Or.inr h)
theorem x195_184 (h : wide (some l3) = false) : XX X d 195 (184, [l0, l1, l2, l3, some (.int (ii p)), l5, l6, l7], st, M) Q = XX X d 195 (187, [l0, l1, l2, l3, some (.int (ii (p + 1))), l5, l6, l7], st, M) Q := H_inc rfl (by decide) rfl rfl rfl (Or.inr h)
theorem x195_187 : XX X d 195 (187, L, st, M) Q = XX X d 195 (153, L, st, M) Q := H_jmp rfl (by decide) rfl
theorem x195_190 : XX X d 195 (190, [l0, l1, l2, l3, l4, l5, some (.int x), l7], st, M) Q = XX X d 195 (192, [l0, l1, l2, l3, l4, l5, some (.int x), l7], .int x :: st, M) Q := H_ld rfl rfl rfl rfl rfl
theorem x195_192 (h : -2147483648 ≤ p ∧ p ≤ 2147483647) : XX X d 195 (192, L, .int (ii p) :: st, M) Q = bq (p ≠ 0) X d 195 229 195 L st M Q := H_if rfl ⟨rfl, rfl, rfl, by decide⟩ rfl rfl rfl rfl (D_ne (b := 0) (by omega))
theorem x195_192b : XX X d 195 (192, L, .int (ii (b2i b)) :: st, M) Q = bq (b = true) X d 195 229 195 L st M Q := (x195_192 (b2i_r b)).trans (by rw [b2i_n0])
theorem x195_195 : XX X d 195 (195, [l0, l1, l2, l3, l4, some (.int x), l6, l7], st, M) Q = XX X d 195 (197, [l0, l1, l2, l3, l4, some (.int x), l6, l7], .int x :: st, M) Q := H_ld rfl rfl rfl rfl rfl
theorem x195_197 : XX X d 195 (197, [some (.ref a), l1, l2, l3, l4, l5, l6, l7], st, M) Q = XX X d 195 (198, [some (.ref a), l1, l2, l3, l4, l5, l6, l7], .ref a :: st, M) Q := H_ld rfl rfl rfl rfl rfl
theorem x195_198 : XX X d 195 (198, L, .ref a :: st, M) Q = yg (M.2.2 a) 9 0 X d 195 201 L st M Q := G_getf rfl (by decide) rfl rfl rfl
theorem x195_201 : XX X d 195 (201, L, st, M) Q = XX X d 195 (203, L, .int (ii 125) :: st, M) Q := G_cst rfl rfl rfl rfl rfl
theorem x195_203 : XX X d 195 (203, L, .int x :: .ref a :: st, M) Q = ya (M.2.2 a) .iaload x X d 195 204 L st M Q := G_ald rfl ⟨⟨rfl, rfl, rfl, by decide⟩, rfl, rfl⟩ rfl rfl
theorem x195_204 (h : -2147483648 ≤ p ∧ p ≤ 2147483647 ∧ -2147483648 ≤ q ∧ q ≤ 2147483647) : XX X d 195 (204, L, .int (ii q) :: .int (ii p) :: st, M) Q = bq (p ≠ q) X d 195 210 207 L st M Q := H_if2 rfl ⟨rfl, rfl, rfl, by decide⟩ rfl rfl rfl rfl (D_ne h)
theorem x195_207 : XX X d 195 (207, L, st, M) Q = XX X d 195 (229, L, st, M) Q := H_jmp rfl (by decide) rfl
theorem x195_210 : XX X d 195 (210, [some (.ref a), l1, l2, l3, l4, l5, l6, l7], st, M) Q = XX X d 195 (211, [some (.ref a), l1, l2, l3, l4, l5, l6, l7], .ref a :: st, M) Q := H_ld rfl rfl rfl rfl rfl
theorem x195_211 : XX X d 195 (211, L, .ref a :: st, M) Q = yg (M.2.2 a) 9 39 X d 195 214 L st M Q := G_getf rfl (by decide) rfl rfl rfl
theorem x195_214 : XX X d 195 (214, [l0, l1, l2, some (.int x), l4, l5, l6, l7], st, M) Q = XX X d 195 (215, [l0, l1, l2, some (.int x), l4, l5, l6, l7], .int x :: st, M) Q := H_ld rfl rfl rfl rfl rfl
theorem x195_215 : XX X d 195 (215, [some (.ref a), l1, l2, l3, l4, l5, l6, l7], st, M) Q = XX X d 195 (216, [some (.ref a), l1, l2, l3, l4, l5, l6, l7], .ref a :: st, M) Q := H_ld rfl rfl rfl rfl rfl
theorem x195_216 : XX X d 195 (216, L, .ref a :: st, M) Q = yg (M.2.2 a) 9 0 X d 195 219 L st M Q := G_getf rfl (by decide) rfl rfl rfl
theorem x195_219 : XX X d 195 (219, L, st, M) Q = XX X d 195 (221, L, .int (ii 126) :: st, M) Q := G_cst rfl rfl rfl rfl rfl
theorem x195_221 : XX X d 195 (221, [l0, l1, l2, l3, l4, some (.int x), l6, l7], st, M) Q = XX X d 195 (223, [l0, l1, l2, l3, l4, some (.int x), l6, l7], .int x :: st, M) Q := H_ld rfl rfl rfl rfl rfl
theorem x195_223 : XX X d 195 (223, L, .int (ii q) :: .int (ii p) :: st, M) Q = XX X d 195 (224, L, .int (ii (p + q)) :: st, M) Q := H_add rfl (by decide) rfl
theorem x195_224 : XX X d 195 (224, L, .int x :: .ref a :: st, M) Q = ya (M.2.2 a) .iaload x X d 195 225 L st M Q := G_ald rfl ⟨⟨rfl, rfl, rfl, by decide⟩, rfl, rfl⟩ rfl rfl
theorem x195_225 : XX X d 195 (225, L, v :: .int x :: .ref a :: st, M) Q = yw (M.2.2 a) a .iastore v x X d 195 226 L st M Q := G_ast rfl ⟨⟨rfl, rfl, rfl, by decide⟩, rfl, rfl⟩ rfl rfl rfl
theorem x195_226 (h : wide (some l2) = false) : XX X d 195 (226, [l0, l1, l2, some (.int (ii p)), l4, l5, l6, l7], st, M) Q = XX X d 195 (229, [l0, l1, l2, some (.int (ii (p + 1))), l4, l5, l6, l7], st, M) Q := H_inc rfl (by decide) rfl rfl rfl (Or.inr h)
theorem x195_229 (h : wide (some l4) = false) : XX X d 195 (229, [l0, l1, l2, l3, l4, some (.int (ii p)), l6, l7], st, M) Q = XX X d 195 (232, [l0, l1, l2, l3, l4, some (.int (ii (p + 1))), l6, l7], st, M) Q := H_inc rfl (by decide) rfl rfl rfl (Or.inr h)
theorem x195_232 : XX X d 195 (232, L, st, M) Q = XX X d 195 (86, L, st, M) Q := H_jmp rfl (by decide) rfl
theorem x195_235 : XX X d 195 (235, [some (.ref a), l1, l2, l3, l4, l5, l6, l7], st, M) Q = XX X d 195 (236, [some (.ref a), l1, l2, l3, l4, l5, l6, l7], .ref a :: st, M) Q := H_ld rfl rfl rfl rfl rfl
theorem x195_236 : XX X d 195 (236, L, .ref a :: st, M) Q = yg (M.2.2 a) 9 0 X d 195 239 L st M Q := G_getf rfl (by decide) rfl rfl rfl
theorem x195_239 : XX X d 195 (239, L, st, M) Q = XX X d 195 (241, L, .int (ii 125) :: st, M) Q := G_cst rfl rfl rfl rfl rfl
theorem x195_241 : XX X d 195 (241, [l0, l1, l2, some (.int x), l4, l5, l6, l7], st, M) Q = XX X d 195 (242, [l0, l1, l2, some (.int x), l4, l5, l6, l7], .int x :: st, M) Q := H_ld rfl rfl rfl rfl rfl
theorem x195_242 : XX X d 195 (242, L, v :: .int x :: .ref a :: st, M) Q = yw (M.2.2 a) a .iastore v x X d 195 243 L st M Q := G_ast rfl ⟨⟨rfl, rfl, rfl, by decide⟩, rfl, rfl⟩ rfl rfl rfl
theorem x195_243 : XX X d 195 (243, L, st, M) Q = XX X d 195 (244, L, .int (ii 0) :: st, M) Q := G_cst rfl rfl rfl rfl rfl
theorem x195_244 (h : wide (some l4) = false) : XX X d 195 (244, [l0, l1, l2, l3, l4, l5, l6, l7], .int x :: st, M) Q = XX X d 195 (246, [l0, l1, l2, l3, l4, some (.int x), l6, l7], st, M) Q := H_st rfl rfl rfl rfl rfl rfl rfl rfl (Or.inr h)
theorem x195_246 : XX X d 195 (246, [l0, l1, l2, l3, l4, some (.int x), l6, l7], st, M) Q = XX X d 195 (248, [l0, l1, l2, l3, l4, some (.int x), l6, l7], .int x :: st, M) Q := H_ld rfl rfl rfl rfl rfl
theorem x195_248 : XX X d 195 (248, [l0, l1, l2, some (.int x), l4, l5, l6, l7], st, M) Q = XX X d 195 (249, [l0, l1, l2, some (.int x), l4, l5, l6, l7], .int x :: st, M) Q := H_ld rfl rfl rfl rfl rfl
theorem x195_249 (h : -2147483648 ≤ p ∧ p ≤ 2147483647 ∧ -2147483648 ≤ q ∧ q ≤ 2147483647) : XX X d 195 (249, L, .int (ii q) :: .int (ii p) :: st, M) Q = bq (q ≤ p) X d 195 275 252 L st M Q := H_if2 rfl ⟨rfl, rfl, rfl, by decide⟩ rfl rfl rfl rfl (D_le h)
theorem x195_252 : XX X d 195 (252, [some (.ref a), l1, l2, l3, l4, l5, l6, l7], st, M) Q = XX X d 195 (253, [some (.ref a), l1, l2, l3, l4, l5, l6, l7], .ref a :: st, M) Q := H_ld rfl rfl rfl rfl rfl
theorem x195_253 : XX X d 195 (253, L, .ref a :: st, M) Q = yg (M.2.2 a) 9 0 X d 195 256 L st M Q := G_getf rfl (by decide) rfl rfl rfl
theorem x195_256 : XX X d 195 (256, L, st, M) Q = XX X d 195 (258, L, .int (ii 126) :: st, M) Q := G_cst rfl rfl rfl rfl rfl
theorem x195_258 : XX X d 195 (258, [l0, l1, l2, l3, l4, some (.int x), l6, l7], st, M) Q = XX X d 195 (260, [l0, l1, l2, l3, l4, some (.int x), l6, l7], .int x :: st, M) Q := H_ld rfl rfl rfl rfl rfl
theorem x195_260 : XX X d 195 (260, L, .int (ii q) :: .int (ii p) :: st, M) Q = XX X d 195 (261, L, .int (ii (p + q)) :: st, M) Q := H_add rfl (by decide) rfl
theorem x195_261 : XX X d 195 (261, [some (.ref a), l1, l2, l3, l4, l5, l6, l7], st, M) Q = XX X d 195 (262, [some (.ref a), l1, l2, l3, l4, l5, l6, l7], .ref a :: st, M) Q := H_ld rfl rfl rfl rfl rfl
theorem x195_262 : XX X d 195 (262, L, .ref a :: st, M) Q = yg (M.2.2 a) 9 39 X d 195 265 L st M Q := G_getf rfl (by decide) rfl rfl rfl
theorem x195_265 : XX X d 195 (265, [l0, l1, l2, l3, l4, some (.int x), l6, l7], st, M) Q = XX X d 195 (267, [l0, l1, l2, l3, l4, some (.int x), l6, l7], .int x :: st, M) Q := H_ld rfl rfl rfl rfl rfl
theorem x195_267 : XX X d 195 (267, L, .int x :: .ref a :: st, M) Q = ya (M.2.2 a) .iaload x X d 195 268 L st M Q := G_ald rfl ⟨⟨rfl, rfl, rfl, by decide⟩, rfl, rfl⟩ rfl rfl
theorem x195_268 : XX X d 195 (268, L, v :: .int x :: .ref a :: st, M) Q = yw (M.2.2 a) a .iastore v x X d 195 269 L st M Q := G_ast rfl ⟨⟨rfl, rfl, rfl, by decide⟩, rfl, rfl⟩ rfl rfl rfl
theorem x195_269 (h : wide (some l4) = false) : XX X d 195 (269, [l0, l1, l2, l3, l4, some (.int (ii p)), l6, l7], st, M) Q = XX X d 195 (272, [l0, l1, l2, l3, l4, some (.int (ii (p + 1))), l6, l7], st, M) Q := H_inc rfl (by decide) rfl rfl rfl (Or.inr h)
theorem x195_272 : XX X d 195 (272, L, st, M) Q = XX X d 195 (246, L, st, M) Q := H_jmp rfl (by decide) rfl
theorem x195_275 : XX X d 195 (275, [some (.ref a), l1, l2, l3, l4, l5, l6, l7], st, M) Q = XX X d 195 (276, [some (.ref a), l1, l2, l3, l4, l5, l6, l7], .ref a :: st, M) Q := H_ld rfl rfl rfl rfl rfl
theorem x195_276 : XX X d 195 (276, L, .ref a :: st, M) Q = yg (M.2.2 a) 9 38 X d 195 279 L st M Q := G_getf rfl (by decide) rfl rfl rfl
theorem x195_279 : XX X d 195 (279, L, [.int (ii p)], M) Q = Q (.inl (some (.int (ii p)))) M := G_ret rfl ⟨⟨⟨rfl, rfl, rfl, by decide⟩, rfl, rfl⟩, rfl, rfl⟩ rfl
theorem e195 : CC X d 195 [.ref a, .int x, .int x2] M Q = XX X d 195 (0, [some (.ref a), some (.int x), some (.int x2), none, none, none, none, none], [], M) Q := H_ent rfl rfl
-- 196 X9_textLength ()I
theorem x196_0 : XX X d 196 (0, [some (.ref a)], st, M) Q = XX X d 196 (1, [some (.ref a)], .ref a :: st, M) Q := H_ld rfl rfl rfl rfl rfl
theorem x196_1 : XX X d 196 (1, L, st, M) Q = XX X d 196 (2, L, .int (ii 0) :: st, M) Q := G_cst rfl rfl rfl rfl rfl
theorem x196_2 : XX X d 196 (2, L, v :: .ref a :: st, M) Q = yp (M.2.2 a) a 9 5 v X d 196 5 L st M Q := G_putf rfl (by decide) rfl rfl rfl
theorem x196_5 : XX X d 196 (5, [some (.ref a)], st, M) Q = XX X d 196 (6, [some (.ref a)], .ref a :: st, M) Q := H_ld rfl rfl rfl rfl rfl
theorem x196_6 : XX X d 196 (6, L, .ref a :: st, M) Q = yg (M.2.2 a) 9 0 X d 196 9 L st M Q := G_getf rfl (by decide) rfl rfl rfl
theorem x196_9 : XX X d 196 (9, L, st, M) Q = XX X d 196 (11, L, .int (ii 125) :: st, M) Q := G_cst rfl rfl rfl rfl rfl
theorem x196_11 : XX X d 196 (11, L, .int x :: .ref a :: st, M) Q = ya (M.2.2 a) .iaload x X d 196 12 L st M Q := G_ald rfl ⟨⟨rfl, rfl, rfl, by decide⟩, rfl, rfl⟩ rfl rfl
theorem x196_12 : XX X d 196 (12, L, [.int (ii p)], M) Q = Q (.inl (some (.int (ii p)))) M := G_ret rfl ⟨⟨⟨rfl, rfl, rfl, by decide⟩, rfl, rfl⟩, rfl, rfl⟩ rfl
theorem e196 : CC X d 196 [.ref a] M Q = XX X d 196 (0, [some (.ref a)], [], M) Q := H_ent rfl rfl
-- 197 X9_textCharacter (I)C
theorem x197_0 : XX X d 197 (0, [some (.ref a), l1], st, M) Q = XX X d 197 (1, [some (.ref a), l1], .ref a :: st, M) Q := H_ld rfl rfl rfl rfl rfl
theorem x197_1 : XX X d 197 (1, [l0, some (.int x)], st, M) Q = XX X d 197 (2, [l0, some (.int x)], .int x :: st, M) Q := H_ld rfl rfl rfl rfl rfl
theorem x197_2 : XX X d 197 (2, L, st, M) Q = XX X d 197 (3, L, .int (ii 0) :: st, M) Q := G_cst rfl rfl rfl rfl rfl
theorem x197_3 : XX X d 197 (3, [some (.ref a), l1], st, M) Q = XX X d 197 (4, [some (.ref a), l1], .ref a :: st, M) Q := H_ld rfl rfl rfl rfl rfl
theorem x197_4 : XX X d 197 (4, L, .ref a :: st, M) Q = yg (M.2.2 a) 9 0 X d 197 7 L st M Q := G_getf rfl (by decide) rfl rfl rfl
theorem x197_7 : XX X d 197 (7, L, st, M) Q = XX X d 197 (9, L, .int (ii 125) :: st, M) Q := G_cst rfl rfl rfl rfl rfl
theorem x197_9 : XX X d 197 (9, L, .int x :: .ref a :: st, M) Q = ya (M.2.2 a) .iaload x X d 197 10 L st M Q := G_ald rfl ⟨⟨rfl, rfl, rfl, by decide⟩, rfl, rfl⟩ rfl rfl
theorem x197_10 : XX X d 197 (10, L, st, M) Q = XX X d 197 (11, L, .int (ii 1) :: st, M) Q := G_cst rfl rfl rfl rfl rfl
theorem x197_11 : XX X d 197 (11, L, .int (ii q) :: .int (ii p) :: st, M) Q = XX X d 197 (12, L, .int (ii (p - q)) :: st, M) Q := H_sub rfl (by decide) rfl
theorem x197_12 {v1 v2 v3 : Value} (hd : 0 < d) (hs : stB st = true) : XX X d 197 (12, L, v3 :: v2 :: v1 :: st, M) Q = CC X (d - 1) 145 [v1, v2, v3] M (XC X d 197 12 15 L st Q) := H_static [v1, v2, v3] rfl (by decide) rfl rfl (by decide) rfl rfl hd hs
theorem x197_15 (h : -2147483648 ≤ p ∧ p ≤ 2147483647) : XX X d 197 (15, L, .int (ii p) :: st, M) Q = bq (p = 0) X d 197 22 18 L st M Q := H_if rfl ⟨rfl, rfl, rfl, by decide⟩ rfl rfl rfl rfl (D_eq (b := 0) (by omega))
theorem x197_15b : XX X d 197 (15, L, .int (ii (b2i b)) :: st, M) Q = bq (b = false) X d 197 22 18 L st M Q := (x197_15 (b2i_r b)).trans (by rw [b2i_0])
theorem x197_18 : XX X d 197 (18, L, st, M) Q = XX X d 197 (19, L, .int (ii 0) :: st, M) Q := G_cst rfl rfl rfl rfl rfl
theorem x197_19 : XX X d 197 (19, L, st, M) Q = XX X d 197 (23, L, st, M) Q := H_jmp rfl (by decide) rfl
theorem x197_22 : XX X d 197 (22, L, st, M) Q = XX X d 197 (23, L, .int (ii 1) :: st, M) Q := G_cst rfl rfl rfl rfl rfl
theorem x197_23 {v1 : Value} (hd : 0 < d) (hs : stB st = true) : XX X d 197 (23, L, v1 :: .ref a :: st, M) Q = (mcl M a = some 9 ∧ CC X (d - 1) 144 [.ref a, v1] M (XC X d 197 23 26 L st Q)) := H_virt [v1] rfl (by decide) rfl rfl rfl rfl rfl hd hs
theorem x197_26 (h : -2147483648 ≤ p ∧ p ≤ 2147483647) : XX X d 197 (26, L, .int (ii p) :: st, M) Q = bq (p = 0) X d 197 34 29 L st M Q := H_if rfl ⟨rfl, rfl, rfl, by decide⟩ rfl rfl rfl rfl (D_eq (b := 0) (by omega))
theorem x197_26b : XX X d 197 (26, L, .int (ii (b2i b)) :: st, M) Q = bq (b = false) X d 197 34 29 L st M Q := (x197_26 (b2i_r b)).trans (by rw [b2i_0])
theorem x197_29 : XX X d 197 (29, L, st, M) Q = XX X d 197 (31, L, .int (ii 32) :: st, M) Q := G_cst rfl rfl rfl rfl rfl
theorem x197_31 : XX X d 197 (31, L, st, M) Q = XX X d 197 (44, L, st, M) Q := H_jmp rfl (by decide) rfl
theorem x197_34 : XX X d 197 (34, [some (.ref a), l1], st, M) Q = XX X d 197 (35, [some (.ref a), l1], .ref a :: st, M) Q := H_ld rfl rfl rfl rfl rfl
theorem x197_35 : XX X d 197 (35, L, .ref a :: st, M) Q = yg (M.2.2 a) 9 0 X d 197 38 L st M Q := G_getf rfl (by decide) rfl rfl rfl
theorem x197_38 : XX X d 197 (38, L, st, M) Q = XX X d 197 (40, L, .int (ii 126) :: st, M) Q := G_cst rfl rfl rfl rfl rfl
theorem x197_40 : XX X d 197 (40, [l0, some (.int x)], st, M) Q = XX X d 197 (41, [l0, some (.int x)], .int x :: st, M) Q := H_ld rfl rfl rfl rfl rfl
theorem x197_41 : XX X d 197 (41, L, .int (ii q) :: .int (ii p) :: st, M) Q = XX X d 197 (42, L, .int (ii (p + q)) :: st, M) Q := H_add rfl (by decide) rfl
theorem x197_42 : XX X d 197 (42, L, .int x :: .ref a :: st, M) Q = ya (M.2.2 a) .iaload x X d 197 43 L st M Q := G_ald rfl ⟨⟨rfl, rfl, rfl, by decide⟩, rfl, rfl⟩ rfl rfl
theorem x197_43 (h : 0 ≤ p ∧ p ≤ 65535) : XX X d 197 (43, L, .int (ii p) :: st, M) Q = XX X d 197 (44, L, .int (ii p) :: st, M) Q := H_i2c rfl (by decide) rfl h
theorem x197_44 (h : 0 ≤ p ∧ p ≤ 65535) : XX X d 197 (44, L, [.int (ii p)], M) Q = Q (.inl (some (.int (ii p)))) M := G_ret rfl ⟨⟨⟨rfl, rfl, rfl, by decide⟩, rfl, rfl⟩, rfl, rfl⟩ (cz_ok h)
theorem e197 : CC X d 197 [.ref a, .int x] M Q = XX X d 197 (0, [some (.ref a), some (.int x)], [], M) Q := H_ent rfl rfl
-- 198 X9_matchesWhole (I)Z
theorem x198_0 : XX X d 198 (0, [some (.ref a), l1], st, M) Q = XX X d 198 (1, [some (.ref a), l1], .ref a :: st, M) Q := H_ld rfl rfl rfl rfl rfl
theorem x198_1 : XX X d 198 (1, [l0, some (.int x)], st, M) Q = XX X d 198 (2, [l0, some (.int x)], .int x :: st, M) Q := H_ld rfl rfl rfl rfl rfl
theorem x198_2 {v1 : Value} (hd : 0 < d) (hs : stB st = true) : XX X d 198 (2, L, v1 :: .ref a :: st, M) Q = (mcl M a = some 9 ∧ CC X (d - 1) 173 [.ref a, v1] M (XC X d 198 2 5 L st Q)) := H_virt [v1] rfl (by decide) rfl rfl rfl rfl rfl hd hs
theorem x198_5 (h : -2147483648 ≤ p ∧ p ≤ 2147483647) : XX X d 198 (5, L, .int (ii p) :: st, M) Q = bq (p = 0) X d 198 10 8 L st M Q := H_if rfl ⟨rfl, rfl, rfl, by decide⟩ rfl rfl rfl rfl (D_eq (b := 0) (by omega))
theorem x198_5b : XX X d 198 (5, L, .int (ii (b2i b)) :: st, M) Q = bq (b = false) X d 198 10 8 L st M Q := (x198_5 (b2i_r b)).trans (by rw [b2i_0])
theorem x198_8 : XX X d 198 (8, L, st, M) Q = XX X d 198 (9, L, .int (ii 0) :: st, M) Q := G_cst rfl rfl rfl rfl rfl
theorem x198_9 (h : p = 0 ∨ p = 1) : XX X d 198 (9, L, [.int (ii p)], M) Q = Q (.inl (some (.int (ii p)))) M := G_ret rfl ⟨⟨⟨rfl, rfl, rfl, by decide⟩, rfl, rfl⟩, rfl, rfl⟩ (bz_ok h)
theorem x198_10 : XX X d 198 (10, [some (.ref a), l1], st, M) Q = XX X d 198 (11, [some (.ref a), l1], .ref a :: st, M) Q := H_ld rfl rfl rfl rfl rfl
theorem x198_11 : XX X d 198 (11, [l0, some (.int x)], st, M) Q = XX X d 198 (12, [l0, some (.int x)], .int x :: st, M) Q := H_ld rfl rfl rfl rfl rfl
theorem x198_12 {v1 : Value} (hd : 0 < d) (hs : stB st = true) : XX X d 198 (12, L, v1 :: .ref a :: st, M) Q = (mcl M a = some 9 ∧ CC X (d - 1) 164 [.ref a, v1] M (XC X d 198 12 15 L st Q)) := H_virt [v1] rfl (by decide) rfl rfl rfl rfl rfl hd hs
theorem x198_15 : XX X d 198 (15, [some (.ref a), l1], st, M) Q = XX X d 198 (16, [some (.ref a), l1], .ref a :: st, M) Q := H_ld rfl rfl rfl rfl rfl
theorem x198_16 (hd : 0 < d) (hs : stB st = true) : XX X d 198 (16, L, .ref a :: st, M) Q = (mcl M a = some 9 ∧ CC X (d - 1) 169 [.ref a] M (XC X d 198 16 19 L st Q)) := H_virt [] rfl (by decide) rfl rfl rfl rfl rfl hd hs
theorem x198_19 : XX X d 198 (19, [some (.ref a), l1], st, M) Q = XX X d 198 (20, [some (.ref a), l1], .ref a :: st, M) Q := H_ld rfl rfl rfl rfl rfl
theorem x198_20 : XX X d 198 (20, L, st, M) Q = XX X d 198 (21, L, .int (ii 0) :: st, M) Q := G_cst rfl rfl rfl rfl rfl
theorem x198_21 : XX X d 198 (21, L, st, M) Q = XX X d 198 (22, L, .int (ii 1) :: st, M) Q := G_cst rfl rfl rfl rfl rfl
theorem x198_22 {v1 v2 : Value} (hd : 0 < d) (hs : stB st = true) : XX X d 198 (22, L, v2 :: v1 :: .ref a :: st, M) Q = (mcl M a = some 9 ∧ CC X (d - 1) 170 [.ref a, v1, v2] M (XC X d 198 22 25 L st Q)) := H_virt [v1, v2] rfl (by decide) rfl rfl rfl rfl rfl hd hs
theorem x198_25 (h : p = 0 ∨ p = 1) : XX X d 198 (25, L, [.int (ii p)], M) Q = Q (.inl (some (.int (ii p)))) M := G_ret rfl ⟨⟨⟨rfl, rfl, rfl, by decide⟩, rfl, rfl⟩, rfl, rfl⟩ (bz_ok h)
theorem e198 : CC X d 198 [.ref a, .int x] M Q = XX X d 198 (0, [some (.ref a), some (.int x)], [], M) Q := H_ent rfl rfl
-- 199 X9_matchesAll (I)Z
theorem x199_0 : XX X d 199 (0, [some (.ref a), l1], st, M) Q = XX X d 199 (1, [some (.ref a), l1], .ref a :: st, M) Q := H_ld rfl rfl rfl rfl rfl
theorem x199_1 : XX X d 199 (1, [l0, some (.int x)], st, M) Q = XX X d 199 (2, [l0, some (.int x)], .int x :: st, M) Q := H_ld rfl rfl rfl rfl rfl
theorem x199_2 {v1 : Value} (hd : 0 < d) (hs : stB st = true) : XX X d 199 (2, L, v1 :: .ref a :: st, M) Q = (mcl M a = some 9 ∧ CC X (d - 1) 198 [.ref a, v1] M (XC X d 199 2 5 L st Q)) := H_virt [v1] rfl (by decide) rfl rfl rfl rfl rfl hd hs
theorem x199_5 (h : p = 0 ∨ p = 1) : XX X d 199 (5, L, [.int (ii p)], M) Q = Q (.inl (some (.int (ii p)))) M := G_ret rfl ⟨⟨⟨rfl, rfl, rfl, by decide⟩, rfl, rfl⟩, rfl, rfl⟩ (bz_ok h)
theorem e199 : CC X d 199 [.ref a, .int x] M Q = XX X d 199 (0, [some (.ref a), some (.int x)], [], M) Q := H_ent rfl rfl
-- 200 X9_matchesAllByThreads (I)Z
theorem x200_0 : XX X d 200 (0, [some (.ref a), l1], st, M) Q = XX X d 200 (1, [some (.ref a), l1], .ref a :: st, M) Q := H_ld rfl rfl rfl rfl rfl
theorem x200_1 : XX X d 200 (1, [l0, some (.int x)], st, M) Q = XX X d 200 (2, [l0, some (.int x)], .int x :: st, M) Q := H_ld rfl rfl rfl rfl rfl
theorem x200_2 {v1 : Value} (hd : 0 < d) (hs : stB st = true) : XX X d 200 (2, L, v1 :: .ref a :: st, M) Q = (mcl M a = some 9 ∧ CC X (d - 1) 198 [.ref a, v1] M (XC X d 200 2 5 L st Q)) := H_virt [v1] rfl (by decide) rfl rfl rfl rfl rfl hd hs
theorem x200_5 (h : p = 0 ∨ p = 1) : XX X d 200 (5, L, [.int (ii p)], M) Q = Q (.inl (some (.int (ii p)))) M := G_ret rfl ⟨⟨⟨rfl, rfl, rfl, by decide⟩, rfl, rfl⟩, rfl, rfl⟩ (bz_ok h)
theorem e200 : CC X d 200 [.ref a, .int x] M Q = XX X d 200 (0, [some (.ref a), some (.int x)], [], M) Q := H_ent rfl rfl
-- 201 X9_isPlace (II)Z
theorem x201_0 : XX X d 201 (0, [some (.ref a), l1, l2], st, M) Q = XX X d 201 (1, [some (.ref a), l1, l2], .ref a :: st, M) Q := H_ld rfl rfl rfl rfl rfl
theorem x201_1 : XX X d 201 (1, [l0, some (.int x), l2], st, M) Q = XX X d 201 (2, [l0, some (.int x), l2], .int x :: st, M) Q := H_ld rfl rfl rfl rfl rfl
theorem x201_2 {v1 : Value} (hd : 0 < d) (hs : stB st = true) : XX X d 201 (2, L, v1 :: .ref a :: st, M) Q = (mcl M a = some 9 ∧ CC X (d - 1) 172 [.ref a, v1] M (XC X d 201 2 5 L st Q)) := H_virt [v1] rfl (by decide) rfl rfl rfl rfl rfl hd hs
theorem x201_5 (h : -2147483648 ≤ p ∧ p ≤ 2147483647) : XX X d 201 (5, L, .int (ii p) :: st, M) Q = bq (p = 0) X d 201 27 8 L st M Q := H_if rfl ⟨rfl, rfl, rfl, by decide⟩ rfl rfl rfl rfl (D_eq (b := 0) (by omega))
theorem x201_5b : XX X d 201 (5, L, .int (ii (b2i b)) :: st, M) Q = bq (b = false) X d 201 27 8 L st M Q := (x201_5 (b2i_r b)).trans (by rw [b2i_0])
theorem x201_8 : XX X d 201 (8, [l0, l1, some (.int x)], st, M) Q = XX X d 201 (9, [l0, l1, some (.int x)], .int x :: st, M) Q := H_ld rfl rfl rfl rfl rfl
theorem x201_9 : XX X d 201 (9, L, st, M) Q = XX X d 201 (10, L, .int (ii 0) :: st, M) Q := G_cst rfl rfl rfl rfl rfl
theorem x201_10 : XX X d 201 (10, [some (.ref a), l1, l2], st, M) Q = XX X d 201 (11, [some (.ref a), l1, l2], .ref a :: st, M) Q := H_ld rfl rfl rfl rfl rfl
theorem x201_11 : XX X d 201 (11, L, .ref a :: st, M) Q = yg (M.2.2 a) 9 0 X d 201 14 L st M Q := G_getf rfl (by decide) rfl rfl rfl
theorem x201_14 : XX X d 201 (14, L, st, M) Q = XX X d 201 (16, L, .int (ii 125) :: st, M) Q := G_cst rfl rfl rfl rfl rfl
theorem x201_16 : XX X d 201 (16, L, .int x :: .ref a :: st, M) Q = ya (M.2.2 a) .iaload x X d 201 17 L st M Q := G_ald rfl ⟨⟨rfl, rfl, rfl, by decide⟩, rfl, rfl⟩ rfl rfl
theorem x201_17 {v1 v2 v3 : Value} (hd : 0 < d) (hs : stB st = true) : XX X d 201 (17, L, v3 :: v2 :: v1 :: st, M) Q = CC X (d - 1) 145 [v1, v2, v3] M (XC X d 201 17 20 L st Q) := H_static [v1, v2, v3] rfl (by decide) rfl rfl (by decide) rfl rfl hd hs
theorem x201_20 (h : -2147483648 ≤ p ∧ p ≤ 2147483647) : XX X d 201 (20, L, .int (ii p) :: st, M) Q = bq (p = 0) X d 201 27 23 L st M Q := H_if rfl ⟨rfl, rfl, rfl, by decide⟩ rfl rfl rfl rfl (D_eq (b := 0) (by omega))
theorem x201_20b : XX X d 201 (20, L, .int (ii (b2i b)) :: st, M) Q = bq (b = false) X d 201 27 23 L st M Q := (x201_20 (b2i_r b)).trans (by rw [b2i_0])
theorem x201_23 : XX X d 201 (23, L, st, M) Q = XX X d 201 (24, L, .int (ii 1) :: st, M) Q := G_cst rfl rfl rfl rfl rfl
theorem x201_24 : XX X d 201 (24, L, st, M) Q = XX X d 201 (28, L, st, M) Q := H_jmp rfl (by decide) rfl
theorem x201_27 : XX X d 201 (27, L, st, M) Q = XX X d 201 (28, L, .int (ii 0) :: st, M) Q := G_cst rfl rfl rfl rfl rfl
theorem x201_28 (h : p = 0 ∨ p = 1) : XX X d 201 (28, L, [.int (ii p)], M) Q = Q (.inl (some (.int (ii p)))) M := G_ret rfl ⟨⟨⟨rfl, rfl, rfl, by decide⟩, rfl, rfl⟩, rfl, rfl⟩ (bz_ok h)
theorem e201 : CC X d 201 [.ref a, .int x, .int x2] M Q = XX X d 201 (0, [some (.ref a), some (.int x), some (.int x2)], [], M) Q := H_ent rfl rfl
-- 202 X9_found (II)I
theorem x202_0 : XX X d 202 (0, [some (.ref a), l1, l2, l3], st, M) Q = XX X d 202 (1, [some (.ref a), l1, l2, l3], .ref a :: st, M) Q := H_ld rfl rfl rfl rfl rfl
theorem x202_1 : XX X d 202 (1, [some (.ref a), l1, l2, l3], st, M) Q = XX X d 202 (2, [some (.ref a), l1, l2, l3], .ref a :: st, M) Q := H_ld rfl rfl rfl rfl rfl
theorem x202_2 : XX X d 202 (2, [l0, some (.int x), l2, l3], st, M) Q = XX X d 202 (3, [l0, some (.int x), l2, l3], .int x :: st, M) Q := H_ld rfl rfl rfl rfl rfl
theorem x202_3 : XX X d 202 (3, [l0, l1, some (.int x), l3], st, M) Q = XX X d 202 (4, [l0, l1, some (.int x), l3], .int x :: st, M) Q := H_ld rfl rfl rfl rfl rfl
theorem x202_4 {v1 v2 : Value} (hd : 0 < d) (hs : stB st = true) : XX X d 202 (4, L, v2 :: v1 :: .ref a :: st, M) Q = (mcl M a = some 9 ∧ CC X (d - 1) 201 [.ref a, v1, v2] M (XC X d 202 4 7 L st Q)) := H_virt [v1, v2] rfl (by decide) rfl rfl rfl rfl rfl hd hs
theorem x202_7 (h : -2147483648 ≤ p ∧ p ≤ 2147483647) : XX X d 202 (7, L, .int (ii p) :: st, M) Q = bq (p = 0) X d 202 14 10 L st M Q := H_if rfl ⟨rfl, rfl, rfl, by decide⟩ rfl rfl rfl rfl (D_eq (b := 0) (by omega))
theorem x202_7b : XX X d 202 (7, L, .int (ii (b2i b)) :: st, M) Q = bq (b = false) X d 202 14 10 L st M Q := (x202_7 (b2i_r b)).trans (by rw [b2i_0])
theorem x202_10 : XX X d 202 (10, L, st, M) Q = XX X d 202 (11, L, .int (ii 0) :: st, M) Q := G_cst rfl rfl rfl rfl rfl
theorem x202_11 : XX X d 202 (11, L, st, M) Q = XX X d 202 (15, L, st, M) Q := H_jmp rfl (by decide) rfl
theorem x202_14 : XX X d 202 (14, L, st, M) Q = XX X d 202 (15, L, .int (ii 1) :: st, M) Q := G_cst rfl rfl rfl rfl rfl
theorem x202_15 {v1 : Value} (hd : 0 < d) (hs : stB st = true) : XX X d 202 (15, L, v1 :: .ref a :: st, M) Q = (mcl M a = some 9 ∧ CC X (d - 1) 144 [.ref a, v1] M (XC X d 202 15 18 L st Q)) := H_virt [v1] rfl (by decide) rfl rfl rfl rfl rfl hd hs
theorem x202_18 (h : -2147483648 ≤ p ∧ p ≤ 2147483647) : XX X d 202 (18, L, .int (ii p) :: st, M) Q = bq (p = 0) X d 202 23 21 L st M Q := H_if rfl ⟨rfl, rfl, rfl, by decide⟩ rfl rfl rfl rfl (D_eq (b := 0) (by omega))
theorem x202_18b : XX X d 202 (18, L, .int (ii (b2i b)) :: st, M) Q = bq (b = false) X d 202 23 21 L st M Q := (x202_18 (b2i_r b)).trans (by rw [b2i_0])
theorem x202_21 : XX X d 202 (21, L, st, M) Q = XX X d 202 (22, L, .int (ii 0) :: st, M) Q := G_cst rfl rfl rfl rfl rfl
theorem x202_22 : XX X d 202 (22, L, [.int (ii p)], M) Q = Q (.inl (some (.int (ii p)))) M := G_ret rfl ⟨⟨⟨rfl, rfl, rfl, by decide⟩, rfl, rfl⟩, rfl, rfl⟩ rfl
theorem x202_23 : XX X d 202 (23, [some (.ref a), l1, l2, l3], st, M) Q = XX X d 202 (24, [some (.ref a), l1, l2, l3], .ref a :: st, M) Q := H_ld rfl rfl rfl rfl rfl
theorem x202_24 : XX X d 202 (24, [l0, some (.int x), l2, l3], st, M) Q = XX X d 202 (25, [l0, some (.int x), l2, l3], .int x :: st, M) Q := H_ld rfl rfl rfl rfl rfl
theorem x202_25 {v1 : Value} (hd : 0 < d) (hs : stB st = true) : XX X d 202 (25, L, v1 :: .ref a :: st, M) Q = (mcl M a = some 9 ∧ CC X (d - 1) 164 [.ref a, v1] M (XC X d 202 25 28 L st Q)) := H_virt [v1] rfl (by decide) rfl rfl rfl rfl rfl hd hs
theorem x202_28 : XX X d 202 (28, [some (.ref a), l1, l2, l3], st, M) Q = XX X d 202 (29, [some (.ref a), l1, l2, l3], .ref a :: st, M) Q := H_ld rfl rfl rfl rfl rfl
theorem x202_29 : XX X d 202 (29, [l0, l1, some (.int x), l3], st, M) Q = XX X d 202 (30, [l0, l1, some (.int x), l3], .int x :: st, M) Q := H_ld rfl rfl rfl rfl rfl
theorem x202_30 {v1 : Value} (hd : 0 < d) (hs : stB st = true) : XX X d 202 (30, L, v1 :: .ref a :: st, M) Q = (mcl M a = some 9 ∧ CC X (d - 1) 171 [.ref a, v1] M (XC X d 202 30 33 L st Q)) := H_virt [v1] rfl (by decide) rfl rfl rfl rfl rfl hd hs
theorem x202_33 (h : wide (some l2) = false) : XX X d 202 (33, [l0, l1, l2, l3], .int x :: st, M) Q = XX X d 202 (34, [l0, l1, l2, some (.int x)], st, M) Q := H_st rfl rfl rfl rfl rfl rfl rfl rfl (Or.inr h)
theorem x202_34 : XX X d 202 (34, [some (.ref a), l1, l2, l3], st, M) Q = XX X d 202 (35, [some (.ref a), l1, l2, l3], .ref a :: st, M) Q := H_ld rfl rfl rfl rfl rfl
theorem x202_35 : XX X d 202 (35, [l0, l1, l2, some (.int x)], st, M) Q = XX X d 202 (36, [l0, l1, l2, some (.int x)], .int x :: st, M) Q := H_ld rfl rfl rfl rfl rfl
theorem x202_36 (h : -2147483648 ≤ p ∧ p ≤ 2147483647) : XX X d 202 (36, L, .int (ii p) :: st, M) Q = bq (0 ≤ p) X d 202 43 39 L st M Q := H_if rfl ⟨rfl, rfl, rfl, by decide⟩ rfl rfl rfl rfl (D_le (b := 0) (by omega))
theorem x202_39 : XX X d 202 (39, L, st, M) Q = XX X d 202 (40, L, .int (ii 2) :: st, M) Q := G_cst rfl rfl rfl rfl rfl
theorem x202_40 : XX X d 202 (40, L, st, M) Q = XX X d 202 (44, L, st, M) Q := H_jmp rfl (by decide) rfl
theorem x202_43 : XX X d 202 (43, L, st, M) Q = XX X d 202 (44, L, .int (ii 0) :: st, M) Q := G_cst rfl rfl rfl rfl rfl
theorem x202_44 {v1 : Value} (hd : 0 < d) (hs : stB st = true) : XX X d 202 (44, L, v1 :: .ref a :: st, M) Q = (mcl M a = some 9 ∧ CC X (d - 1) 144 [.ref a, v1] M (XC X d 202 44 47 L st Q)) := H_virt [v1] rfl (by decide) rfl rfl rfl rfl rfl hd hs
theorem x202_47 (h : -2147483648 ≤ p ∧ p ≤ 2147483647) : XX X d 202 (47, L, .int (ii p) :: st, M) Q = bq (p = 0) X d 202 54 50 L st M Q := H_if rfl ⟨rfl, rfl, rfl, by decide⟩ rfl rfl rfl rfl (D_eq (b := 0) (by omega))
theorem x202_47b : XX X d 202 (47, L, .int (ii (b2i b)) :: st, M) Q = bq (b = false) X d 202 54 50 L st M Q := (x202_47 (b2i_r b)).trans (by rw [b2i_0])
theorem x202_50 : XX X d 202 (50, L, st, M) Q = XX X d 202 (51, L, .int (ii 0) :: st, M) Q := G_cst rfl rfl rfl rfl rfl
theorem x202_51 : XX X d 202 (51, L, st, M) Q = XX X d 202 (55, L, st, M) Q := H_jmp rfl (by decide) rfl
theorem x202_54 : XX X d 202 (54, [l0, l1, l2, some (.int x)], st, M) Q = XX X d 202 (55, [l0, l1, l2, some (.int x)], .int x :: st, M) Q := H_ld rfl rfl rfl rfl rfl
theorem x202_55 : XX X d 202 (55, L, [.int (ii p)], M) Q = Q (.inl (some (.int (ii p)))) M := G_ret rfl ⟨⟨⟨rfl, rfl, rfl, by decide⟩, rfl, rfl⟩, rfl, rfl⟩ rfl
theorem e202 : CC X d 202 [.ref a, .int x, .int x2] M Q = XX X d 202 (0, [some (.ref a), some (.int x), some (.int x2), none], [], M) Q := H_ent rfl rfl
-- 203 X9_foundEnd (II)I
theorem x203_0 : XX X d 203 (0, [some (.ref a), l1, l2], st, M) Q = XX X d 203 (1, [some (.ref a), l1, l2], .ref a :: st, M) Q := H_ld rfl rfl rfl rfl rfl
theorem x203_1 : XX X d 203 (1, [l0, some (.int x), l2], st, M) Q = XX X d 203 (2, [l0, some (.int x), l2], .int x :: st, M) Q := H_ld rfl rfl rfl rfl rfl
theorem x203_2 : XX X d 203 (2, [l0, l1, some (.int x)], st, M) Q = XX X d 203 (3, [l0, l1, some (.int x)], .int x :: st, M) Q := H_ld rfl rfl rfl rfl rfl
theorem x203_3 {v1 v2 : Value} (hd : 0 < d) (hs : stB st = true) : XX X d 203 (3, L, v2 :: v1 :: .ref a :: st, M) Q = (mcl M a = some 9 ∧ CC X (d - 1) 202 [.ref a, v1, v2] M (XC X d 203 3 6 L st Q)) := H_virt [v1, v2] rfl (by decide) rfl rfl rfl rfl rfl hd hs
theorem x203_6 (h : v.category = 1) : XX X d 203 (6, L, v :: st, M) Q = XX X d 203 (7, L, st, M) Q := G_sop rfl ⟨rfl, rfl, rfl, by decide⟩ (if_pos h) rfl
theorem x203_7 : XX X d 203 (7, [some (.ref a), l1, l2], st, M) Q = XX X d 203 (8, [some (.ref a), l1, l2], .ref a :: st, M) Q := H_ld rfl rfl rfl rfl rfl
theorem x203_8 : XX X d 203 (8, L, .ref a :: st, M) Q = yg (M.2.2 a) 9 5 X d 203 11 L st M Q := G_getf rfl (by decide) rfl rfl rfl
theorem x203_11 (h : -2147483648 ≤ p ∧ p ≤ 2147483647) : XX X d 203 (11, L, .int (ii p) :: st, M) Q = bq (p ≤ 0) X d 203 18 14 L st M Q := H_if rfl ⟨rfl, rfl, rfl, by decide⟩ rfl rfl rfl rfl (D_ge (b := 0) (by omega))
theorem x203_14 : XX X d 203 (14, L, st, M) Q = XX X d 203 (15, L, .int (ii 0) :: st, M) Q := G_cst rfl rfl rfl rfl rfl
theorem x203_15 : XX X d 203 (15, L, st, M) Q = XX X d 203 (22, L, st, M) Q := H_jmp rfl (by decide) rfl
theorem x203_18 : XX X d 203 (18, [some (.ref a), l1, l2], st, M) Q = XX X d 203 (19, [some (.ref a), l1, l2], .ref a :: st, M) Q := H_ld rfl rfl rfl rfl rfl
theorem x203_19 : XX X d 203 (19, L, .ref a :: st, M) Q = yg (M.2.2 a) 9 35 X d 203 22 L st M Q := G_getf rfl (by decide) rfl rfl rfl
theorem x203_22 : XX X d 203 (22, L, [.int (ii p)], M) Q = Q (.inl (some (.int (ii p)))) M := G_ret rfl ⟨⟨⟨rfl, rfl, rfl, by decide⟩, rfl, rfl⟩, rfl, rfl⟩ rfl
theorem e203 : CC X d 203 [.ref a, .int x, .int x2] M Q = XX X d 203 (0, [some (.ref a), some (.int x), some (.int x2)], [], M) Q := H_ent rfl rfl
-- 204 X9_find (II)I
theorem x204_0 : XX X d 204 (0, [some (.ref a), l1, l2], st, M) Q = XX X d 204 (1, [some (.ref a), l1, l2], .ref a :: st, M) Q := H_ld rfl rfl rfl rfl rfl
theorem x204_1 : XX X d 204 (1, [l0, some (.int x), l2], st, M) Q = XX X d 204 (2, [l0, some (.int x), l2], .int x :: st, M) Q := H_ld rfl rfl rfl rfl rfl
theorem x204_2 : XX X d 204 (2, [l0, l1, some (.int x)], st, M) Q = XX X d 204 (3, [l0, l1, some (.int x)], .int x :: st, M) Q := H_ld rfl rfl rfl rfl rfl
theorem x204_3 {v1 v2 : Value} (hd : 0 < d) (hs : stB st = true) : XX X d 204 (3, L, v2 :: v1 :: .ref a :: st, M) Q = (mcl M a = some 9 ∧ CC X (d - 1) 202 [.ref a, v1, v2] M (XC X d 204 3 6 L st Q)) := H_virt [v1, v2] rfl (by decide) rfl rfl rfl rfl rfl hd hs
theorem x204_6 : XX X d 204 (6, L, [.int (ii p)], M) Q = Q (.inl (some (.int (ii p)))) M := G_ret rfl ⟨⟨⟨rfl, rfl, rfl, by decide⟩, rfl, rfl⟩, rfl, rfl⟩ rfl
theorem e204 : CC X d 204 [.ref a, .int x, .int x2] M Q = XX X d 204 (0, [some (.ref a), some (.int x), some (.int x2)], [], M) Q := H_ent rfl rfl
-- 205 X9_findEnd (II)I
theorem x205_0 : XX X d 205 (0, [some (.ref a), l1, l2], st, M) Q = XX X d 205 (1, [some (.ref a), l1, l2], .ref a :: st, M) Q := H_ld rfl rfl rfl rfl rfl
theorem x205_1 : XX X d 205 (1, [l0, some (.int x), l2], st, M) Q = XX X d 205 (2, [l0, some (.int x), l2], .int x :: st, M) Q := H_ld rfl rfl rfl rfl rfl
theorem x205_2 : XX X d 205 (2, [l0, l1, some (.int x)], st, M) Q = XX X d 205 (3, [l0, l1, some (.int x)], .int x :: st, M) Q := H_ld rfl rfl rfl rfl rfl
theorem x205_3 {v1 v2 : Value} (hd : 0 < d) (hs : stB st = true) : XX X d 205 (3, L, v2 :: v1 :: .ref a :: st, M) Q = (mcl M a = some 9 ∧ CC X (d - 1) 203 [.ref a, v1, v2] M (XC X d 205 3 6 L st Q)) := H_virt [v1, v2] rfl (by decide) rfl rfl rfl rfl rfl hd hs
theorem x205_6 : XX X d 205 (6, L, [.int (ii p)], M) Q = Q (.inl (some (.int (ii p)))) M := G_ret rfl ⟨⟨⟨rfl, rfl, rfl, by decide⟩, rfl, rfl⟩, rfl, rfl⟩ rfl
theorem e205 : CC X d 205 [.ref a, .int x, .int x2] M Q = XX X d 205 (0, [some (.ref a), some (.int x), some (.int x2)], [], M) Q := H_ent rfl rfl
-- 206 X9_findByThreads (II)I
theorem x206_0 : XX X d 206 (0, [some (.ref a), l1, l2], st, M) Q = XX X d 206 (1, [some (.ref a), l1, l2], .ref a :: st, M) Q := H_ld rfl rfl rfl rfl rfl
theorem x206_1 : XX X d 206 (1, [l0, some (.int x), l2], st, M) Q = XX X d 206 (2, [l0, some (.int x), l2], .int x :: st, M) Q := H_ld rfl rfl rfl rfl rfl
theorem x206_2 : XX X d 206 (2, [l0, l1, some (.int x)], st, M) Q = XX X d 206 (3, [l0, l1, some (.int x)], .int x :: st, M) Q := H_ld rfl rfl rfl rfl rfl
theorem x206_3 {v1 v2 : Value} (hd : 0 < d) (hs : stB st = true) : XX X d 206 (3, L, v2 :: v1 :: .ref a :: st, M) Q = (mcl M a = some 9 ∧ CC X (d - 1) 202 [.ref a, v1, v2] M (XC X d 206 3 6 L st Q)) := H_virt [v1, v2] rfl (by decide) rfl rfl rfl rfl rfl hd hs
theorem x206_6 : XX X d 206 (6, L, [.int (ii p)], M) Q = Q (.inl (some (.int (ii p)))) M := G_ret rfl ⟨⟨⟨rfl, rfl, rfl, by decide⟩, rfl, rfl⟩, rfl, rfl⟩ rfl
theorem e206 : CC X d 206 [.ref a, .int x, .int x2] M Q = XX X d 206 (0, [some (.ref a), some (.int x), some (.int x2)], [], M) Q := H_ent rfl rfl
-- 207 X9_findEndByThreads (II)I
theorem x207_0 : XX X d 207 (0, [some (.ref a), l1, l2], st, M) Q = XX X d 207 (1, [some (.ref a), l1, l2], .ref a :: st, M) Q := H_ld rfl rfl rfl rfl rfl
theorem x207_1 : XX X d 207 (1, [l0, some (.int x), l2], st, M) Q = XX X d 207 (2, [l0, some (.int x), l2], .int x :: st, M) Q := H_ld rfl rfl rfl rfl rfl
theorem x207_2 : XX X d 207 (2, [l0, l1, some (.int x)], st, M) Q = XX X d 207 (3, [l0, l1, some (.int x)], .int x :: st, M) Q := H_ld rfl rfl rfl rfl rfl
theorem x207_3 {v1 v2 : Value} (hd : 0 < d) (hs : stB st = true) : XX X d 207 (3, L, v2 :: v1 :: .ref a :: st, M) Q = (mcl M a = some 9 ∧ CC X (d - 1) 203 [.ref a, v1, v2] M (XC X d 207 3 6 L st Q)) := H_virt [v1, v2] rfl (by decide) rfl rfl rfl rfl rfl hd hs
theorem x207_6 : XX X d 207 (6, L, [.int (ii p)], M) Q = Q (.inl (some (.int (ii p)))) M := G_ret rfl ⟨⟨⟨rfl, rfl, rfl, by decide⟩, rfl, rfl⟩, rfl, rfl⟩ rfl
theorem e207 : CC X d 207 [.ref a, .int x, .int x2] M Q = XX X d 207 (0, [some (.ref a), some (.int x), some (.int x2)], [], M) Q := H_ent rfl rfl
-- 208 X9_isGroup (III)Z
theorem x208_0 : XX X d 208 (0, [some (.ref a), l1, l2, l3], st, M) Q = XX X d 208 (1, [some (.ref a), l1, l2, l3], .ref a :: st, M) Q := H_ld rfl rfl rfl rfl rfl
theorem x208_1 : XX X d 208 (1, [some (.ref a), l1, l2, l3], st, M) Q = XX X d 208 (2, [some (.ref a), l1, l2, l3], .ref a :: st, M) Q := H_ld rfl rfl rfl rfl rfl
theorem x208_2 : XX X d 208 (2, [l0, some (.int x), l2, l3], st, M) Q = XX X d 208 (3, [l0, some (.int x), l2, l3], .int x :: st, M) Q := H_ld rfl rfl rfl rfl rfl
theorem x208_3 : XX X d 208 (3, [l0, l1, some (.int x), l3], st, M) Q = XX X d 208 (4, [l0, l1, some (.int x), l3], .int x :: st, M) Q := H_ld rfl rfl rfl rfl rfl
theorem x208_4 {v1 v2 : Value} (hd : 0 < d) (hs : stB st = true) : XX X d 208 (4, L, v2 :: v1 :: .ref a :: st, M) Q = (mcl M a = some 9 ∧ CC X (d - 1) 201 [.ref a, v1, v2] M (XC X d 208 4 7 L st Q)) := H_virt [v1, v2] rfl (by decide) rfl rfl rfl rfl rfl hd hs
theorem x208_7 (h : -2147483648 ≤ p ∧ p ≤ 2147483647) : XX X d 208 (7, L, .int (ii p) :: st, M) Q = bq (p = 0) X d 208 14 10 L st M Q := H_if rfl ⟨rfl, rfl, rfl, by decide⟩ rfl rfl rfl rfl (D_eq (b := 0) (by omega))
theorem x208_7b : XX X d 208 (7, L, .int (ii (b2i b)) :: st, M) Q = bq (b = false) X d 208 14 10 L st M Q := (x208_7 (b2i_r b)).trans (by rw [b2i_0])
theorem x208_10 : XX X d 208 (10, L, st, M) Q = XX X d 208 (11, L, .int (ii 0) :: st, M) Q := G_cst rfl rfl rfl rfl rfl
theorem x208_11 : XX X d 208 (11, L, st, M) Q = XX X d 208 (15, L, st, M) Q := H_jmp rfl (by decide) rfl
theorem x208_14 : XX X d 208 (14, L, st, M) Q = XX X d 208 (15, L, .int (ii 1) :: st, M) Q := G_cst rfl rfl rfl rfl rfl
theorem x208_15 {v1 : Value} (hd : 0 < d) (hs : stB st = true) : XX X d 208 (15, L, v1 :: .ref a :: st, M) Q = (mcl M a = some 9 ∧ CC X (d - 1) 144 [.ref a, v1] M (XC X d 208 15 18 L st Q)) := H_virt [v1] rfl (by decide) rfl rfl rfl rfl rfl hd hs
theorem x208_18 (h : -2147483648 ≤ p ∧ p ≤ 2147483647) : XX X d 208 (18, L, .int (ii p) :: st, M) Q = bq (p = 0) X d 208 23 21 L st M Q := H_if rfl ⟨rfl, rfl, rfl, by decide⟩ rfl rfl rfl rfl (D_eq (b := 0) (by omega))
theorem x208_18b : XX X d 208 (18, L, .int (ii (b2i b)) :: st, M) Q = bq (b = false) X d 208 23 21 L st M Q := (x208_18 (b2i_r b)).trans (by rw [b2i_0])
theorem x208_21 : XX X d 208 (21, L, st, M) Q = XX X d 208 (22, L, .int (ii 0) :: st, M) Q := G_cst rfl rfl rfl rfl rfl
theorem x208_22 (h : p = 0 ∨ p = 1) : XX X d 208 (22, L, [.int (ii p)], M) Q = Q (.inl (some (.int (ii p)))) M := G_ret rfl ⟨⟨⟨rfl, rfl, rfl, by decide⟩, rfl, rfl⟩, rfl, rfl⟩ (bz_ok h)
theorem x208_23 : XX X d 208 (23, [some (.ref a), l1, l2, l3], st, M) Q = XX X d 208 (24, [some (.ref a), l1, l2, l3], .ref a :: st, M) Q := H_ld rfl rfl rfl rfl rfl
theorem x208_24 : XX X d 208 (24, [l0, some (.int x), l2, l3], st, M) Q = XX X d 208 (25, [l0, some (.int x), l2, l3], .int x :: st, M) Q := H_ld rfl rfl rfl rfl rfl
theorem x208_25 {v1 : Value} (hd : 0 < d) (hs : stB st = true) : XX X d 208 (25, L, v1 :: .ref a :: st, M) Q = (mcl M a = some 9 ∧ CC X (d - 1) 164 [.ref a, v1] M (XC X d 208 25 28 L st Q)) := H_virt [v1] rfl (by decide) rfl rfl rfl rfl rfl hd hs
theorem x208_28 : XX X d 208 (28, [some (.ref a), l1, l2, l3], st, M) Q = XX X d 208 (29, [some (.ref a), l1, l2, l3], .ref a :: st, M) Q := H_ld rfl rfl rfl rfl rfl
theorem x208_29 : XX X d 208 (29, [l0, l1, l2, some (.int x)], st, M) Q = XX X d 208 (30, [l0, l1, l2, some (.int x)], .int x :: st, M) Q := H_ld rfl rfl rfl rfl rfl
theorem x208_30 : XX X d 208 (30, L, st, M) Q = XX X d 208 (31, L, .int (ii 1) :: st, M) Q := G_cst rfl rfl rfl rfl rfl
theorem x208_31 : XX X d 208 (31, [some (.ref a), l1, l2, l3], st, M) Q = XX X d 208 (32, [some (.ref a), l1, l2, l3], .ref a :: st, M) Q := H_ld rfl rfl rfl rfl rfl
theorem x208_32 : XX X d 208 (32, L, .ref a :: st, M) Q = yg (M.2.2 a) 9 25 X d 208 35 L st M Q := G_getf rfl (by decide) rfl rfl rfl
theorem x208_35 {v1 v2 v3 : Value} (hd : 0 < d) (hs : stB st = true) : XX X d 208 (35, L, v3 :: v2 :: v1 :: st, M) Q = CC X (d - 1) 145 [v1, v2, v3] M (XC X d 208 35 38 L st Q) := H_static [v1, v2, v3] rfl (by decide) rfl rfl (by decide) rfl rfl hd hs
theorem x208_38 (h : -2147483648 ≤ p ∧ p ≤ 2147483647) : XX X d 208 (38, L, .int (ii p) :: st, M) Q = bq (p = 0) X d 208 45 41 L st M Q := H_if rfl ⟨rfl, rfl, rfl, by decide⟩ rfl rfl rfl rfl (D_eq (b := 0) (by omega))
theorem x208_38b : XX X d 208 (38, L, .int (ii (b2i b)) :: st, M) Q = bq (b = false) X d 208 45 41 L st M Q := (x208_38 (b2i_r b)).trans (by rw [b2i_0])
theorem x208_41 : XX X d 208 (41, L, st, M) Q = XX X d 208 (42, L, .int (ii 0) :: st, M) Q := G_cst rfl rfl rfl rfl rfl
theorem x208_42 : XX X d 208 (42, L, st, M) Q = XX X d 208 (46, L, st, M) Q := H_jmp rfl (by decide) rfl
theorem x208_45 : XX X d 208 (45, L, st, M) Q = XX X d 208 (46, L, .int (ii 1) :: st, M) Q := G_cst rfl rfl rfl rfl rfl
theorem x208_46 {v1 : Value} (hd : 0 < d) (hs : stB st = true) : XX X d 208 (46, L, v1 :: .ref a :: st, M) Q = (mcl M a = some 9 ∧ CC X (d - 1) 144 [.ref a, v1] M (XC X d 208 46 49 L st Q)) := H_virt [v1] rfl (by decide) rfl rfl rfl rfl rfl hd hs
theorem x208_49 (h : -2147483648 ≤ p ∧ p ≤ 2147483647) : XX X d 208 (49, L, .int (ii p) :: st, M) Q = bq (p = 0) X d 208 54 52 L st M Q := H_if rfl ⟨rfl, rfl, rfl, by decide⟩ rfl rfl rfl rfl (D_eq (b := 0) (by omega))
theorem x208_49b : XX X d 208 (49, L, .int (ii (b2i b)) :: st, M) Q = bq (b = false) X d 208 54 52 L st M Q := (x208_49 (b2i_r b)).trans (by rw [b2i_0])
theorem x208_52 : XX X d 208 (52, L, st, M) Q = XX X d 208 (53, L, .int (ii 0) :: st, M) Q := G_cst rfl rfl rfl rfl rfl
theorem x208_53 (h : p = 0 ∨ p = 1) : XX X d 208 (53, L, [.int (ii p)], M) Q = Q (.inl (some (.int (ii p)))) M := G_ret rfl ⟨⟨⟨rfl, rfl, rfl, by decide⟩, rfl, rfl⟩, rfl, rfl⟩ (bz_ok h)
theorem x208_54 : XX X d 208 (54, [some (.ref a), l1, l2, l3], st, M) Q = XX X d 208 (55, [some (.ref a), l1, l2, l3], .ref a :: st, M) Q := H_ld rfl rfl rfl rfl rfl
theorem x208_55 : XX X d 208 (55, [some (.ref a), l1, l2, l3], st, M) Q = XX X d 208 (56, [some (.ref a), l1, l2, l3], .ref a :: st, M) Q := H_ld rfl rfl rfl rfl rfl
theorem x208_56 : XX X d 208 (56, [l0, l1, some (.int x), l3], st, M) Q = XX X d 208 (57, [l0, l1, some (.int x), l3], .int x :: st, M) Q := H_ld rfl rfl rfl rfl rfl
theorem x208_57 {v1 : Value} (hd : 0 < d) (hs : stB st = true) : XX X d 208 (57, L, v1 :: .ref a :: st, M) Q = (mcl M a = some 9 ∧ CC X (d - 1) 171 [.ref a, v1] M (XC X d 208 57 60 L st Q)) := H_virt [v1] rfl (by decide) rfl rfl rfl rfl rfl hd hs
theorem x208_60 (h : -2147483648 ≤ p ∧ p ≤ 2147483647) : XX X d 208 (60, L, .int (ii p) :: st, M) Q = bq (0 ≤ p) X d 208 67 63 L st M Q := H_if rfl ⟨rfl, rfl, rfl, by decide⟩ rfl rfl rfl rfl (D_le (b := 0) (by omega))
theorem x208_63 : XX X d 208 (63, L, st, M) Q = XX X d 208 (64, L, .int (ii 2) :: st, M) Q := G_cst rfl rfl rfl rfl rfl
theorem x208_64 : XX X d 208 (64, L, st, M) Q = XX X d 208 (68, L, st, M) Q := H_jmp rfl (by decide) rfl
theorem x208_67 : XX X d 208 (67, L, st, M) Q = XX X d 208 (68, L, .int (ii 0) :: st, M) Q := G_cst rfl rfl rfl rfl rfl
theorem x208_68 {v1 : Value} (hd : 0 < d) (hs : stB st = true) : XX X d 208 (68, L, v1 :: .ref a :: st, M) Q = (mcl M a = some 9 ∧ CC X (d - 1) 144 [.ref a, v1] M (XC X d 208 68 71 L st Q)) := H_virt [v1] rfl (by decide) rfl rfl rfl rfl rfl hd hs
theorem x208_71 (h : -2147483648 ≤ p ∧ p ≤ 2147483647) : XX X d 208 (71, L, .int (ii p) :: st, M) Q = bq (p ≠ 0) X d 208 78 74 L st M Q := H_if rfl ⟨rfl, rfl, rfl, by decide⟩ rfl rfl rfl rfl (D_ne (b := 0) (by omega))
theorem x208_71b : XX X d 208 (71, L, .int (ii (b2i b)) :: st, M) Q = bq (b = true) X d 208 78 74 L st M Q := (x208_71 (b2i_r b)).trans (by rw [b2i_n0])
theorem x208_74 : XX X d 208 (74, L, st, M) Q = XX X d 208 (75, L, .int (ii 1) :: st, M) Q := G_cst rfl rfl rfl rfl rfl
theorem x208_75 : XX X d 208 (75, L, st, M) Q = XX X d 208 (79, L, st, M) Q := H_jmp rfl (by decide) rfl
theorem x208_78 : XX X d 208 (78, L, st, M) Q = XX X d 208 (79, L, .int (ii 0) :: st, M) Q := G_cst rfl rfl rfl rfl rfl
theorem x208_79 (h : p = 0 ∨ p = 1) : XX X d 208 (79, L, [.int (ii p)], M) Q = Q (.inl (some (.int (ii p)))) M := G_ret rfl ⟨⟨⟨rfl, rfl, rfl, by decide⟩, rfl, rfl⟩, rfl, rfl⟩ (bz_ok h)
theorem e208 : CC X d 208 [.ref a, .int x, .int x2, .int x3] M Q = XX X d 208 (0, [some (.ref a), some (.int x), some (.int x2), some (.int x3)], [], M) Q := H_ent rfl rfl
-- 209 X9_isGroupSet (III)Z
theorem x209_0 : XX X d 209 (0, [some (.ref a), l1, l2, l3], st, M) Q = XX X d 209 (1, [some (.ref a), l1, l2, l3], .ref a :: st, M) Q := H_ld rfl rfl rfl rfl rfl
theorem x209_1 : XX X d 209 (1, [l0, some (.int x), l2, l3], st, M) Q = XX X d 209 (2, [l0, some (.int x), l2, l3], .int x :: st, M) Q := H_ld rfl rfl rfl rfl rfl
theorem x209_2 : XX X d 209 (2, [l0, l1, some (.int x), l3], st, M) Q = XX X d 209 (3, [l0, l1, some (.int x), l3], .int x :: st, M) Q := H_ld rfl rfl rfl rfl rfl
theorem x209_3 : XX X d 209 (3, [l0, l1, l2, some (.int x)], st, M) Q = XX X d 209 (4, [l0, l1, l2, some (.int x)], .int x :: st, M) Q := H_ld rfl rfl rfl rfl rfl
theorem x209_4 {v1 v2 v3 : Value} (hd : 0 < d) (hs : stB st = true) : XX X d 209 (4, L, v3 :: v2 :: v1 :: .ref a :: st, M) Q = (mcl M a = some 9 ∧ CC X (d - 1) 208 [.ref a, v1, v2, v3] M (XC X d 209 4 7 L st Q)) := H_virt [v1, v2, v3] rfl (by decide) rfl rfl rfl rfl rfl hd hs
theorem x209_7 (h : -2147483648 ≤ p ∧ p ≤ 2147483647) : XX X d 209 (7, L, .int (ii p) :: st, M) Q = bq (p = 0) X d 209 27 10 L st M Q := H_if rfl ⟨rfl, rfl, rfl, by decide⟩ rfl rfl rfl rfl (D_eq (b := 0) (by omega))
theorem x209_7b : XX X d 209 (7, L, .int (ii (b2i b)) :: st, M) Q = bq (b = false) X d 209 27 10 L st M Q := (x209_7 (b2i_r b)).trans (by rw [b2i_0])
theorem x209_10 : XX X d 209 (10, [some (.ref a), l1, l2, l3], st, M) Q = XX X d 209 (11, [some (.ref a), l1, l2, l3], .ref a :: st, M) Q := H_ld rfl rfl rfl rfl rfl
theorem x209_11 : XX X d 209 (11, L, .ref a :: st, M) Q = yg (M.2.2 a) 9 31 X d 209 14 L st M Q := G_getf rfl (by decide) rfl rfl rfl
theorem x209_14 : XX X d 209 (14, L, st, M) Q = XX X d 209 (15, L, .int (ii 2) :: st, M) Q := G_cst rfl rfl rfl rfl rfl
theorem x209_15 : XX X d 209 (15, [l0, l1, l2, some (.int x)], st, M) Q = XX X d 209 (16, [l0, l1, l2, some (.int x)], .int x :: st, M) Q := H_ld rfl rfl rfl rfl rfl
theorem x209_16 : XX X d 209 (16, L, .int (ii q) :: .int (ii p) :: st, M) Q = XX X d 209 (17, L, .int (ii (p * q)) :: st, M) Q := H_mul rfl (by decide) rfl
theorem x209_17 : XX X d 209 (17, L, st, M) Q = XX X d 209 (18, L, .int (ii 1) :: st, M) Q := G_cst rfl rfl rfl rfl rfl
theorem x209_18 : XX X d 209 (18, L, .int (ii q) :: .int (ii p) :: st, M) Q = XX X d 209 (19, L, .int (ii (p - q)) :: st, M) Q := H_sub rfl (by decide) rfl
theorem x209_19 : XX X d 209 (19, L, .int x :: .ref a :: st, M) Q = ya (M.2.2 a) .iaload x X d 209 20 L st M Q := G_ald rfl ⟨⟨rfl, rfl, rfl, by decide⟩, rfl, rfl⟩ rfl rfl
theorem x209_20 (h : -2147483648 ≤ p ∧ p ≤ 2147483647) : XX X d 209 (20, L, .int (ii p) :: st, M) Q = bq (p < 0) X d 209 27 23 L st M Q := H_if rfl ⟨rfl, rfl, rfl, by decide⟩ rfl rfl rfl rfl (D_lt (b := 0) (by omega))
theorem x209_23 : XX X d 209 (23, L, st, M) Q = XX X d 209 (24, L, .int (ii 1) :: st, M) Q := G_cst rfl rfl rfl rfl rfl
theorem x209_24 : XX X d 209 (24, L, st, M) Q = XX X d 209 (28, L, st, M) Q := H_jmp rfl (by decide) rfl
theorem x209_27 : XX X d 209 (27, L, st, M) Q = XX X d 209 (28, L, .int (ii 0) :: st, M) Q := G_cst rfl rfl rfl rfl rfl
theorem x209_28 (h : p = 0 ∨ p = 1) : XX X d 209 (28, L, [.int (ii p)], M) Q = Q (.inl (some (.int (ii p)))) M := G_ret rfl ⟨⟨⟨rfl, rfl, rfl, by decide⟩, rfl, rfl⟩, rfl, rfl⟩ (bz_ok h)
theorem e209 : CC X d 209 [.ref a, .int x, .int x2, .int x3] M Q = XX X d 209 (0, [some (.ref a), some (.int x), some (.int x2), some (.int x3)], [], M) Q := H_ent rfl rfl
-- 210 X9_markOf (IIII)I
theorem x210_0 : XX X d 210 (0, [some (.ref a), l1, l2, l3, l4], st, M) Q = XX X d 210 (1, [some (.ref a), l1, l2, l3, l4], .ref a :: st, M) Q := H_ld rfl rfl rfl rfl rfl
theorem x210_1 : XX X d 210 (1, [l0, some (.int x), l2, l3, l4], st, M) Q = XX X d 210 (2, [l0, some (.int x), l2, l3, l4], .int x :: st, M) Q := H_ld rfl rfl rfl rfl rfl
theorem x210_2 : XX X d 210 (2, [l0, l1, some (.int x), l3, l4], st, M) Q = XX X d 210 (3, [l0, l1, some (.int x), l3, l4], .int x :: st, M) Q := H_ld rfl rfl rfl rfl rfl
theorem x210_3 : XX X d 210 (3, [l0, l1, l2, some (.int x), l4], st, M) Q = XX X d 210 (4, [l0, l1, l2, some (.int x), l4], .int x :: st, M) Q := H_ld rfl rfl rfl rfl rfl
theorem x210_4 {v1 v2 v3 : Value} (hd : 0 < d) (hs : stB st = true) : XX X d 210 (4, L, v3 :: v2 :: v1 :: .ref a :: st, M) Q = (mcl M a = some 9 ∧ CC X (d - 1) 208 [.ref a, v1, v2, v3] M (XC X d 210 4 7 L st Q)) := H_virt [v1, v2, v3] rfl (by decide) rfl rfl rfl rfl rfl hd hs
theorem x210_7 (h : -2147483648 ≤ p ∧ p ≤ 2147483647) : XX X d 210 (7, L, .int (ii p) :: st, M) Q = bq (p ≠ 0) X d 210 12 10 L st M Q := H_if rfl ⟨rfl, rfl, rfl, by decide⟩ rfl rfl rfl rfl (D_ne (b := 0) (by omega))
theorem x210_7b : XX X d 210 (7, L, .int (ii (b2i b)) :: st, M) Q = bq (b = true) X d 210 12 10 L st M Q := (x210_7 (b2i_r b)).trans (by rw [b2i_n0])
theorem x210_10 : XX X d 210 (10, L, st, M) Q = XX X d 210 (11, L, .int (ii 0) :: st, M) Q := G_cst rfl rfl rfl rfl rfl
theorem x210_11 : XX X d 210 (11, L, [.int (ii p)], M) Q = Q (.inl (some (.int (ii p)))) M := G_ret rfl ⟨⟨⟨rfl, rfl, rfl, by decide⟩, rfl, rfl⟩, rfl, rfl⟩ rfl
theorem x210_12 : XX X d 210 (12, [some (.ref a), l1, l2, l3, l4], st, M) Q = XX X d 210 (13, [some (.ref a), l1, l2, l3, l4], .ref a :: st, M) Q := H_ld rfl rfl rfl rfl rfl
theorem x210_13 : XX X d 210 (13, [some (.ref a), l1, l2, l3, l4], st, M) Q = XX X d 210 (14, [some (.ref a), l1, l2, l3, l4], .ref a :: st, M) Q := H_ld rfl rfl rfl rfl rfl
theorem x210_14 : XX X d 210 (14, L, .ref a :: st, M) Q = yg (M.2.2 a) 9 31 X d 210 17 L st M Q := G_getf rfl (by decide) rfl rfl rfl
theorem x210_17 : XX X d 210 (17, L, st, M) Q = XX X d 210 (18, L, .int (ii 2) :: st, M) Q := G_cst rfl rfl rfl rfl rfl
theorem x210_18 : XX X d 210 (18, [l0, l1, l2, some (.int x), l4], st, M) Q = XX X d 210 (19, [l0, l1, l2, some (.int x), l4], .int x :: st, M) Q := H_ld rfl rfl rfl rfl rfl
theorem x210_19 : XX X d 210 (19, L, .int (ii q) :: .int (ii p) :: st, M) Q = XX X d 210 (20, L, .int (ii (p * q)) :: st, M) Q := H_mul rfl (by decide) rfl
theorem x210_20 : XX X d 210 (20, L, st, M) Q = XX X d 210 (21, L, .int (ii 1) :: st, M) Q := G_cst rfl rfl rfl rfl rfl
theorem x210_21 : XX X d 210 (21, L, .int (ii q) :: .int (ii p) :: st, M) Q = XX X d 210 (22, L, .int (ii (p - q)) :: st, M) Q := H_sub rfl (by decide) rfl
theorem x210_22 : XX X d 210 (22, L, .int x :: .ref a :: st, M) Q = ya (M.2.2 a) .iaload x X d 210 23 L st M Q := G_ald rfl ⟨⟨rfl, rfl, rfl, by decide⟩, rfl, rfl⟩ rfl rfl
theorem x210_23 (h : -2147483648 ≤ p ∧ p ≤ 2147483647) : XX X d 210 (23, L, .int (ii p) :: st, M) Q = bq (0 ≤ p) X d 210 30 26 L st M Q := H_if rfl ⟨rfl, rfl, rfl, by decide⟩ rfl rfl rfl rfl (D_le (b := 0) (by omega))
theorem x210_26 : XX X d 210 (26, L, st, M) Q = XX X d 210 (27, L, .int (ii 2) :: st, M) Q := G_cst rfl rfl rfl rfl rfl
theorem x210_27 : XX X d 210 (27, L, st, M) Q = XX X d 210 (31, L, st, M) Q := H_jmp rfl (by decide) rfl
theorem x210_30 : XX X d 210 (30, L, st, M) Q = XX X d 210 (31, L, .int (ii 0) :: st, M) Q := G_cst rfl rfl rfl rfl rfl
theorem x210_31 {v1 : Value} (hd : 0 < d) (hs : stB st = true) : XX X d 210 (31, L, v1 :: .ref a :: st, M) Q = (mcl M a = some 9 ∧ CC X (d - 1) 144 [.ref a, v1] M (XC X d 210 31 34 L st Q)) := H_virt [v1] rfl (by decide) rfl rfl rfl rfl rfl hd hs
theorem x210_34 (h : -2147483648 ≤ p ∧ p ≤ 2147483647) : XX X d 210 (34, L, .int (ii p) :: st, M) Q = bq (p = 0) X d 210 41 37 L st M Q := H_if rfl ⟨rfl, rfl, rfl, by decide⟩ rfl rfl rfl rfl (D_eq (b := 0) (by omega))
theorem x210_34b : XX X d 210 (34, L, .int (ii (b2i b)) :: st, M) Q = bq (b = false) X d 210 41 37 L st M Q := (x210_34 (b2i_r b)).trans (by rw [b2i_0])
theorem x210_37 : XX X d 210 (37, L, st, M) Q = XX X d 210 (38, L, .int (ii 0) :: st, M) Q := G_cst rfl rfl rfl rfl rfl
theorem x210_38 : XX X d 210 (38, L, st, M) Q = XX X d 210 (54, L, st, M) Q := H_jmp rfl (by decide) rfl
theorem x210_41 : XX X d 210 (41, [some (.ref a), l1, l2, l3, l4], st, M) Q = XX X d 210 (42, [some (.ref a), l1, l2, l3, l4], .ref a :: st, M) Q := H_ld rfl rfl rfl rfl rfl
theorem x210_42 : XX X d 210 (42, L, .ref a :: st, M) Q = yg (M.2.2 a) 9 31 X d 210 45 L st M Q := G_getf rfl (by decide) rfl rfl rfl
theorem x210_45 : XX X d 210 (45, L, st, M) Q = XX X d 210 (46, L, .int (ii 2) :: st, M) Q := G_cst rfl rfl rfl rfl rfl
theorem x210_46 : XX X d 210 (46, [l0, l1, l2, some (.int x), l4], st, M) Q = XX X d 210 (47, [l0, l1, l2, some (.int x), l4], .int x :: st, M) Q := H_ld rfl rfl rfl rfl rfl
theorem x210_47 : XX X d 210 (47, L, .int (ii q) :: .int (ii p) :: st, M) Q = XX X d 210 (48, L, .int (ii (p * q)) :: st, M) Q := H_mul rfl (by decide) rfl
theorem x210_48 : XX X d 210 (48, L, st, M) Q = XX X d 210 (49, L, .int (ii 2) :: st, M) Q := G_cst rfl rfl rfl rfl rfl
theorem x210_49 : XX X d 210 (49, L, .int (ii q) :: .int (ii p) :: st, M) Q = XX X d 210 (50, L, .int (ii (p - q)) :: st, M) Q := H_sub rfl (by decide) rfl
theorem x210_50 : XX X d 210 (50, [l0, l1, l2, l3, some (.int x)], st, M) Q = XX X d 210 (52, [l0, l1, l2, l3, some (.int x)], .int x :: st, M) Q := H_ld rfl rfl rfl rfl rfl
theorem x210_52 : XX X d 210 (52, L, .int (ii q) :: .int (ii p) :: st, M) Q = XX X d 210 (53, L, .int (ii (p + q)) :: st, M) Q := H_add rfl (by decide) rfl
theorem x210_53 : XX X d 210 (53, L, .int x :: .ref a :: st, M) Q = ya (M.2.2 a) .iaload x X d 210 54 L st M Q := G_ald rfl ⟨⟨rfl, rfl, rfl, by decide⟩, rfl, rfl⟩ rfl rfl
theorem x210_54 : XX X d 210 (54, L, [.int (ii p)], M) Q = Q (.inl (some (.int (ii p)))) M := G_ret rfl ⟨⟨⟨rfl, rfl, rfl, by decide⟩, rfl, rfl⟩, rfl, rfl⟩ rfl
theorem e210 : CC X d 210 [.ref a, .int x, .int x2, .int x3, .int x4] M Q = XX X d 210 (0, [some (.ref a), some (.int x), some (.int x2), some (.int x3), some (.int x4)], [], M) Q := H_ent rfl rfl
-- 211 X9_groupStart (III)I
theorem x211_0 : XX X d 211 (0, [some (.ref a), l1, l2, l3], st, M) Q = XX X d 211 (1, [some (.ref a), l1, l2, l3], .ref a :: st, M) Q := H_ld rfl rfl rfl rfl rfl
theorem x211_1 : XX X d 211 (1, [l0, some (.int x), l2, l3], st, M) Q = XX X d 211 (2, [l0, some (.int x), l2, l3], .int x :: st, M) Q := H_ld rfl rfl rfl rfl rfl
theorem x211_2 : XX X d 211 (2, [l0, l1, some (.int x), l3], st, M) Q = XX X d 211 (3, [l0, l1, some (.int x), l3], .int x :: st, M) Q := H_ld rfl rfl rfl rfl rfl
theorem x211_3 : XX X d 211 (3, [l0, l1, l2, some (.int x)], st, M) Q = XX X d 211 (4, [l0, l1, l2, some (.int x)], .int x :: st, M) Q := H_ld rfl rfl rfl rfl rfl
theorem x211_4 : XX X d 211 (4, L, st, M) Q = XX X d 211 (5, L, .int (ii 0) :: st, M) Q := G_cst rfl rfl rfl rfl rfl
theorem x211_5 {v1 v2 v3 v4 : Value} (hd : 0 < d) (hs : stB st = true) : XX X d 211 (5, L, v4 :: v3 :: v2 :: v1 :: .ref a :: st, M) Q = (mcl M a = some 9 ∧ CC X (d - 1) 210 [.ref a, v1, v2, v3, v4] M (XC X d 211 5 8 L st Q)) := H_virt [v1, v2, v3, v4] rfl (by decide) rfl rfl rfl rfl rfl hd hs
theorem x211_8 : XX X d 211 (8, L, [.int (ii p)], M) Q = Q (.inl (some (.int (ii p)))) M := G_ret rfl ⟨⟨⟨rfl, rfl, rfl, by decide⟩, rfl, rfl⟩, rfl, rfl⟩ rfl
theorem e211 : CC X d 211 [.ref a, .int x, .int x2, .int x3] M Q = XX X d 211 (0, [some (.ref a), some (.int x), some (.int x2), some (.int x3)], [], M) Q := H_ent rfl rfl
-- 212 X9_groupEnd (III)I
theorem x212_0 : XX X d 212 (0, [some (.ref a), l1, l2, l3], st, M) Q = XX X d 212 (1, [some (.ref a), l1, l2, l3], .ref a :: st, M) Q := H_ld rfl rfl rfl rfl rfl
theorem x212_1 : XX X d 212 (1, [l0, some (.int x), l2, l3], st, M) Q = XX X d 212 (2, [l0, some (.int x), l2, l3], .int x :: st, M) Q := H_ld rfl rfl rfl rfl rfl
theorem x212_2 : XX X d 212 (2, [l0, l1, some (.int x), l3], st, M) Q = XX X d 212 (3, [l0, l1, some (.int x), l3], .int x :: st, M) Q := H_ld rfl rfl rfl rfl rfl
theorem x212_3 : XX X d 212 (3, [l0, l1, l2, some (.int x)], st, M) Q = XX X d 212 (4, [l0, l1, l2, some (.int x)], .int x :: st, M) Q := H_ld rfl rfl rfl rfl rfl
theorem x212_4 : XX X d 212 (4, L, st, M) Q = XX X d 212 (5, L, .int (ii 1) :: st, M) Q := G_cst rfl rfl rfl rfl rfl
theorem x212_5 {v1 v2 v3 v4 : Value} (hd : 0 < d) (hs : stB st = true) : XX X d 212 (5, L, v4 :: v3 :: v2 :: v1 :: .ref a :: st, M) Q = (mcl M a = some 9 ∧ CC X (d - 1) 210 [.ref a, v1, v2, v3, v4] M (XC X d 212 5 8 L st Q)) := H_virt [v1, v2, v3, v4] rfl (by decide) rfl rfl rfl rfl rfl hd hs
theorem x212_8 : XX X d 212 (8, L, [.int (ii p)], M) Q = Q (.inl (some (.int (ii p)))) M := G_ret rfl ⟨⟨⟨rfl, rfl, rfl, by decide⟩, rfl, rfl⟩, rfl, rfl⟩ rfl
theorem e212 : CC X d 212 [.ref a, .int x, .int x2, .int x3] M Q = XX X d 212 (0, [some (.ref a), some (.int x), some (.int x2), some (.int x3)], [], M) Q := H_ent rfl rfl
-- 213 X9_matchCount (I)I
theorem x213_0 : XX X d 213 (0, [some (.ref a), l1], st, M) Q = XX X d 213 (1, [some (.ref a), l1], .ref a :: st, M) Q := H_ld rfl rfl rfl rfl rfl
theorem x213_1 : XX X d 213 (1, [l0, some (.int x)], st, M) Q = XX X d 213 (2, [l0, some (.int x)], .int x :: st, M) Q := H_ld rfl rfl rfl rfl rfl
theorem x213_2 {v1 : Value} (hd : 0 < d) (hs : stB st = true) : XX X d 213 (2, L, v1 :: .ref a :: st, M) Q = (mcl M a = some 9 ∧ CC X (d - 1) 173 [.ref a, v1] M (XC X d 213 2 5 L st Q)) := H_virt [v1] rfl (by decide) rfl rfl rfl rfl rfl hd hs
theorem x213_5 (h : -2147483648 ≤ p ∧ p ≤ 2147483647) : XX X d 213 (5, L, .int (ii p) :: st, M) Q = bq (p = 0) X d 213 10 8 L st M Q := H_if rfl ⟨rfl, rfl, rfl, by decide⟩ rfl rfl rfl rfl (D_eq (b := 0) (by omega))
theorem x213_5b : XX X d 213 (5, L, .int (ii (b2i b)) :: st, M) Q = bq (b = false) X d 213 10 8 L st M Q := (x213_5 (b2i_r b)).trans (by rw [b2i_0])
theorem x213_8 : XX X d 213 (8, L, st, M) Q = XX X d 213 (9, L, .int (ii 0) :: st, M) Q := G_cst rfl rfl rfl rfl rfl
theorem x213_9 : XX X d 213 (9, L, [.int (ii p)], M) Q = Q (.inl (some (.int (ii p)))) M := G_ret rfl ⟨⟨⟨rfl, rfl, rfl, by decide⟩, rfl, rfl⟩, rfl, rfl⟩ rfl
theorem x213_10 : XX X d 213 (10, [some (.ref a), l1], st, M) Q = XX X d 213 (11, [some (.ref a), l1], .ref a :: st, M) Q := H_ld rfl rfl rfl rfl rfl
theorem x213_11 : XX X d 213 (11, [l0, some (.int x)], st, M) Q = XX X d 213 (12, [l0, some (.int x)], .int x :: st, M) Q := H_ld rfl rfl rfl rfl rfl
theorem x213_12 {v1 : Value} (hd : 0 < d) (hs : stB st = true) : XX X d 213 (12, L, v1 :: .ref a :: st, M) Q = (mcl M a = some 9 ∧ CC X (d - 1) 193 [.ref a, v1] M (XC X d 213 12 15 L st Q)) := H_virt [v1] rfl (by decide) rfl rfl rfl rfl rfl hd hs
theorem x213_15 : XX X d 213 (15, [some (.ref a), l1], st, M) Q = XX X d 213 (16, [some (.ref a), l1], .ref a :: st, M) Q := H_ld rfl rfl rfl rfl rfl
theorem x213_16 : XX X d 213 (16, L, .ref a :: st, M) Q = yg (M.2.2 a) 9 38 X d 213 19 L st M Q := G_getf rfl (by decide) rfl rfl rfl
theorem x213_19 : XX X d 213 (19, L, [.int (ii p)], M) Q = Q (.inl (some (.int (ii p)))) M := G_ret rfl ⟨⟨⟨rfl, rfl, rfl, by decide⟩, rfl, rfl⟩, rfl, rfl⟩ rfl
theorem e213 : CC X d 213 [.ref a, .int x] M Q = XX X d 213 (0, [some (.ref a), some (.int x)], [], M) Q := H_ent rfl rfl
-- 214 X9_isMatch (II)Z
theorem x214_0 : XX X d 214 (0, [some (.ref a), l1, l2], st, M) Q = XX X d 214 (1, [some (.ref a), l1, l2], .ref a :: st, M) Q := H_ld rfl rfl rfl rfl rfl
theorem x214_1 : XX X d 214 (1, [l0, some (.int x), l2], st, M) Q = XX X d 214 (2, [l0, some (.int x), l2], .int x :: st, M) Q := H_ld rfl rfl rfl rfl rfl
theorem x214_2 {v1 : Value} (hd : 0 < d) (hs : stB st = true) : XX X d 214 (2, L, v1 :: .ref a :: st, M) Q = (mcl M a = some 9 ∧ CC X (d - 1) 173 [.ref a, v1] M (XC X d 214 2 5 L st Q)) := H_virt [v1] rfl (by decide) rfl rfl rfl rfl rfl hd hs
theorem x214_5 (h : -2147483648 ≤ p ∧ p ≤ 2147483647) : XX X d 214 (5, L, .int (ii p) :: st, M) Q = bq (p = 0) X d 214 10 8 L st M Q := H_if rfl ⟨rfl, rfl, rfl, by decide⟩ rfl rfl rfl rfl (D_eq (b := 0) (by omega))
theorem x214_5b : XX X d 214 (5, L, .int (ii (b2i b)) :: st, M) Q = bq (b = false) X d 214 10 8 L st M Q := (x214_5 (b2i_r b)).trans (by rw [b2i_0])
theorem x214_8 : XX X d 214 (8, L, st, M) Q = XX X d 214 (9, L, .int (ii 0) :: st, M) Q := G_cst rfl rfl rfl rfl rfl
theorem x214_9 (h : p = 0 ∨ p = 1) : XX X d 214 (9, L, [.int (ii p)], M) Q = Q (.inl (some (.int (ii p)))) M := G_ret rfl ⟨⟨⟨rfl, rfl, rfl, by decide⟩, rfl, rfl⟩, rfl, rfl⟩ (bz_ok h)
theorem x214_10 : XX X d 214 (10, [some (.ref a), l1, l2], st, M) Q = XX X d 214 (11, [some (.ref a), l1, l2], .ref a :: st, M) Q := H_ld rfl rfl rfl rfl rfl
theorem x214_11 : XX X d 214 (11, [l0, some (.int x), l2], st, M) Q = XX X d 214 (12, [l0, some (.int x), l2], .int x :: st, M) Q := H_ld rfl rfl rfl rfl rfl
theorem x214_12 {v1 : Value} (hd : 0 < d) (hs : stB st = true) : XX X d 214 (12, L, v1 :: .ref a :: st, M) Q = (mcl M a = some 9 ∧ CC X (d - 1) 193 [.ref a, v1] M (XC X d 214 12 15 L st Q)) := H_virt [v1] rfl (by decide) rfl rfl rfl rfl rfl hd hs
theorem x214_15 : XX X d 214 (15, [some (.ref a), l1, l2], st, M) Q = XX X d 214 (16, [some (.ref a), l1, l2], .ref a :: st, M) Q := H_ld rfl rfl rfl rfl rfl
theorem x214_16 : XX X d 214 (16, [l0, l1, some (.int x)], st, M) Q = XX X d 214 (17, [l0, l1, some (.int x)], .int x :: st, M) Q := H_ld rfl rfl rfl rfl rfl
theorem x214_17 : XX X d 214 (17, L, st, M) Q = XX X d 214 (18, L, .int (ii 0) :: st, M) Q := G_cst rfl rfl rfl rfl rfl
theorem x214_18 : XX X d 214 (18, [some (.ref a), l1, l2], st, M) Q = XX X d 214 (19, [some (.ref a), l1, l2], .ref a :: st, M) Q := H_ld rfl rfl rfl rfl rfl
theorem x214_19 : XX X d 214 (19, L, .ref a :: st, M) Q = yg (M.2.2 a) 9 38 X d 214 22 L st M Q := G_getf rfl (by decide) rfl rfl rfl
theorem x214_22 : XX X d 214 (22, L, st, M) Q = XX X d 214 (23, L, .int (ii 1) :: st, M) Q := G_cst rfl rfl rfl rfl rfl
theorem x214_23 : XX X d 214 (23, L, .int (ii q) :: .int (ii p) :: st, M) Q = XX X d 214 (24, L, .int (ii (p - q)) :: st, M) Q := H_sub rfl (by decide) rfl
theorem x214_24 {v1 v2 v3 : Value} (hd : 0 < d) (hs : stB st = true) : XX X d 214 (24, L, v3 :: v2 :: v1 :: st, M) Q = CC X (d - 1) 145 [v1, v2, v3] M (XC X d 214 24 27 L st Q) := H_static [v1, v2, v3] rfl (by decide) rfl rfl (by decide) rfl rfl hd hs
theorem x214_27 (h : -2147483648 ≤ p ∧ p ≤ 2147483647) : XX X d 214 (27, L, .int (ii p) :: st, M) Q = bq (p = 0) X d 214 34 30 L st M Q := H_if rfl ⟨rfl, rfl, rfl, by decide⟩ rfl rfl rfl rfl (D_eq (b := 0) (by omega))
theorem x214_27b : XX X d 214 (27, L, .int (ii (b2i b)) :: st, M) Q = bq (b = false) X d 214 34 30 L st M Q := (x214_27 (b2i_r b)).trans (by rw [b2i_0])
theorem x214_30 : XX X d 214 (30, L, st, M) Q = XX X d 214 (31, L, .int (ii 0) :: st, M) Q := G_cst rfl rfl rfl rfl rfl
theorem x214_31 : XX X d 214 (31, L, st, M) Q = XX X d 214 (35, L, st, M) Q := H_jmp rfl (by decide) rfl
theorem x214_34 : XX X d 214 (34, L, st, M) Q = XX X d 214 (35, L, .int (ii 2) :: st, M) Q := G_cst rfl rfl rfl rfl rfl
theorem x214_35 {v1 : Value} (hd : 0 < d) (hs : stB st = true) : XX X d 214 (35, L, v1 :: .ref a :: st, M) Q = (mcl M a = some 9 ∧ CC X (d - 1) 144 [.ref a, v1] M (XC X d 214 35 38 L st Q)) := H_virt [v1] rfl (by decide) rfl rfl rfl rfl rfl hd hs
theorem x214_38 (h : -2147483648 ≤ p ∧ p ≤ 2147483647) : XX X d 214 (38, L, .int (ii p) :: st, M) Q = bq (p ≠ 0) X d 214 45 41 L st M Q := H_if rfl ⟨rfl, rfl, rfl, by decide⟩ rfl rfl rfl rfl (D_ne (b := 0) (by omega))
theorem x214_38b : XX X d 214 (38, L, .int (ii (b2i b)) :: st, M) Q = bq (b = true) X d 214 45 41 L st M Q := (x214_38 (b2i_r b)).trans (by rw [b2i_n0])
theorem x214_41 : XX X d 214 (41, L, st, M) Q = XX X d 214 (42, L, .int (ii 1) :: st, M) Q := G_cst rfl rfl rfl rfl rfl
theorem x214_42 : XX X d 214 (42, L, st, M) Q = XX X d 214 (46, L, st, M) Q := H_jmp rfl (by decide) rfl
theorem x214_45 : XX X d 214 (45, L, st, M) Q = XX X d 214 (46, L, .int (ii 0) :: st, M) Q := G_cst rfl rfl rfl rfl rfl
theorem x214_46 (h : p = 0 ∨ p = 1) : XX X d 214 (46, L, [.int (ii p)], M) Q = Q (.inl (some (.int (ii p)))) M := G_ret rfl ⟨⟨⟨rfl, rfl, rfl, by decide⟩, rfl, rfl⟩, rfl, rfl⟩ (bz_ok h)
theorem e214 : CC X d 214 [.ref a, .int x, .int x2] M Q = XX X d 214 (0, [some (.ref a), some (.int x), some (.int x2)], [], M) Q := H_ent rfl rfl
-- 215 X9_matchStart (II)I
theorem x215_0 : XX X d 215 (0, [some (.ref a), l1, l2], st, M) Q = XX X d 215 (1, [some (.ref a), l1, l2], .ref a :: st, M) Q := H_ld rfl rfl rfl rfl rfl
theorem x215_1 : XX X d 215 (1, [l0, some (.int x), l2], st, M) Q = XX X d 215 (2, [l0, some (.int x), l2], .int x :: st, M) Q := H_ld rfl rfl rfl rfl rfl
theorem x215_2 : XX X d 215 (2, [l0, l1, some (.int x)], st, M) Q = XX X d 215 (3, [l0, l1, some (.int x)], .int x :: st, M) Q := H_ld rfl rfl rfl rfl rfl
theorem x215_3 {v1 v2 : Value} (hd : 0 < d) (hs : stB st = true) : XX X d 215 (3, L, v2 :: v1 :: .ref a :: st, M) Q = (mcl M a = some 9 ∧ CC X (d - 1) 214 [.ref a, v1, v2] M (XC X d 215 3 6 L st Q)) := H_virt [v1, v2] rfl (by decide) rfl rfl rfl rfl rfl hd hs
theorem x215_6 (h : -2147483648 ≤ p ∧ p ≤ 2147483647) : XX X d 215 (6, L, .int (ii p) :: st, M) Q = bq (p = 0) X d 215 18 9 L st M Q := H_if rfl ⟨rfl, rfl, rfl, by decide⟩ rfl rfl rfl rfl (D_eq (b := 0) (by omega))
theorem x215_6b : XX X d 215 (6, L, .int (ii (b2i b)) :: st, M) Q = bq (b = false) X d 215 18 9 L st M Q := (x215_6 (b2i_r b)).trans (by rw [b2i_0])
theorem x215_9 : XX X d 215 (9, [some (.ref a), l1, l2], st, M) Q = XX X d 215 (10, [some (.ref a), l1, l2], .ref a :: st, M) Q := H_ld rfl rfl rfl rfl rfl
theorem x215_10 : XX X d 215 (10, L, .ref a :: st, M) Q = yg (M.2.2 a) 9 36 X d 215 13 L st M Q := G_getf rfl (by decide) rfl rfl rfl
theorem x215_13 : XX X d 215 (13, [l0, l1, some (.int x)], st, M) Q = XX X d 215 (14, [l0, l1, some (.int x)], .int x :: st, M) Q := H_ld rfl rfl rfl rfl rfl
theorem x215_14 : XX X d 215 (14, L, .int x :: .ref a :: st, M) Q = ya (M.2.2 a) .iaload x X d 215 15 L st M Q := G_ald rfl ⟨⟨rfl, rfl, rfl, by decide⟩, rfl, rfl⟩ rfl rfl
theorem x215_15 : XX X d 215 (15, L, st, M) Q = XX X d 215 (19, L, st, M) Q := H_jmp rfl (by decide) rfl
theorem x215_18 : XX X d 215 (18, L, st, M) Q = XX X d 215 (19, L, .int (ii 0) :: st, M) Q := G_cst rfl rfl rfl rfl rfl
theorem x215_19 : XX X d 215 (19, L, [.int (ii p)], M) Q = Q (.inl (some (.int (ii p)))) M := G_ret rfl ⟨⟨⟨rfl, rfl, rfl, by decide⟩, rfl, rfl⟩, rfl, rfl⟩ rfl
theorem e215 : CC X d 215 [.ref a, .int x, .int x2] M Q = XX X d 215 (0, [some (.ref a), some (.int x), some (.int x2)], [], M) Q := H_ent rfl rfl
-- 216 X9_matchLength (II)I
theorem x216_0 : XX X d 216 (0, [some (.ref a), l1, l2], st, M) Q = XX X d 216 (1, [some (.ref a), l1, l2], .ref a :: st, M) Q := H_ld rfl rfl rfl rfl rfl
theorem x216_1 : XX X d 216 (1, [l0, some (.int x), l2], st, M) Q = XX X d 216 (2, [l0, some (.int x), l2], .int x :: st, M) Q := H_ld rfl rfl rfl rfl rfl
theorem x216_2 : XX X d 216 (2, [l0, l1, some (.int x)], st, M) Q = XX X d 216 (3, [l0, l1, some (.int x)], .int x :: st, M) Q := H_ld rfl rfl rfl rfl rfl
theorem x216_3 {v1 v2 : Value} (hd : 0 < d) (hs : stB st = true) : XX X d 216 (3, L, v2 :: v1 :: .ref a :: st, M) Q = (mcl M a = some 9 ∧ CC X (d - 1) 214 [.ref a, v1, v2] M (XC X d 216 3 6 L st Q)) := H_virt [v1, v2] rfl (by decide) rfl rfl rfl rfl rfl hd hs
theorem x216_6 (h : -2147483648 ≤ p ∧ p ≤ 2147483647) : XX X d 216 (6, L, .int (ii p) :: st, M) Q = bq (p = 0) X d 216 25 9 L st M Q := H_if rfl ⟨rfl, rfl, rfl, by decide⟩ rfl rfl rfl rfl (D_eq (b := 0) (by omega))
theorem x216_6b : XX X d 216 (6, L, .int (ii (b2i b)) :: st, M) Q = bq (b = false) X d 216 25 9 L st M Q := (x216_6 (b2i_r b)).trans (by rw [b2i_0])
theorem x216_9 : XX X d 216 (9, [some (.ref a), l1, l2], st, M) Q = XX X d 216 (10, [some (.ref a), l1, l2], .ref a :: st, M) Q := H_ld rfl rfl rfl rfl rfl
theorem x216_10 : XX X d 216 (10, L, .ref a :: st, M) Q = yg (M.2.2 a) 9 37 X d 216 13 L st M Q := G_getf rfl (by decide) rfl rfl rfl
theorem x216_13 : XX X d 216 (13, [l0, l1, some (.int x)], st, M) Q = XX X d 216 (14, [l0, l1, some (.int x)], .int x :: st, M) Q := H_ld rfl rfl rfl rfl rfl
theorem x216_14 : XX X d 216 (14, L, .int x :: .ref a :: st, M) Q = ya (M.2.2 a) .iaload x X d 216 15 L st M Q := G_ald rfl ⟨⟨rfl, rfl, rfl, by decide⟩, rfl, rfl⟩ rfl rfl
theorem x216_15 : XX X d 216 (15, [some (.ref a), l1, l2], st, M) Q = XX X d 216 (16, [some (.ref a), l1, l2], .ref a :: st, M) Q := H_ld rfl rfl rfl rfl rfl
theorem x216_16 : XX X d 216 (16, L, .ref a :: st, M) Q = yg (M.2.2 a) 9 36 X d 216 19 L st M Q := G_getf rfl (by decide) rfl rfl rfl
theorem x216_19 : XX X d 216 (19, [l0, l1, some (.int x)], st, M) Q = XX X d 216 (20, [l0, l1, some (.int x)], .int x :: st, M) Q := H_ld rfl rfl rfl rfl rfl
theorem x216_20 : XX X d 216 (20, L, .int x :: .ref a :: st, M) Q = ya (M.2.2 a) .iaload x X d 216 21 L st M Q := G_ald rfl ⟨⟨rfl, rfl, rfl, by decide⟩, rfl, rfl⟩ rfl rfl
theorem x216_21 : XX X d 216 (21, L, .int (ii q) :: .int (ii p) :: st, M) Q = XX X d 216 (22, L, .int (ii (p - q)) :: st, M) Q := H_sub rfl (by decide) rfl
theorem x216_22 : XX X d 216 (22, L, st, M) Q = XX X d 216 (26, L, st, M) Q := H_jmp rfl (by decide) rfl
theorem x216_25 : XX X d 216 (25, L, st, M) Q = XX X d 216 (26, L, .int (ii 0) :: st, M) Q := G_cst rfl rfl rfl rfl rfl
theorem x216_26 : XX X d 216 (26, L, [.int (ii p)], M) Q = Q (.inl (some (.int (ii p)))) M := G_ret rfl ⟨⟨⟨rfl, rfl, rfl, by decide⟩, rfl, rfl⟩, rfl, rfl⟩ rfl
theorem e216 : CC X d 216 [.ref a, .int x, .int x2] M Q = XX X d 216 (0, [some (.ref a), some (.int x), some (.int x2)], [], M) Q := H_ent rfl rfl
-- 217 X9_longestMatch (I)I
theorem x217_0 : XX X d 217 (0, [some (.ref a), l1, l2, l3], st, M) Q = XX X d 217 (1, [some (.ref a), l1, l2, l3], .ref a :: st, M) Q := H_ld rfl rfl rfl rfl rfl
theorem x217_1 : XX X d 217 (1, [l0, some (.int x), l2, l3], st, M) Q = XX X d 217 (2, [l0, some (.int x), l2, l3], .int x :: st, M) Q := H_ld rfl rfl rfl rfl rfl
theorem x217_2 : XX X d 217 (2, L, st, M) Q = XX X d 217 (3, L, .int (ii 0) :: st, M) Q := G_cst rfl rfl rfl rfl rfl
theorem x217_3 {v1 v2 : Value} (hd : 0 < d) (hs : stB st = true) : XX X d 217 (3, L, v2 :: v1 :: .ref a :: st, M) Q = (mcl M a = some 9 ∧ CC X (d - 1) 214 [.ref a, v1, v2] M (XC X d 217 3 6 L st Q)) := H_virt [v1, v2] rfl (by decide) rfl rfl rfl rfl rfl hd hs
theorem x217_6 (h : -2147483648 ≤ p ∧ p ≤ 2147483647) : XX X d 217 (6, L, .int (ii p) :: st, M) Q = bq (p ≠ 0) X d 217 11 9 L st M Q := H_if rfl ⟨rfl, rfl, rfl, by decide⟩ rfl rfl rfl rfl (D_ne (b := 0) (by omega))
theorem x217_6b : XX X d 217 (6, L, .int (ii (b2i b)) :: st, M) Q = bq (b = true) X d 217 11 9 L st M Q := (x217_6 (b2i_r b)).trans (by rw [b2i_n0])
theorem x217_9 : XX X d 217 (9, L, st, M) Q = XX X d 217 (10, L, .int (ii 0) :: st, M) Q := G_cst rfl rfl rfl rfl rfl
theorem x217_10 : XX X d 217 (10, L, [.int (ii p)], M) Q = Q (.inl (some (.int (ii p)))) M := G_ret rfl ⟨⟨⟨rfl, rfl, rfl, by decide⟩, rfl, rfl⟩, rfl, rfl⟩ rfl
theorem x217_11 : XX X d 217 (11, L, st, M) Q = XX X d 217 (12, L, .int (ii 0) :: st, M) Q := G_cst rfl rfl rfl rfl rfl
theorem x217_12 (h : wide (some l1) = false) : XX X d 217 (12, [l0, l1, l2, l3], .int x :: st, M) Q = XX X d 217 (13, [l0, l1, some (.int x), l3], st, M) Q := H_st rfl rfl rfl rfl rfl rfl rfl rfl (Or.inr h)
theorem x217_13 : XX X d 217 (13, L, st, M) Q = XX X d 217 (14, L, .int (ii 1) :: st, M) Q := G_cst rfl rfl rfl rfl rfl
theorem x217_14 (h : wide (some l2) = false) : XX X d 217 (14, [l0, l1, l2, l3], .int x :: st, M) Q = XX X d 217 (15, [l0, l1, l2, some (.int x)], st, M) Q := H_st rfl rfl rfl rfl rfl rfl rfl rfl (Or.inr h)
theorem x217_15 : XX X d 217 (15, [l0, l1, l2, some (.int x)], st, M) Q = XX X d 217 (16, [l0, l1, l2, some (.int x)], .int x :: st, M) Q := H_ld rfl rfl rfl rfl rfl
theorem x217_16 : XX X d 217 (16, [some (.ref a), l1, l2, l3], st, M) Q = XX X d 217 (17, [some (.ref a), l1, l2, l3], .ref a :: st, M) Q := H_ld rfl rfl rfl rfl rfl
theorem x217_17 : XX X d 217 (17, L, .ref a :: st, M) Q = yg (M.2.2 a) 9 38 X d 217 20 L st M Q := G_getf rfl (by decide) rfl rfl rfl
theorem x217_20 (h : -2147483648 ≤ p ∧ p ≤ 2147483647 ∧ -2147483648 ≤ q ∧ q ≤ 2147483647) : XX X d 217 (20, L, .int (ii q) :: .int (ii p) :: st, M) Q = bq (q ≤ p) X d 217 60 23 L st M Q := H_if2 rfl ⟨rfl, rfl, rfl, by decide⟩ rfl rfl rfl rfl (D_le h)
theorem x217_23 : XX X d 217 (23, [some (.ref a), l1, l2, l3], st, M) Q = XX X d 217 (24, [some (.ref a), l1, l2, l3], .ref a :: st, M) Q := H_ld rfl rfl rfl rfl rfl
theorem x217_24 : XX X d 217 (24, L, .ref a :: st, M) Q = yg (M.2.2 a) 9 37 X d 217 27 L st M Q := G_getf rfl (by decide) rfl rfl rfl
theorem x217_27 : XX X d 217 (27, [l0, l1, l2, some (.int x)], st, M) Q = XX X d 217 (28, [l0, l1, l2, some (.int x)], .int x :: st, M) Q := H_ld rfl rfl rfl rfl rfl
theorem x217_28 : XX X d 217 (28, L, .int x :: .ref a :: st, M) Q = ya (M.2.2 a) .iaload x X d 217 29 L st M Q := G_ald rfl ⟨⟨rfl, rfl, rfl, by decide⟩, rfl, rfl⟩ rfl rfl
theorem x217_29 : XX X d 217 (29, [some (.ref a), l1, l2, l3], st, M) Q = XX X d 217 (30, [some (.ref a), l1, l2, l3], .ref a :: st, M) Q := H_ld rfl rfl rfl rfl rfl
theorem x217_30 : XX X d 217 (30, L, .ref a :: st, M) Q = yg (M.2.2 a) 9 36 X d 217 33 L st M Q := G_getf rfl (by decide) rfl rfl rfl
theorem x217_33 : XX X d 217 (33, [l0, l1, l2, some (.int x)], st, M) Q = XX X d 217 (34, [l0, l1, l2, some (.int x)], .int x :: st, M) Q := H_ld rfl rfl rfl rfl rfl
theorem x217_34 : XX X d 217 (34, L, .int x :: .ref a :: st, M) Q = ya (M.2.2 a) .iaload x X d 217 35 L st M Q := G_ald rfl ⟨⟨rfl, rfl, rfl, by decide⟩, rfl, rfl⟩ rfl rfl
theorem x217_35 : XX X d 217 (35, L, .int (ii q) :: .int (ii p) :: st, M) Q = XX X d 217 (36, L, .int (ii (p - q)) :: st, M) Q := H_sub rfl (by decide) rfl
theorem x217_36 : XX X d 217 (36, [some (.ref a), l1, l2, l3], st, M) Q = XX X d 217 (37, [some (.ref a), l1, l2, l3], .ref a :: st, M) Q := H_ld rfl rfl rfl rfl rfl
theorem x217_37 : XX X d 217 (37, L, .ref a :: st, M) Q = yg (M.2.2 a) 9 37 X d 217 40 L st M Q := G_getf rfl (by decide) rfl rfl rfl
theorem x217_40 : XX X d 217 (40, [l0, l1, some (.int x), l3], st, M) Q = XX X d 217 (41, [l0, l1, some (.int x), l3], .int x :: st, M) Q := H_ld rfl rfl rfl rfl rfl
theorem x217_41 : XX X d 217 (41, L, .int x :: .ref a :: st, M) Q = ya (M.2.2 a) .iaload x X d 217 42 L st M Q := G_ald rfl ⟨⟨rfl, rfl, rfl, by decide⟩, rfl, rfl⟩ rfl rfl
theorem x217_42 : XX X d 217 (42, [some (.ref a), l1, l2, l3], st, M) Q = XX X d 217 (43, [some (.ref a), l1, l2, l3], .ref a :: st, M) Q := H_ld rfl rfl rfl rfl rfl
theorem x217_43 : XX X d 217 (43, L, .ref a :: st, M) Q = yg (M.2.2 a) 9 36 X d 217 46 L st M Q := G_getf rfl (by decide) rfl rfl rfl
theorem x217_46 : XX X d 217 (46, [l0, l1, some (.int x), l3], st, M) Q = XX X d 217 (47, [l0, l1, some (.int x), l3], .int x :: st, M) Q := H_ld rfl rfl rfl rfl rfl
theorem x217_47 : XX X d 217 (47, L, .int x :: .ref a :: st, M) Q = ya (M.2.2 a) .iaload x X d 217 48 L st M Q := G_ald rfl ⟨⟨rfl, rfl, rfl, by decide⟩, rfl, rfl⟩ rfl rfl
theorem x217_48 : XX X d 217 (48, L, .int (ii q) :: .int (ii p) :: st, M) Q = XX X d 217 (49, L, .int (ii (p - q)) :: st, M) Q := H_sub rfl (by decide) rfl
theorem x217_49 (h : -2147483648 ≤ p ∧ p ≤ 2147483647 ∧ -2147483648 ≤ q ∧ q ≤ 2147483647) : XX X d 217 (49, L, .int (ii q) :: .int (ii p) :: st, M) Q = bq (p ≤ q) X d 217 54 52 L st M Q := H_if2 rfl ⟨rfl, rfl, rfl, by decide⟩ rfl rfl rfl rfl (D_ge h)
theorem x217_52 : XX X d 217 (52, [l0, l1, l2, some (.int x)], st, M) Q = XX X d 217 (53, [l0, l1, l2, some (.int x)], .int x :: st, M) Q := H_ld rfl rfl rfl rfl rfl
theorem x217_53 (h : wide (some l1) = false) : XX X d 217 (53, [l0, l1, l2, l3], .int x :: st, M) Q = XX X d 217 (54, [l0, l1, some (.int x), l3], st, M) Q := H_st rfl rfl rfl rfl rfl rfl rfl rfl (Or.inr h)
theorem x217_54 (h : wide (some l2) = false) : XX X d 217 (54, [l0, l1, l2, some (.int (ii p))], st, M) Q = XX X d 217 (57, [l0, l1, l2, some (.int (ii (p + 1)))], st, M) Q := H_inc rfl (by decide) rfl rfl rfl (Or.inr h)
theorem x217_57 : XX X d 217 (57, L, st, M) Q = XX X d 217 (15, L, st, M) Q := H_jmp rfl (by decide) rfl
theorem x217_60 : XX X d 217 (60, [l0, l1, some (.int x), l3], st, M) Q = XX X d 217 (61, [l0, l1, some (.int x), l3], .int x :: st, M) Q := H_ld rfl rfl rfl rfl rfl
theorem x217_61 : XX X d 217 (61, L, [.int (ii p)], M) Q = Q (.inl (some (.int (ii p)))) M := G_ret rfl ⟨⟨⟨rfl, rfl, rfl, by decide⟩, rfl, rfl⟩, rfl, rfl⟩ rfl
theorem e217 : CC X d 217 [.ref a, .int x] M Q = XX X d 217 (0, [some (.ref a), some (.int x), none, none], [], M) Q := H_ent rfl rfl
-- 218 X9_matchedCharacters (I)I
theorem x218_0 : XX X d 218 (0, [some (.ref a), l1], st, M) Q = XX X d 218 (1, [some (.ref a), l1], .ref a :: st, M) Q := H_ld rfl rfl rfl rfl rfl
theorem x218_1 : XX X d 218 (1, [l0, some (.int x)], st, M) Q = XX X d 218 (2, [l0, some (.int x)], .int x :: st, M) Q := H_ld rfl rfl rfl rfl rfl
theorem x218_2 {v1 : Value} (hd : 0 < d) (hs : stB st = true) : XX X d 218 (2, L, v1 :: .ref a :: st, M) Q = (mcl M a = some 9 ∧ CC X (d - 1) 173 [.ref a, v1] M (XC X d 218 2 5 L st Q)) := H_virt [v1] rfl (by decide) rfl rfl rfl rfl rfl hd hs
theorem x218_5 (h : -2147483648 ≤ p ∧ p ≤ 2147483647) : XX X d 218 (5, L, .int (ii p) :: st, M) Q = bq (p = 0) X d 218 10 8 L st M Q := H_if rfl ⟨rfl, rfl, rfl, by decide⟩ rfl rfl rfl rfl (D_eq (b := 0) (by omega))
theorem x218_5b : XX X d 218 (5, L, .int (ii (b2i b)) :: st, M) Q = bq (b = false) X d 218 10 8 L st M Q := (x218_5 (b2i_r b)).trans (by rw [b2i_0])
theorem x218_8 : XX X d 218 (8, L, st, M) Q = XX X d 218 (9, L, .int (ii 0) :: st, M) Q := G_cst rfl rfl rfl rfl rfl
theorem x218_9 : XX X d 218 (9, L, [.int (ii p)], M) Q = Q (.inl (some (.int (ii p)))) M := G_ret rfl ⟨⟨⟨rfl, rfl, rfl, by decide⟩, rfl, rfl⟩, rfl, rfl⟩ rfl
theorem x218_10 : XX X d 218 (10, [some (.ref a), l1], st, M) Q = XX X d 218 (11, [some (.ref a), l1], .ref a :: st, M) Q := H_ld rfl rfl rfl rfl rfl
theorem x218_11 : XX X d 218 (11, [l0, some (.int x)], st, M) Q = XX X d 218 (12, [l0, some (.int x)], .int x :: st, M) Q := H_ld rfl rfl rfl rfl rfl
theorem x218_12 {v1 : Value} (hd : 0 < d) (hs : stB st = true) : XX X d 218 (12, L, v1 :: .ref a :: st, M) Q = (mcl M a = some 9 ∧ CC X (d - 1) 193 [.ref a, v1] M (XC X d 218 12 15 L st Q)) := H_virt [v1] rfl (by decide) rfl rfl rfl rfl rfl hd hs
theorem x218_15 : XX X d 218 (15, [some (.ref a), l1], st, M) Q = XX X d 218 (16, [some (.ref a), l1], .ref a :: st, M) Q := H_ld rfl rfl rfl rfl rfl
theorem x218_16 (hd : 0 < d) (hs : stB st = true) : XX X d 218 (16, L, .ref a :: st, M) Q = (mcl M a = some 9 ∧ CC X (d - 1) 194 [.ref a] M (XC X d 218 16 19 L st Q)) := H_virt [] rfl (by decide) rfl rfl rfl rfl rfl hd hs
theorem x218_19 : XX X d 218 (19, L, [.int (ii p)], M) Q = Q (.inl (some (.int (ii p)))) M := G_ret rfl ⟨⟨⟨rfl, rfl, rfl, by decide⟩, rfl, rfl⟩, rfl, rfl⟩ rfl
theorem e218 : CC X d 218 [.ref a, .int x] M Q = XX X d 218 (0, [some (.ref a), some (.int x)], [], M) Q := H_ent rfl rfl
-- 219 X9_patternByMatches (I)I
theorem x219_0 : XX X d 219 (0, L, st, M) Q = XX X d 219 (1, L, .int (ii 0) :: st, M) Q := G_cst rfl rfl rfl rfl rfl
theorem x219_1 (h : wide (some l1) = false) : XX X d 219 (1, [l0, l1, l2, l3, l4], .int x :: st, M) Q = XX X d 219 (2, [l0, l1, some (.int x), l3, l4], st, M) Q := H_st rfl rfl rfl rfl rfl rfl rfl rfl (Or.inr h)
theorem x219_2 : XX X d 219 (2, [l0, l1, some (.int x), l3, l4], st, M) Q = XX X d 219 (3, [l0, l1, some (.int x), l3, l4], .int x :: st, M) Q := H_ld rfl rfl rfl rfl rfl
theorem x219_3 : XX X d 219 (3, [some (.ref a), l1, l2, l3, l4], st, M) Q = XX X d 219 (4, [some (.ref a), l1, l2, l3, l4], .ref a :: st, M) Q := H_ld rfl rfl rfl rfl rfl
theorem x219_4 : XX X d 219 (4, L, .ref a :: st, M) Q = yg (M.2.2 a) 9 0 X d 219 7 L st M Q := G_getf rfl (by decide) rfl rfl rfl
theorem x219_7 : XX X d 219 (7, L, st, M) Q = XX X d 219 (8, L, .int (ii 0) :: st, M) Q := G_cst rfl rfl rfl rfl rfl
theorem x219_8 : XX X d 219 (8, L, .int x :: .ref a :: st, M) Q = ya (M.2.2 a) .iaload x X d 219 9 L st M Q := G_ald rfl ⟨⟨rfl, rfl, rfl, by decide⟩, rfl, rfl⟩ rfl rfl
theorem x219_9 (h : -2147483648 ≤ p ∧ p ≤ 2147483647 ∧ -2147483648 ≤ q ∧ q ≤ 2147483647) : XX X d 219 (9, L, .int (ii q) :: .int (ii p) :: st, M) Q = bq (q ≤ p) X d 219 33 12 L st M Q := H_if2 rfl ⟨rfl, rfl, rfl, by decide⟩ rfl rfl rfl rfl (D_le h)
theorem x219_12 : XX X d 219 (12, [some (.ref a), l1, l2, l3, l4], st, M) Q = XX X d 219 (13, [some (.ref a), l1, l2, l3, l4], .ref a :: st, M) Q := H_ld rfl rfl rfl rfl rfl
theorem x219_13 : XX X d 219 (13, [l0, l1, some (.int x), l3, l4], st, M) Q = XX X d 219 (14, [l0, l1, some (.int x), l3, l4], .int x :: st, M) Q := H_ld rfl rfl rfl rfl rfl
theorem x219_14 {v1 : Value} (hd : 0 < d) (hs : stB st = true) : XX X d 219 (14, L, v1 :: .ref a :: st, M) Q = (mcl M a = some 9 ∧ CC X (d - 1) 193 [.ref a, v1] M (XC X d 219 14 17 L st Q)) := H_virt [v1] rfl (by decide) rfl rfl rfl rfl rfl hd hs
theorem x219_17 : XX X d 219 (17, [some (.ref a), l1, l2, l3, l4], st, M) Q = XX X d 219 (18, [some (.ref a), l1, l2, l3, l4], .ref a :: st, M) Q := H_ld rfl rfl rfl rfl rfl
theorem x219_18 : XX X d 219 (18, L, .ref a :: st, M) Q = yg (M.2.2 a) 9 40 X d 219 21 L st M Q := G_getf rfl (by decide) rfl rfl rfl
theorem x219_21 : XX X d 219 (21, [l0, l1, some (.int x), l3, l4], st, M) Q = XX X d 219 (22, [l0, l1, some (.int x), l3, l4], .int x :: st, M) Q := H_ld rfl rfl rfl rfl rfl
theorem x219_22 : XX X d 219 (22, [some (.ref a), l1, l2, l3, l4], st, M) Q = XX X d 219 (23, [some (.ref a), l1, l2, l3, l4], .ref a :: st, M) Q := H_ld rfl rfl rfl rfl rfl
theorem x219_23 : XX X d 219 (23, L, .ref a :: st, M) Q = yg (M.2.2 a) 9 38 X d 219 26 L st M Q := G_getf rfl (by decide) rfl rfl rfl
theorem x219_26 : XX X d 219 (26, L, v :: .int x :: .ref a :: st, M) Q = yw (M.2.2 a) a .iastore v x X d 219 27 L st M Q := G_ast rfl ⟨⟨rfl, rfl, rfl, by decide⟩, rfl, rfl⟩ rfl rfl rfl
theorem x219_27 (h : wide (some l1) = false) : XX X d 219 (27, [l0, l1, some (.int (ii p)), l3, l4], st, M) Q = XX X d 219 (30, [l0, l1, some (.int (ii (p + 1))), l3, l4], st, M) Q := H_inc rfl (by decide) rfl rfl rfl (Or.inr h)
theorem x219_30 : XX X d 219 (30, L, st, M) Q = XX X d 219 (2, L, st, M) Q := H_jmp rfl (by decide) rfl
theorem x219_33 : XX X d 219 (33, L, st, M) Q = XX X d 219 (34, L, .int (ii 0) :: st, M) Q := G_cst rfl rfl rfl rfl rfl
theorem x219_34 (h : wide (some l1) = false) : XX X d 219 (34, [l0, l1, l2, l3, l4], .int x :: st, M) Q = XX X d 219 (35, [l0, l1, some (.int x), l3, l4], st, M) Q := H_st rfl rfl rfl rfl rfl rfl rfl rfl (Or.inr h)
theorem x219_35 : XX X d 219 (35, [l0, l1, some (.int x), l3, l4], st, M) Q = XX X d 219 (36, [l0, l1, some (.int x), l3, l4], .int x :: st, M) Q := H_ld rfl rfl rfl rfl rfl
theorem x219_36 : XX X d 219 (36, [some (.ref a), l1, l2, l3, l4], st, M) Q = XX X d 219 (37, [some (.ref a), l1, l2, l3, l4], .ref a :: st, M) Q := H_ld rfl rfl rfl rfl rfl
theorem x219_37 : XX X d 219 (37, L, .ref a :: st, M) Q = yg (M.2.2 a) 9 0 X d 219 40 L st M Q := G_getf rfl (by decide) rfl rfl rfl
theorem x219_40 : XX X d 219 (40, L, st, M) Q = XX X d 219 (41, L, .int (ii 0) :: st, M) Q := G_cst rfl rfl rfl rfl rfl
theorem x219_41 : XX X d 219 (41, L, .int x :: .ref a :: st, M) Q = ya (M.2.2 a) .iaload x X d 219 42 L st M Q := G_ald rfl ⟨⟨rfl, rfl, rfl, by decide⟩, rfl, rfl⟩ rfl rfl
theorem x219_42 (h : -2147483648 ≤ p ∧ p ≤ 2147483647 ∧ -2147483648 ≤ q ∧ q ≤ 2147483647) : XX X d 219 (42, L, .int (ii q) :: .int (ii p) :: st, M) Q = bq (q ≤ p) X d 219 134 45 L st M Q := H_if2 rfl ⟨rfl, rfl, rfl, by decide⟩ rfl rfl rfl rfl (D_le h)
theorem x219_45 : XX X d 219 (45, L, st, M) Q = XX X d 219 (46, L, .int (ii 0) :: st, M) Q := G_cst rfl rfl rfl rfl rfl
theorem x219_46 (h : wide (some l2) = false) : XX X d 219 (46, [l0, l1, l2, l3, l4], .int x :: st, M) Q = XX X d 219 (47, [l0, l1, l2, some (.int x), l4], st, M) Q := H_st rfl rfl rfl rfl rfl rfl rfl rfl (Or.inr h)
theorem x219_47 : XX X d 219 (47, L, st, M) Q = XX X d 219 (48, L, .int (ii 0) :: st, M) Q := G_cst rfl rfl rfl rfl rfl
theorem x219_48 (h : wide (some l3) = false) : XX X d 219 (48, [l0, l1, l2, l3, l4], .int x :: st, M) Q = XX X d 219 (50, [l0, l1, l2, l3, some (.int x)], st, M) Q := H_st rfl rfl rfl rfl rfl rfl rfl rfl (Or.inr h)
theorem x219_50 : XX X d 219 (50, [l0, l1, l2, l3, some (.int x)], st, M) Q = XX X d 219 (52, [l0, l1, l2, l3, some (.int x)], .int x :: st, M) Q := H_ld rfl rfl rfl rfl rfl
theorem x219_52 : XX X d 219 (52, [some (.ref a), l1, l2, l3, l4], st, M) Q = XX X d 219 (53, [some (.ref a), l1, l2, l3, l4], .ref a :: st, M) Q := H_ld rfl rfl rfl rfl rfl
theorem x219_53 : XX X d 219 (53, L, .ref a :: st, M) Q = yg (M.2.2 a) 9 0 X d 219 56 L st M Q := G_getf rfl (by decide) rfl rfl rfl
theorem x219_56 : XX X d 219 (56, L, st, M) Q = XX X d 219 (57, L, .int (ii 0) :: st, M) Q := G_cst rfl rfl rfl rfl rfl
theorem x219_57 : XX X d 219 (57, L, .int x :: .ref a :: st, M) Q = ya (M.2.2 a) .iaload x X d 219 58 L st M Q := G_ald rfl ⟨⟨rfl, rfl, rfl, by decide⟩, rfl, rfl⟩ rfl rfl
theorem x219_58 (h : -2147483648 ≤ p ∧ p ≤ 2147483647 ∧ -2147483648 ≤ q ∧ q ≤ 2147483647) : XX X d 219 (58, L, .int (ii q) :: .int (ii p) :: st, M) Q = bq (q ≤ p) X d 219 113 61 L st M Q := H_if2 rfl ⟨rfl, rfl, rfl, by decide⟩ rfl rfl rfl rfl (D_le h)
theorem x219_61 : XX X d 219 (61, [l0, l1, l2, some (.int x), l4], st, M) Q = XX X d 219 (62, [l0, l1, l2, some (.int x), l4], .int x :: st, M) Q := H_ld rfl rfl rfl rfl rfl
theorem x219_62 : XX X d 219 (62, [some (.ref a), l1, l2, l3, l4], st, M) Q = XX X d 219 (63, [some (.ref a), l1, l2, l3, l4], .ref a :: st, M) Q := H_ld rfl rfl rfl rfl rfl
theorem x219_63 : XX X d 219 (63, L, .ref a :: st, M) Q = yg (M.2.2 a) 9 40 X d 219 66 L st M Q := G_getf rfl (by decide) rfl rfl rfl
theorem x219_66 : XX X d 219 (66, [l0, l1, l2, l3, some (.int x)], st, M) Q = XX X d 219 (68, [l0, l1, l2, l3, some (.int x)], .int x :: st, M) Q := H_ld rfl rfl rfl rfl rfl
theorem x219_68 : XX X d 219 (68, L, .int x :: .ref a :: st, M) Q = ya (M.2.2 a) .iaload x X d 219 69 L st M Q := G_ald rfl ⟨⟨rfl, rfl, rfl, by decide⟩, rfl, rfl⟩ rfl rfl
theorem x219_69 : XX X d 219 (69, [some (.ref a), l1, l2, l3, l4], st, M) Q = XX X d 219 (70, [some (.ref a), l1, l2, l3, l4], .ref a :: st, M) Q := H_ld rfl rfl rfl rfl rfl
theorem x219_70 : XX X d 219 (70, L, .ref a :: st, M) Q = yg (M.2.2 a) 9 40 X d 219 73 L st M Q := G_getf rfl (by decide) rfl rfl rfl
theorem x219_73 : XX X d 219 (73, [l0, l1, some (.int x), l3, l4], st, M) Q = XX X d 219 (74, [l0, l1, some (.int x), l3, l4], .int x :: st, M) Q := H_ld rfl rfl rfl rfl rfl
theorem x219_74 : XX X d 219 (74, L, .int x :: .ref a :: st, M) Q = ya (M.2.2 a) .iaload x X d 219 75 L st M Q := G_ald rfl ⟨⟨rfl, rfl, rfl, by decide⟩, rfl, rfl⟩ rfl rfl
theorem x219_75 (h : -2147483648 ≤ p ∧ p ≤ 2147483647 ∧ -2147483648 ≤ q ∧ q ≤ 2147483647) : XX X d 219 (75, L, .int (ii q) :: .int (ii p) :: st, M) Q = bq (q < p) X d 219 100 78 L st M Q := H_if2 rfl ⟨rfl, rfl, rfl, by decide⟩ rfl rfl rfl rfl (D_gt h)
theorem x219_78 : XX X d 219 (78, [some (.ref a), l1, l2, l3, l4], st, M) Q = XX X d 219 (79, [some (.ref a), l1, l2, l3, l4], .ref a :: st, M) Q := H_ld rfl rfl rfl rfl rfl
theorem x219_79 : XX X d 219 (79, L, .ref a :: st, M) Q = yg (M.2.2 a) 9 40 X d 219 82 L st M Q := G_getf rfl (by decide) rfl rfl rfl
theorem x219_82 : XX X d 219 (82, [l0, l1, l2, l3, some (.int x)], st, M) Q = XX X d 219 (84, [l0, l1, l2, l3, some (.int x)], .int x :: st, M) Q := H_ld rfl rfl rfl rfl rfl
theorem x219_84 : XX X d 219 (84, L, .int x :: .ref a :: st, M) Q = ya (M.2.2 a) .iaload x X d 219 85 L st M Q := G_ald rfl ⟨⟨rfl, rfl, rfl, by decide⟩, rfl, rfl⟩ rfl rfl
theorem x219_85 : XX X d 219 (85, [some (.ref a), l1, l2, l3, l4], st, M) Q = XX X d 219 (86, [some (.ref a), l1, l2, l3, l4], .ref a :: st, M) Q := H_ld rfl rfl rfl rfl rfl
theorem x219_86 : XX X d 219 (86, L, .ref a :: st, M) Q = yg (M.2.2 a) 9 40 X d 219 89 L st M Q := G_getf rfl (by decide) rfl rfl rfl
theorem x219_89 : XX X d 219 (89, [l0, l1, some (.int x), l3, l4], st, M) Q = XX X d 219 (90, [l0, l1, some (.int x), l3, l4], .int x :: st, M) Q := H_ld rfl rfl rfl rfl rfl
theorem x219_90 : XX X d 219 (90, L, .int x :: .ref a :: st, M) Q = ya (M.2.2 a) .iaload x X d 219 91 L st M Q := G_ald rfl ⟨⟨rfl, rfl, rfl, by decide⟩, rfl, rfl⟩ rfl rfl
theorem x219_91 (h : -2147483648 ≤ p ∧ p ≤ 2147483647 ∧ -2147483648 ≤ q ∧ q ≤ 2147483647) : XX X d 219 (91, L, .int (ii q) :: .int (ii p) :: st, M) Q = bq (p ≠ q) X d 219 104 94 L st M Q := H_if2 rfl ⟨rfl, rfl, rfl, by decide⟩ rfl rfl rfl rfl (D_ne h)
theorem x219_94 : XX X d 219 (94, [l0, l1, l2, l3, some (.int x)], st, M) Q = XX X d 219 (96, [l0, l1, l2, l3, some (.int x)], .int x :: st, M) Q := H_ld rfl rfl rfl rfl rfl
theorem x219_96 : XX X d 219 (96, [l0, l1, some (.int x), l3, l4], st, M) Q = XX X d 219 (97, [l0, l1, some (.int x), l3, l4], .int x :: st, M) Q := H_ld rfl rfl rfl rfl rfl
theorem x219_97 (h : -2147483648 ≤ p ∧ p ≤ 2147483647 ∧ -2147483648 ≤ q ∧ q ≤ 2147483647) : XX X d 219 (97, L, .int (ii q) :: .int (ii p) :: st, M) Q = bq (q ≤ p) X d 219 104 100 L st M Q := H_if2 rfl ⟨rfl, rfl, rfl, by decide⟩ rfl rfl rfl rfl (D_le h)
theorem x219_100 : XX X d 219 (100, L, st, M) Q = XX X d 219 (101, L, .int (ii 1) :: st, M) Q := G_cst rfl rfl rfl rfl rfl
theorem x219_101 : XX X d 219 (101, L, st, M) Q = XX X d 219 (105, L, st, M) Q := H_jmp rfl (by decide) rfl
theorem x219_104 : XX X d 219 (104, L, st, M) Q = XX X d 219 (105, L, .int (ii 0) :: st, M) Q := G_cst rfl rfl rfl rfl rfl
theorem x219_105 : XX X d 219 (105, L, .int (ii q) :: .int (ii p) :: st, M) Q = XX X d 219 (106, L, .int (ii (p + q)) :: st, M) Q := H_add rfl (by decide) rfl
theorem x219_106 (h : wide (some l2) = false) : XX X d 219 (106, [l0, l1, l2, l3, l4], .int x :: st, M) Q = XX X d 219 (107, [l0, l1, l2, some (.int x), l4], st, M) Q := H_st rfl rfl rfl rfl rfl rfl rfl rfl (Or.inr h)
theorem x219_107 (h : wide (some l3) = false) : XX X d 219 (107, [l0, l1, l2, l3, some (.int (ii p))], st, M) Q = XX X d 219 (110, [l0, l1, l2, l3, some (.int (ii (p + 1)))], st, M) Q := H_inc rfl (by decide) rfl rfl rfl (Or.inr h)
theorem x219_110 : XX X d 219 (110, L, st, M) Q = XX X d 219 (50, L, st, M) Q := H_jmp rfl (by decide) rfl
theorem x219_113 : XX X d 219 (113, [l0, l1, l2, some (.int x), l4], st, M) Q = XX X d 219 (114, [l0, l1, l2, some (.int x), l4], .int x :: st, M) Q := H_ld rfl rfl rfl rfl rfl
theorem x219_114 : XX X d 219 (114, [l0, some (.int x), l2, l3, l4], st, M) Q = XX X d 219 (115, [l0, some (.int x), l2, l3, l4], .int x :: st, M) Q := H_ld rfl rfl rfl rfl rfl
theorem x219_115 (h : -2147483648 ≤ p ∧ p ≤ 2147483647 ∧ -2147483648 ≤ q ∧ q ≤ 2147483647) : XX X d 219 (115, L, .int (ii q) :: .int (ii p) :: st, M) Q = bq (p = q) X d 219 121 118 L st M Q := H_if2 rfl ⟨rfl, rfl, rfl, by decide⟩ rfl rfl rfl rfl (D_eq h)
theorem x219_118 : XX X d 219 (118, L, st, M) Q = XX X d 219 (128, L, st, M) Q := H_jmp rfl (by decide) rfl
theorem x219_121 : XX X d 219 (121, [some (.ref a), l1, l2, l3, l4], st, M) Q = XX X d 219 (122, [some (.ref a), l1, l2, l3, l4], .ref a :: st, M) Q := H_ld rfl rfl rfl rfl rfl
theorem x219_122 : XX X d 219 (122, L, st, M) Q = XX X d 219 (123, L, .int (ii 0) :: st, M) Q := G_cst rfl rfl rfl rfl rfl
theorem x219_123 : XX X d 219 (123, L, v :: .ref a :: st, M) Q = yp (M.2.2 a) a 9 5 v X d 219 126 L st M Q := G_putf rfl (by decide) rfl rfl rfl
theorem x219_126 : XX X d 219 (126, [l0, l1, some (.int x), l3, l4], st, M) Q = XX X d 219 (127, [l0, l1, some (.int x), l3, l4], .int x :: st, M) Q := H_ld rfl rfl rfl rfl rfl
theorem x219_127 : XX X d 219 (127, L, [.int (ii p)], M) Q = Q (.inl (some (.int (ii p)))) M := G_ret rfl ⟨⟨⟨rfl, rfl, rfl, by decide⟩, rfl, rfl⟩, rfl, rfl⟩ rfl
theorem x219_128 (h : wide (some l1) = false) : XX X d 219 (128, [l0, l1, some (.int (ii p)), l3, l4], st, M) Q = XX X d 219 (131, [l0, l1, some (.int (ii (p + 1))), l3, l4], st, M) Q := H_inc rfl (by decide) rfl rfl rfl (Or.inr h)
theorem x219_131 : XX X d 219 (131, L, st, M) Q = XX X d 219 (35, L, st, M) Q := H_jmp rfl (by decide) rfl
theorem x219_134 : XX X d 219 (134, [some (.ref a), l1, l2, l3, l4], st, M) Q = XX X d 219 (135, [some (.ref a), l1, l2, l3, l4], .ref a :: st, M) Q := H_ld rfl rfl rfl rfl rfl
theorem x219_135 : XX X d 219 (135, L, st, M) Q = XX X d 219 (136, L, .int (ii 1) :: st, M) Q := G_cst rfl rfl rfl rfl rfl
theorem x219_136 : XX X d 219 (136, L, v :: .ref a :: st, M) Q = yp (M.2.2 a) a 9 5 v X d 219 139 L st M Q := G_putf rfl (by decide) rfl rfl rfl
theorem x219_139 : XX X d 219 (139, L, st, M) Q = XX X d 219 (140, L, .int (ii 0) :: st, M) Q := G_cst rfl rfl rfl rfl rfl
theorem x219_140 : XX X d 219 (140, L, [.int (ii p)], M) Q = Q (.inl (some (.int (ii p)))) M := G_ret rfl ⟨⟨⟨rfl, rfl, rfl, by decide⟩, rfl, rfl⟩, rfl, rfl⟩ rfl
theorem e219 : CC X d 219 [.ref a, .int x] M Q = XX X d 219 (0, [some (.ref a), some (.int x), none, none, none], [], M) Q := H_ent rfl rfl
-- 220 X9_meanMatchLength (I)D
theorem x220_0 : XX X d 220 (0, [some (.ref a), l1], st, M) Q = XX X d 220 (1, [some (.ref a), l1], .ref a :: st, M) Q := H_ld rfl rfl rfl rfl rfl
theorem x220_1 : XX X d 220 (1, [l0, some (.int x)], st, M) Q = XX X d 220 (2, [l0, some (.int x)], .int x :: st, M) Q := H_ld rfl rfl rfl rfl rfl
theorem x220_2 {v1 : Value} (hd : 0 < d) (hs : stB st = true) : XX X d 220 (2, L, v1 :: .ref a :: st, M) Q = (mcl M a = some 9 ∧ CC X (d - 1) 173 [.ref a, v1] M (XC X d 220 2 5 L st Q)) := H_virt [v1] rfl (by decide) rfl rfl rfl rfl rfl hd hs
theorem x220_5 (h : -2147483648 ≤ p ∧ p ≤ 2147483647) : XX X d 220 (5, L, .int (ii p) :: st, M) Q = bq (p = 0) X d 220 10 8 L st M Q := H_if rfl ⟨rfl, rfl, rfl, by decide⟩ rfl rfl rfl rfl (D_eq (b := 0) (by omega))
theorem x220_5b : XX X d 220 (5, L, .int (ii (b2i b)) :: st, M) Q = bq (b = false) X d 220 10 8 L st M Q := (x220_5 (b2i_r b)).trans (by rw [b2i_0])
theorem x220_8 : XX X d 220 (8, L, st, M) Q = XX X d 220 (9, L, .double FP.dconst0 :: st, M) Q := G_cst rfl rfl rfl rfl rfl
theorem x220_9 : XX X d 220 (9, L, [.double w], M) Q = Q (.inl (some (.double w))) M := G_ret rfl ⟨⟨⟨rfl, rfl, rfl, by decide⟩, rfl, rfl⟩, rfl, rfl⟩ rfl
theorem x220_10 : XX X d 220 (10, [some (.ref a), l1], st, M) Q = XX X d 220 (11, [some (.ref a), l1], .ref a :: st, M) Q := H_ld rfl rfl rfl rfl rfl
theorem x220_11 : XX X d 220 (11, [l0, some (.int x)], st, M) Q = XX X d 220 (12, [l0, some (.int x)], .int x :: st, M) Q := H_ld rfl rfl rfl rfl rfl
theorem x220_12 {v1 : Value} (hd : 0 < d) (hs : stB st = true) : XX X d 220 (12, L, v1 :: .ref a :: st, M) Q = (mcl M a = some 9 ∧ CC X (d - 1) 193 [.ref a, v1] M (XC X d 220 12 15 L st Q)) := H_virt [v1] rfl (by decide) rfl rfl rfl rfl rfl hd hs
theorem x220_15 : XX X d 220 (15, [some (.ref a), l1], st, M) Q = XX X d 220 (16, [some (.ref a), l1], .ref a :: st, M) Q := H_ld rfl rfl rfl rfl rfl
theorem x220_16 : XX X d 220 (16, [some (.ref a), l1], st, M) Q = XX X d 220 (17, [some (.ref a), l1], .ref a :: st, M) Q := H_ld rfl rfl rfl rfl rfl
theorem x220_17 : XX X d 220 (17, L, .ref a :: st, M) Q = yg (M.2.2 a) 9 38 X d 220 20 L st M Q := G_getf rfl (by decide) rfl rfl rfl
theorem x220_20 (h : -2147483648 ≤ p ∧ p ≤ 2147483647) : XX X d 220 (20, L, .int (ii p) :: st, M) Q = bq (p ≠ 0) X d 220 27 23 L st M Q := H_if rfl ⟨rfl, rfl, rfl, by decide⟩ rfl rfl rfl rfl (D_ne (b := 0) (by omega))
theorem x220_20b : XX X d 220 (20, L, .int (ii (b2i b)) :: st, M) Q = bq (b = true) X d 220 27 23 L st M Q := (x220_20 (b2i_r b)).trans (by rw [b2i_n0])
theorem x220_23 : XX X d 220 (23, L, st, M) Q = XX X d 220 (24, L, .int (ii 2) :: st, M) Q := G_cst rfl rfl rfl rfl rfl
theorem x220_24 : XX X d 220 (24, L, st, M) Q = XX X d 220 (28, L, st, M) Q := H_jmp rfl (by decide) rfl
theorem x220_27 : XX X d 220 (27, L, st, M) Q = XX X d 220 (28, L, .int (ii 0) :: st, M) Q := G_cst rfl rfl rfl rfl rfl
theorem x220_28 {v1 : Value} (hd : 0 < d) (hs : stB st = true) : XX X d 220 (28, L, v1 :: .ref a :: st, M) Q = (mcl M a = some 9 ∧ CC X (d - 1) 144 [.ref a, v1] M (XC X d 220 28 31 L st Q)) := H_virt [v1] rfl (by decide) rfl rfl rfl rfl rfl hd hs
theorem x220_31 (h : -2147483648 ≤ p ∧ p ≤ 2147483647) : XX X d 220 (31, L, .int (ii p) :: st, M) Q = bq (p = 0) X d 220 38 34 L st M Q := H_if rfl ⟨rfl, rfl, rfl, by decide⟩ rfl rfl rfl rfl (D_eq (b := 0) (by omega))
theorem x220_31b : XX X d 220 (31, L, .int (ii (b2i b)) :: st, M) Q = bq (b = false) X d 220 38 34 L st M Q := (x220_31 (b2i_r b)).trans (by rw [b2i_0])
theorem x220_34 : XX X d 220 (34, L, st, M) Q = XX X d 220 (35, L, .double FP.dconst0 :: st, M) Q := G_cst rfl rfl rfl rfl rfl
theorem x220_35 : XX X d 220 (35, L, st, M) Q = XX X d 220 (49, L, st, M) Q := H_jmp rfl (by decide) rfl
theorem x220_38 : XX X d 220 (38, [some (.ref a), l1], st, M) Q = XX X d 220 (39, [some (.ref a), l1], .ref a :: st, M) Q := H_ld rfl rfl rfl rfl rfl
theorem x220_39 (hd : 0 < d) (hs : stB st = true) : XX X d 220 (39, L, .ref a :: st, M) Q = (mcl M a = some 9 ∧ CC X (d - 1) 194 [.ref a] M (XC X d 220 39 42 L st Q)) := H_virt [] rfl (by decide) rfl rfl rfl rfl rfl hd hs
theorem x220_42 : XX X d 220 (42, L, .int x :: st, M) Q = XX X d 220 (43, L, .double (FP.i2d x) :: st, M) Q := G_sop rfl ⟨rfl, rfl, rfl, by decide⟩ rfl rfl
theorem x220_43 : XX X d 220 (43, [some (.ref a), l1], st, M) Q = XX X d 220 (44, [some (.ref a), l1], .ref a :: st, M) Q := H_ld rfl rfl rfl rfl rfl
theorem x220_44 : XX X d 220 (44, L, .ref a :: st, M) Q = yg (M.2.2 a) 9 38 X d 220 47 L st M Q := G_getf rfl (by decide) rfl rfl rfl
theorem x220_47 : XX X d 220 (47, L, .int x :: st, M) Q = XX X d 220 (48, L, .double (FP.i2d x) :: st, M) Q := G_sop rfl ⟨rfl, rfl, rfl, by decide⟩ rfl rfl
theorem x220_48 (h : nn64 (FP.ddiv w w2) = true) : XX X d 220 (48, L, .double w2 :: .double w :: st, M) Q = XX X d 220 (49, L, .double (FP.ddiv w w2) :: st, M) Q := G_sop rfl ⟨rfl, rfl, rfl, by decide⟩ (if_pos h) rfl
theorem x220_49 : XX X d 220 (49, L, [.double w], M) Q = Q (.inl (some (.double w))) M := G_ret rfl ⟨⟨⟨rfl, rfl, rfl, by decide⟩, rfl, rfl⟩, rfl, rfl⟩ rfl
theorem e220 : CC X d 220 [.ref a, .int x] M Q = XX X d 220 (0, [some (.ref a), some (.int x)], [], M) Q := H_ent rfl rfl
-- 221 X9_coverage (I)F
theorem x221_0 : XX X d 221 (0, [some (.ref a), l1], st, M) Q = XX X d 221 (1, [some (.ref a), l1], .ref a :: st, M) Q := H_ld rfl rfl rfl rfl rfl
theorem x221_1 : XX X d 221 (1, [some (.ref a), l1], st, M) Q = XX X d 221 (2, [some (.ref a), l1], .ref a :: st, M) Q := H_ld rfl rfl rfl rfl rfl
theorem x221_2 : XX X d 221 (2, [l0, some (.int x)], st, M) Q = XX X d 221 (3, [l0, some (.int x)], .int x :: st, M) Q := H_ld rfl rfl rfl rfl rfl
theorem x221_3 {v1 : Value} (hd : 0 < d) (hs : stB st = true) : XX X d 221 (3, L, v1 :: .ref a :: st, M) Q = (mcl M a = some 9 ∧ CC X (d - 1) 172 [.ref a, v1] M (XC X d 221 3 6 L st Q)) := H_virt [v1] rfl (by decide) rfl rfl rfl rfl rfl hd hs
theorem x221_6 (h : -2147483648 ≤ p ∧ p ≤ 2147483647) : XX X d 221 (6, L, .int (ii p) :: st, M) Q = bq (p ≠ 0) X d 221 13 9 L st M Q := H_if rfl ⟨rfl, rfl, rfl, by decide⟩ rfl rfl rfl rfl (D_ne (b := 0) (by omega))
theorem x221_6b : XX X d 221 (6, L, .int (ii (b2i b)) :: st, M) Q = bq (b = true) X d 221 13 9 L st M Q := (x221_6 (b2i_r b)).trans (by rw [b2i_n0])
theorem x221_9 : XX X d 221 (9, L, st, M) Q = XX X d 221 (10, L, .int (ii 1) :: st, M) Q := G_cst rfl rfl rfl rfl rfl
theorem x221_10 : XX X d 221 (10, L, st, M) Q = XX X d 221 (28, L, st, M) Q := H_jmp rfl (by decide) rfl
theorem x221_13 : XX X d 221 (13, [some (.ref a), l1], st, M) Q = XX X d 221 (14, [some (.ref a), l1], .ref a :: st, M) Q := H_ld rfl rfl rfl rfl rfl
theorem x221_14 : XX X d 221 (14, L, .ref a :: st, M) Q = yg (M.2.2 a) 9 0 X d 221 17 L st M Q := G_getf rfl (by decide) rfl rfl rfl
theorem x221_17 : XX X d 221 (17, L, st, M) Q = XX X d 221 (19, L, .int (ii 125) :: st, M) Q := G_cst rfl rfl rfl rfl rfl
theorem x221_19 : XX X d 221 (19, L, .int x :: .ref a :: st, M) Q = ya (M.2.2 a) .iaload x X d 221 20 L st M Q := G_ald rfl ⟨⟨rfl, rfl, rfl, by decide⟩, rfl, rfl⟩ rfl rfl
theorem x221_20 (h : -2147483648 ≤ p ∧ p ≤ 2147483647) : XX X d 221 (20, L, .int (ii p) :: st, M) Q = bq (p ≠ 0) X d 221 27 23 L st M Q := H_if rfl ⟨rfl, rfl, rfl, by decide⟩ rfl rfl rfl rfl (D_ne (b := 0) (by omega))
theorem x221_20b : XX X d 221 (20, L, .int (ii (b2i b)) :: st, M) Q = bq (b = true) X d 221 27 23 L st M Q := (x221_20 (b2i_r b)).trans (by rw [b2i_n0])
theorem x221_23 : XX X d 221 (23, L, st, M) Q = XX X d 221 (24, L, .int (ii 2) :: st, M) Q := G_cst rfl rfl rfl rfl rfl
theorem x221_24 : XX X d 221 (24, L, st, M) Q = XX X d 221 (28, L, st, M) Q := H_jmp rfl (by decide) rfl
theorem x221_27 : XX X d 221 (27, L, st, M) Q = XX X d 221 (28, L, .int (ii 0) :: st, M) Q := G_cst rfl rfl rfl rfl rfl
theorem x221_28 {v1 : Value} (hd : 0 < d) (hs : stB st = true) : XX X d 221 (28, L, v1 :: .ref a :: st, M) Q = (mcl M a = some 9 ∧ CC X (d - 1) 144 [.ref a, v1] M (XC X d 221 28 31 L st Q)) := H_virt [v1] rfl (by decide) rfl rfl rfl rfl rfl hd hs
theorem x221_31 (h : -2147483648 ≤ p ∧ p ≤ 2147483647) : XX X d 221 (31, L, .int (ii p) :: st, M) Q = bq (p = 0) X d 221 36 34 L st M Q := H_if rfl ⟨rfl, rfl, rfl, by decide⟩ rfl rfl rfl rfl (D_eq (b := 0) (by omega))
theorem x221_31b : XX X d 221 (31, L, .int (ii (b2i b)) :: st, M) Q = bq (b = false) X d 221 36 34 L st M Q := (x221_31 (b2i_r b)).trans (by rw [b2i_0])
theorem x221_34 : XX X d 221 (34, L, st, M) Q = XX X d 221 (35, L, .float FP.fconst0 :: st, M) Q := G_cst rfl rfl rfl rfl rfl
theorem x221_35 : XX X d 221 (35, L, [.float z], M) Q = Q (.inl (some (.float z))) M := G_ret rfl ⟨⟨⟨rfl, rfl, rfl, by decide⟩, rfl, rfl⟩, rfl, rfl⟩ rfl
theorem x221_36 : XX X d 221 (36, [some (.ref a), l1], st, M) Q = XX X d 221 (37, [some (.ref a), l1], .ref a :: st, M) Q := H_ld rfl rfl rfl rfl rfl
theorem x221_37 : XX X d 221 (37, [l0, some (.int x)], st, M) Q = XX X d 221 (38, [l0, some (.int x)], .int x :: st, M) Q := H_ld rfl rfl rfl rfl rfl
theorem x221_38 {v1 : Value} (hd : 0 < d) (hs : stB st = true) : XX X d 221 (38, L, v1 :: .ref a :: st, M) Q = (mcl M a = some 9 ∧ CC X (d - 1) 193 [.ref a, v1] M (XC X d 221 38 41 L st Q)) := H_virt [v1] rfl (by decide) rfl rfl rfl rfl rfl hd hs
theorem x221_41 : XX X d 221 (41, [some (.ref a), l1], st, M) Q = XX X d 221 (42, [some (.ref a), l1], .ref a :: st, M) Q := H_ld rfl rfl rfl rfl rfl
theorem x221_42 (hd : 0 < d) (hs : stB st = true) : XX X d 221 (42, L, .ref a :: st, M) Q = (mcl M a = some 9 ∧ CC X (d - 1) 194 [.ref a] M (XC X d 221 42 45 L st Q)) := H_virt [] rfl (by decide) rfl rfl rfl rfl rfl hd hs
theorem x221_45 : XX X d 221 (45, L, .int x :: st, M) Q = XX X d 221 (46, L, .float (FP.i2f x) :: st, M) Q := G_sop rfl ⟨rfl, rfl, rfl, by decide⟩ rfl rfl
theorem x221_46 : XX X d 221 (46, [some (.ref a), l1], st, M) Q = XX X d 221 (47, [some (.ref a), l1], .ref a :: st, M) Q := H_ld rfl rfl rfl rfl rfl
theorem x221_47 : XX X d 221 (47, L, .ref a :: st, M) Q = yg (M.2.2 a) 9 0 X d 221 50 L st M Q := G_getf rfl (by decide) rfl rfl rfl
theorem x221_50 : XX X d 221 (50, L, st, M) Q = XX X d 221 (52, L, .int (ii 125) :: st, M) Q := G_cst rfl rfl rfl rfl rfl
theorem x221_52 : XX X d 221 (52, L, .int x :: .ref a :: st, M) Q = ya (M.2.2 a) .iaload x X d 221 53 L st M Q := G_ald rfl ⟨⟨rfl, rfl, rfl, by decide⟩, rfl, rfl⟩ rfl rfl
theorem x221_53 : XX X d 221 (53, L, .int x :: st, M) Q = XX X d 221 (54, L, .float (FP.i2f x) :: st, M) Q := G_sop rfl ⟨rfl, rfl, rfl, by decide⟩ rfl rfl
theorem x221_54 (h : nn32 (FP.fdiv z z2) = true) : XX X d 221 (54, L, .float z2 :: .float z :: st, M) Q = XX X d 221 (55, L, .float (FP.fdiv z z2) :: st, M) Q := G_sop rfl ⟨rfl, rfl, rfl, by decide⟩ (if_pos h) rfl
theorem x221_55 : XX X d 221 (55, L, [.float z], M) Q = Q (.inl (some (.float z))) M := G_ret rfl ⟨⟨⟨rfl, rfl, rfl, by decide⟩, rfl, rfl⟩, rfl, rfl⟩ rfl
theorem e221 : CC X d 221 [.ref a, .int x] M Q = XX X d 221 (0, [some (.ref a), some (.int x)], [], M) Q := H_ent rfl rfl
-- 222 X9_isConsistent ()Z
theorem x222_0 : XX X d 222 (0, [some (.ref a)], st, M) Q = XX X d 222 (1, [some (.ref a)], .ref a :: st, M) Q := H_ld rfl rfl rfl rfl rfl
theorem x222_1 : XX X d 222 (1, L, st, M) Q = XX X d 222 (2, L, .int (ii 0) :: st, M) Q := G_cst rfl rfl rfl rfl rfl
theorem x222_2 : XX X d 222 (2, L, v :: .ref a :: st, M) Q = yp (M.2.2 a) a 9 5 v X d 222 5 L st M Q := G_putf rfl (by decide) rfl rfl rfl
theorem x222_5 : XX X d 222 (5, L, st, M) Q = XX X d 222 (6, L, .int (ii 1) :: st, M) Q := G_cst rfl rfl rfl rfl rfl
theorem x222_6 (h : p = 0 ∨ p = 1) : XX X d 222 (6, L, [.int (ii p)], M) Q = Q (.inl (some (.int (ii p)))) M := G_ret rfl ⟨⟨⟨rfl, rfl, rfl, by decide⟩, rfl, rfl⟩, rfl, rfl⟩ (bz_ok h)
theorem e222 : CC X d 222 [.ref a] M Q = XX X d 222 (0, [some (.ref a)], [], M) Q := H_ent rfl rfl
-- 223 X9_writes (I)V
theorem x223_0 : XX X d 223 (0, [some (.ref a), l1], st, M) Q = XX X d 223 (1, [some (.ref a), l1], .ref a :: st, M) Q := H_ld rfl rfl rfl rfl rfl
theorem x223_1 : XX X d 223 (1, L, .ref a :: st, M) Q = yg (M.2.2 a) 9 13 X d 223 4 L st M Q := G_getf rfl (by decide) rfl rfl rfl
theorem x223_4 : XX X d 223 (4, [some (.ref a), l1], st, M) Q = XX X d 223 (5, [some (.ref a), l1], .ref a :: st, M) Q := H_ld rfl rfl rfl rfl rfl
theorem x223_5 : XX X d 223 (5, L, .ref a :: st, M) Q = yg (M.2.2 a) 9 14 X d 223 8 L st M Q := G_getf rfl (by decide) rfl rfl rfl
theorem x223_8 : XX X d 223 (8, [l0, some (.int x)], st, M) Q = XX X d 223 (9, [l0, some (.int x)], .int x :: st, M) Q := H_ld rfl rfl rfl rfl rfl
theorem x223_9 (h : 0 ≤ p ∧ p ≤ 65535) : XX X d 223 (9, L, .int (ii p) :: st, M) Q = XX X d 223 (10, L, .int (ii p) :: st, M) Q := H_i2c rfl (by decide) rfl h
theorem x223_10 : XX X d 223 (10, L, v :: .int x :: .ref a :: st, M) Q = yw (M.2.2 a) a .castore v x X d 223 11 L st M Q := G_ast rfl ⟨⟨rfl, rfl, rfl, by decide⟩, rfl, rfl⟩ rfl rfl rfl
theorem x223_11 : XX X d 223 (11, [some (.ref a), l1], st, M) Q = XX X d 223 (12, [some (.ref a), l1], .ref a :: st, M) Q := H_ld rfl rfl rfl rfl rfl
theorem x223_12 (h : v.category = 1) : XX X d 223 (12, L, v :: st, M) Q = XX X d 223 (13, L, v :: v :: st, M) Q := G_sop rfl ⟨rfl, rfl, rfl, by decide⟩ (if_pos h) rfl
theorem x223_13 : XX X d 223 (13, L, .ref a :: st, M) Q = yg (M.2.2 a) 9 14 X d 223 16 L st M Q := G_getf rfl (by decide) rfl rfl rfl
theorem x223_16 : XX X d 223 (16, L, st, M) Q = XX X d 223 (17, L, .int (ii 1) :: st, M) Q := G_cst rfl rfl rfl rfl rfl
theorem x223_17 : XX X d 223 (17, L, .int (ii q) :: .int (ii p) :: st, M) Q = XX X d 223 (18, L, .int (ii (p + q)) :: st, M) Q := H_add rfl (by decide) rfl
theorem x223_18 : XX X d 223 (18, L, v :: .ref a :: st, M) Q = yp (M.2.2 a) a 9 14 v X d 223 21 L st M Q := G_putf rfl (by decide) rfl rfl rfl
theorem x223_21 : XX X d 223 (21, L, [], M) Q = Q (.inl none) M := G_retv rfl (by decide) rfl
theorem e223 : CC X d 223 [.ref a, .int x] M Q = XX X d 223 (0, [some (.ref a), some (.int x)], [], M) Q := H_ent rfl rfl
-- 224 X9_writesNumber (I)V
theorem x224_0 : XX X d 224 (0, [l0, some (.int x)], st, M) Q = XX X d 224 (1, [l0, some (.int x)], .int x :: st, M) Q := H_ld rfl rfl rfl rfl rfl
theorem x224_1 : XX X d 224 (1, L, st, M) Q = XX X d 224 (3, L, .int (ii 9) :: st, M) Q := G_cst rfl rfl rfl rfl rfl
theorem x224_3 (h : -2147483648 ≤ p ∧ p ≤ 2147483647 ∧ -2147483648 ≤ q ∧ q ≤ 2147483647) : XX X d 224 (3, L, .int (ii q) :: .int (ii p) :: st, M) Q = bq (p ≤ q) X d 224 17 6 L st M Q := H_if2 rfl ⟨rfl, rfl, rfl, by decide⟩ rfl rfl rfl rfl (D_ge h)
theorem x224_6 : XX X d 224 (6, [some (.ref a), l1], st, M) Q = XX X d 224 (7, [some (.ref a), l1], .ref a :: st, M) Q := H_ld rfl rfl rfl rfl rfl
theorem x224_7 : XX X d 224 (7, L, st, M) Q = XX X d 224 (9, L, .int (ii 48) :: st, M) Q := G_cst rfl rfl rfl rfl rfl
theorem x224_9 : XX X d 224 (9, [l0, some (.int x)], st, M) Q = XX X d 224 (10, [l0, some (.int x)], .int x :: st, M) Q := H_ld rfl rfl rfl rfl rfl
theorem x224_10 : XX X d 224 (10, L, st, M) Q = XX X d 224 (12, L, .int (ii 10) :: st, M) Q := G_cst rfl rfl rfl rfl rfl
theorem x224_12 (h : 0 ≤ p ∧ p ≤ 2147483647 ∧ 0 < q ∧ q ≤ 2147483647) : XX X d 224 (12, L, .int (ii q) :: .int (ii p) :: st, M) Q = XX X d 224 (13, L, .int (ii (p / q)) :: st, M) Q := H_div rfl (by decide) rfl h
theorem x224_13 : XX X d 224 (13, L, .int (ii q) :: .int (ii p) :: st, M) Q = XX X d 224 (14, L, .int (ii (p + q)) :: st, M) Q := H_add rfl (by decide) rfl
theorem x224_14 {v1 : Value} (hd : 0 < d) (hs : stB st = true) : XX X d 224 (14, L, v1 :: .ref a :: st, M) Q = (mcl M a = some 9 ∧ CC X (d - 1) 223 [.ref a, v1] M (XC X d 224 14 17 L st Q)) := H_virt [v1] rfl (by decide) rfl rfl rfl rfl rfl hd hs
theorem x224_17 : XX X d 224 (17, [some (.ref a), l1], st, M) Q = XX X d 224 (18, [some (.ref a), l1], .ref a :: st, M) Q := H_ld rfl rfl rfl rfl rfl
theorem x224_18 : XX X d 224 (18, L, st, M) Q = XX X d 224 (20, L, .int (ii 48) :: st, M) Q := G_cst rfl rfl rfl rfl rfl
theorem x224_20 : XX X d 224 (20, [l0, some (.int x)], st, M) Q = XX X d 224 (21, [l0, some (.int x)], .int x :: st, M) Q := H_ld rfl rfl rfl rfl rfl
theorem x224_21 : XX X d 224 (21, L, st, M) Q = XX X d 224 (23, L, .int (ii 10) :: st, M) Q := G_cst rfl rfl rfl rfl rfl
theorem x224_23 (h : 0 ≤ p ∧ p ≤ 2147483647 ∧ 0 < q ∧ q ≤ 2147483647) : XX X d 224 (23, L, .int (ii q) :: .int (ii p) :: st, M) Q = XX X d 224 (24, L, .int (ii (p % q)) :: st, M) Q := H_rem rfl (by decide) rfl h
theorem x224_24 : XX X d 224 (24, L, .int (ii q) :: .int (ii p) :: st, M) Q = XX X d 224 (25, L, .int (ii (p + q)) :: st, M) Q := H_add rfl (by decide) rfl
theorem x224_25 {v1 : Value} (hd : 0 < d) (hs : stB st = true) : XX X d 224 (25, L, v1 :: .ref a :: st, M) Q = (mcl M a = some 9 ∧ CC X (d - 1) 223 [.ref a, v1] M (XC X d 224 25 28 L st Q)) := H_virt [v1] rfl (by decide) rfl rfl rfl rfl rfl hd hs
theorem x224_28 : XX X d 224 (28, L, [], M) Q = Q (.inl none) M := G_retv rfl (by decide) rfl
theorem e224 : CC X d 224 [.ref a, .int x] M Q = XX X d 224 (0, [some (.ref a), some (.int x)], [], M) Q := H_ent rfl rfl
-- 225 X9_writesSpan (II)V
theorem x225_0 : XX X d 225 (0, [some (.ref a), l1, l2], st, M) Q = XX X d 225 (1, [some (.ref a), l1, l2], .ref a :: st, M) Q := H_ld rfl rfl rfl rfl rfl
theorem x225_1 : XX X d 225 (1, [l0, some (.int x), l2], st, M) Q = XX X d 225 (2, [l0, some (.int x), l2], .int x :: st, M) Q := H_ld rfl rfl rfl rfl rfl
theorem x225_2 {v1 : Value} (hd : 0 < d) (hs : stB st = true) : XX X d 225 (2, L, v1 :: .ref a :: st, M) Q = (mcl M a = some 9 ∧ CC X (d - 1) 224 [.ref a, v1] M (XC X d 225 2 5 L st Q)) := H_virt [v1] rfl (by decide) rfl rfl rfl rfl rfl hd hs
theorem x225_5 : XX X d 225 (5, [some (.ref a), l1, l2], st, M) Q = XX X d 225 (6, [some (.ref a), l1, l2], .ref a :: st, M) Q := H_ld rfl rfl rfl rfl rfl
theorem x225_6 : XX X d 225 (6, L, st, M) Q = XX X d 225 (8, L, .int (ii 45) :: st, M) Q := G_cst rfl rfl rfl rfl rfl
theorem x225_8 {v1 : Value} (hd : 0 < d) (hs : stB st = true) : XX X d 225 (8, L, v1 :: .ref a :: st, M) Q = (mcl M a = some 9 ∧ CC X (d - 1) 223 [.ref a, v1] M (XC X d 225 8 11 L st Q)) := H_virt [v1] rfl (by decide) rfl rfl rfl rfl rfl hd hs
theorem x225_11 : XX X d 225 (11, [some (.ref a), l1, l2], st, M) Q = XX X d 225 (12, [some (.ref a), l1, l2], .ref a :: st, M) Q := H_ld rfl rfl rfl rfl rfl
theorem x225_12 : XX X d 225 (12, [l0, l1, some (.int x)], st, M) Q = XX X d 225 (13, [l0, l1, some (.int x)], .int x :: st, M) Q := H_ld rfl rfl rfl rfl rfl
theorem x225_13 {v1 : Value} (hd : 0 < d) (hs : stB st = true) : XX X d 225 (13, L, v1 :: .ref a :: st, M) Q = (mcl M a = some 9 ∧ CC X (d - 1) 224 [.ref a, v1] M (XC X d 225 13 16 L st Q)) := H_virt [v1] rfl (by decide) rfl rfl rfl rfl rfl hd hs
theorem x225_16 : XX X d 225 (16, L, [], M) Q = Q (.inl none) M := G_retv rfl (by decide) rfl
theorem e225 : CC X d 225 [.ref a, .int x, .int x2] M Q = XX X d 225 (0, [some (.ref a), some (.int x), some (.int x2)], [], M) Q := H_ent rfl rfl
-- 226 X9_writeMatch (II)I
theorem x226_0 : XX X d 226 (0, [some (.ref a), l1, l2, l3, l4], st, M) Q = XX X d 226 (1, [some (.ref a), l1, l2, l3, l4], .ref a :: st, M) Q := H_ld rfl rfl rfl rfl rfl
theorem x226_1 : XX X d 226 (1, [l0, some (.int x), l2, l3, l4], st, M) Q = XX X d 226 (2, [l0, some (.int x), l2, l3, l4], .int x :: st, M) Q := H_ld rfl rfl rfl rfl rfl
theorem x226_2 : XX X d 226 (2, [l0, l1, some (.int x), l3, l4], st, M) Q = XX X d 226 (3, [l0, l1, some (.int x), l3, l4], .int x :: st, M) Q := H_ld rfl rfl rfl rfl rfl
theorem x226_3 {v1 v2 : Value} (hd : 0 < d) (hs : stB st = true) : XX X d 226 (3, L, v2 :: v1 :: .ref a :: st, M) Q = (mcl M a = some 9 ∧ CC X (d - 1) 202 [.ref a, v1, v2] M (XC X d 226 3 6 L st Q)) := H_virt [v1, v2] rfl (by decide) rfl rfl rfl rfl rfl hd hs
theorem x226_6 (h : wide (some l2) = false) : XX X d 226 (6, [l0, l1, l2, l3, l4], .int x :: st, M) Q = XX X d 226 (7, [l0, l1, l2, some (.int x), l4], st, M) Q := H_st rfl rfl rfl rfl rfl rfl rfl rfl (Or.inr h)
theorem x226_7 : XX X d 226 (7, [some (.ref a), l1, l2, l3, l4], st, M) Q = XX X d 226 (8, [some (.ref a), l1, l2, l3, l4], .ref a :: st, M) Q := H_ld rfl rfl rfl rfl rfl
theorem x226_8 : XX X d 226 (8, L, .ref a :: st, M) Q = yg (M.2.2 a) 9 5 X d 226 11 L st M Q := G_getf rfl (by decide) rfl rfl rfl
theorem x226_11 (h : -2147483648 ≤ p ∧ p ≤ 2147483647) : XX X d 226 (11, L, .int (ii p) :: st, M) Q = bq (p ≤ 0) X d 226 16 14 L st M Q := H_if rfl ⟨rfl, rfl, rfl, by decide⟩ rfl rfl rfl rfl (D_ge (b := 0) (by omega))
theorem x226_14 : XX X d 226 (14, L, st, M) Q = XX X d 226 (15, L, .int (ii 0) :: st, M) Q := G_cst rfl rfl rfl rfl rfl
theorem x226_15 : XX X d 226 (15, L, [.int (ii p)], M) Q = Q (.inl (some (.int (ii p)))) M := G_ret rfl ⟨⟨⟨rfl, rfl, rfl, by decide⟩, rfl, rfl⟩, rfl, rfl⟩ rfl
theorem x226_16 : XX X d 226 (16, [some (.ref a), l1, l2, l3, l4], st, M) Q = XX X d 226 (17, [some (.ref a), l1, l2, l3, l4], .ref a :: st, M) Q := H_ld rfl rfl rfl rfl rfl
theorem x226_17 : XX X d 226 (17, L, st, M) Q = XX X d 226 (18, L, .int (ii 0) :: st, M) Q := G_cst rfl rfl rfl rfl rfl
theorem x226_18 : XX X d 226 (18, L, v :: .ref a :: st, M) Q = yp (M.2.2 a) a 9 14 v X d 226 21 L st M Q := G_putf rfl (by decide) rfl rfl rfl
theorem x226_21 : XX X d 226 (21, [some (.ref a), l1, l2, l3, l4], st, M) Q = XX X d 226 (22, [some (.ref a), l1, l2, l3, l4], .ref a :: st, M) Q := H_ld rfl rfl rfl rfl rfl
theorem x226_22 : XX X d 226 (22, [l0, l1, l2, some (.int x), l4], st, M) Q = XX X d 226 (23, [l0, l1, l2, some (.int x), l4], .int x :: st, M) Q := H_ld rfl rfl rfl rfl rfl
theorem x226_23 : XX X d 226 (23, [some (.ref a), l1, l2, l3, l4], st, M) Q = XX X d 226 (24, [some (.ref a), l1, l2, l3, l4], .ref a :: st, M) Q := H_ld rfl rfl rfl rfl rfl
theorem x226_24 : XX X d 226 (24, L, .ref a :: st, M) Q = yg (M.2.2 a) 9 35 X d 226 27 L st M Q := G_getf rfl (by decide) rfl rfl rfl
theorem x226_27 {v1 v2 : Value} (hd : 0 < d) (hs : stB st = true) : XX X d 226 (27, L, v2 :: v1 :: .ref a :: st, M) Q = (mcl M a = some 9 ∧ CC X (d - 1) 225 [.ref a, v1, v2] M (XC X d 226 27 30 L st Q)) := H_virt [v1, v2] rfl (by decide) rfl rfl rfl rfl rfl hd hs
theorem x226_30 : XX X d 226 (30, L, st, M) Q = XX X d 226 (31, L, .int (ii 1) :: st, M) Q := G_cst rfl rfl rfl rfl rfl
theorem x226_31 (h : wide (some l3) = false) : XX X d 226 (31, [l0, l1, l2, l3, l4], .int x :: st, M) Q = XX X d 226 (33, [l0, l1, l2, l3, some (.int x)], st, M) Q := H_st rfl rfl rfl rfl rfl rfl rfl rfl (Or.inr h)
theorem x226_33 : XX X d 226 (33, [l0, l1, l2, l3, some (.int x)], st, M) Q = XX X d 226 (35, [l0, l1, l2, l3, some (.int x)], .int x :: st, M) Q := H_ld rfl rfl rfl rfl rfl
theorem x226_35 : XX X d 226 (35, [some (.ref a), l1, l2, l3, l4], st, M) Q = XX X d 226 (36, [some (.ref a), l1, l2, l3, l4], .ref a :: st, M) Q := H_ld rfl rfl rfl rfl rfl
theorem x226_36 : XX X d 226 (36, L, .ref a :: st, M) Q = yg (M.2.2 a) 9 25 X d 226 39 L st M Q := G_getf rfl (by decide) rfl rfl rfl
theorem x226_39 (h : -2147483648 ≤ p ∧ p ≤ 2147483647 ∧ -2147483648 ≤ q ∧ q ≤ 2147483647) : XX X d 226 (39, L, .int (ii q) :: .int (ii p) :: st, M) Q = bq (q < p) X d 226 106 42 L st M Q := H_if2 rfl ⟨rfl, rfl, rfl, by decide⟩ rfl rfl rfl rfl (D_gt h)
theorem x226_42 : XX X d 226 (42, [some (.ref a), l1, l2, l3, l4], st, M) Q = XX X d 226 (43, [some (.ref a), l1, l2, l3, l4], .ref a :: st, M) Q := H_ld rfl rfl rfl rfl rfl
theorem x226_43 : XX X d 226 (43, L, st, M) Q = XX X d 226 (45, L, .int (ii 59) :: st, M) Q := G_cst rfl rfl rfl rfl rfl
theorem x226_45 {v1 : Value} (hd : 0 < d) (hs : stB st = true) : XX X d 226 (45, L, v1 :: .ref a :: st, M) Q = (mcl M a = some 9 ∧ CC X (d - 1) 223 [.ref a, v1] M (XC X d 226 45 48 L st Q)) := H_virt [v1] rfl (by decide) rfl rfl rfl rfl rfl hd hs
theorem x226_48 : XX X d 226 (48, [some (.ref a), l1, l2, l3, l4], st, M) Q = XX X d 226 (49, [some (.ref a), l1, l2, l3, l4], .ref a :: st, M) Q := H_ld rfl rfl rfl rfl rfl
theorem x226_49 : XX X d 226 (49, [l0, l1, l2, l3, some (.int x)], st, M) Q = XX X d 226 (51, [l0, l1, l2, l3, some (.int x)], .int x :: st, M) Q := H_ld rfl rfl rfl rfl rfl
theorem x226_51 {v1 : Value} (hd : 0 < d) (hs : stB st = true) : XX X d 226 (51, L, v1 :: .ref a :: st, M) Q = (mcl M a = some 9 ∧ CC X (d - 1) 224 [.ref a, v1] M (XC X d 226 51 54 L st Q)) := H_virt [v1] rfl (by decide) rfl rfl rfl rfl rfl hd hs
theorem x226_54 : XX X d 226 (54, [some (.ref a), l1, l2, l3, l4], st, M) Q = XX X d 226 (55, [some (.ref a), l1, l2, l3, l4], .ref a :: st, M) Q := H_ld rfl rfl rfl rfl rfl
theorem x226_55 : XX X d 226 (55, L, st, M) Q = XX X d 226 (57, L, .int (ii 58) :: st, M) Q := G_cst rfl rfl rfl rfl rfl
theorem x226_57 {v1 : Value} (hd : 0 < d) (hs : stB st = true) : XX X d 226 (57, L, v1 :: .ref a :: st, M) Q = (mcl M a = some 9 ∧ CC X (d - 1) 223 [.ref a, v1] M (XC X d 226 57 60 L st Q)) := H_virt [v1] rfl (by decide) rfl rfl rfl rfl rfl hd hs
theorem x226_60 : XX X d 226 (60, [some (.ref a), l1, l2, l3, l4], st, M) Q = XX X d 226 (61, [some (.ref a), l1, l2, l3, l4], .ref a :: st, M) Q := H_ld rfl rfl rfl rfl rfl
theorem x226_61 : XX X d 226 (61, L, .ref a :: st, M) Q = yg (M.2.2 a) 9 31 X d 226 64 L st M Q := G_getf rfl (by decide) rfl rfl rfl
theorem x226_64 : XX X d 226 (64, L, st, M) Q = XX X d 226 (65, L, .int (ii 2) :: st, M) Q := G_cst rfl rfl rfl rfl rfl
theorem x226_65 : XX X d 226 (65, [l0, l1, l2, l3, some (.int x)], st, M) Q = XX X d 226 (67, [l0, l1, l2, l3, some (.int x)], .int x :: st, M) Q := H_ld rfl rfl rfl rfl rfl
theorem x226_67 : XX X d 226 (67, L, .int (ii q) :: .int (ii p) :: st, M) Q = XX X d 226 (68, L, .int (ii (p * q)) :: st, M) Q := H_mul rfl (by decide) rfl
theorem x226_68 : XX X d 226 (68, L, st, M) Q = XX X d 226 (69, L, .int (ii 1) :: st, M) Q := G_cst rfl rfl rfl rfl rfl
theorem x226_69 : XX X d 226 (69, L, .int (ii q) :: .int (ii p) :: st, M) Q = XX X d 226 (70, L, .int (ii (p - q)) :: st, M) Q := H_sub rfl (by decide) rfl
theorem x226_70 : XX X d 226 (70, L, .int x :: .ref a :: st, M) Q = ya (M.2.2 a) .iaload x X d 226 71 L st M Q := G_ald rfl ⟨⟨rfl, rfl, rfl, by decide⟩, rfl, rfl⟩ rfl rfl
theorem x226_71 (h : -2147483648 ≤ p ∧ p ≤ 2147483647) : XX X d 226 (71, L, .int (ii p) :: st, M) Q = bq (p < 0) X d 226 100 74 L st M Q := H_if rfl ⟨rfl, rfl, rfl, by decide⟩ rfl rfl rfl rfl (D_lt (b := 0) (by omega))
theorem x226_74 : XX X d 226 (74, [some (.ref a), l1, l2, l3, l4], st, M) Q = XX X d 226 (75, [some (.ref a), l1, l2, l3, l4], .ref a :: st, M) Q := H_ld rfl rfl rfl rfl rfl
theorem x226_75 : XX X d 226 (75, [some (.ref a), l1, l2, l3, l4], st, M) Q = XX X d 226 (76, [some (.ref a), l1, l2, l3, l4], .ref a :: st, M) Q := H_ld rfl rfl rfl rfl rfl
theorem x226_76 : XX X d 226 (76, L, .ref a :: st, M) Q = yg (M.2.2 a) 9 31 X d 226 79 L st M Q := G_getf rfl (by decide) rfl rfl rfl
theorem x226_79 : XX X d 226 (79, L, st, M) Q = XX X d 226 (80, L, .int (ii 2) :: st, M) Q := G_cst rfl rfl rfl rfl rfl
theorem x226_80 : XX X d 226 (80, [l0, l1, l2, l3, some (.int x)], st, M) Q = XX X d 226 (82, [l0, l1, l2, l3, some (.int x)], .int x :: st, M) Q := H_ld rfl rfl rfl rfl rfl
theorem x226_82 : XX X d 226 (82, L, .int (ii q) :: .int (ii p) :: st, M) Q = XX X d 226 (83, L, .int (ii (p * q)) :: st, M) Q := H_mul rfl (by decide) rfl
theorem x226_83 : XX X d 226 (83, L, st, M) Q = XX X d 226 (84, L, .int (ii 2) :: st, M) Q := G_cst rfl rfl rfl rfl rfl
theorem x226_84 : XX X d 226 (84, L, .int (ii q) :: .int (ii p) :: st, M) Q = XX X d 226 (85, L, .int (ii (p - q)) :: st, M) Q := H_sub rfl (by decide) rfl
theorem x226_85 : XX X d 226 (85, L, .int x :: .ref a :: st, M) Q = ya (M.2.2 a) .iaload x X d 226 86 L st M Q := G_ald rfl ⟨⟨rfl, rfl, rfl, by decide⟩, rfl, rfl⟩ rfl rfl
theorem x226_86 : XX X d 226 (86, [some (.ref a), l1, l2, l3, l4], st, M) Q = XX X d 226 (87, [some (.ref a), l1, l2, l3, l4], .ref a :: st, M) Q := H_ld rfl rfl rfl rfl rfl
theorem x226_87 : XX X d 226 (87, L, .ref a :: st, M) Q = yg (M.2.2 a) 9 31 X d 226 90 L st M Q := G_getf rfl (by decide) rfl rfl rfl
theorem x226_90 : XX X d 226 (90, L, st, M) Q = XX X d 226 (91, L, .int (ii 2) :: st, M) Q := G_cst rfl rfl rfl rfl rfl
theorem x226_91 : XX X d 226 (91, [l0, l1, l2, l3, some (.int x)], st, M) Q = XX X d 226 (93, [l0, l1, l2, l3, some (.int x)], .int x :: st, M) Q := H_ld rfl rfl rfl rfl rfl
theorem x226_93 : XX X d 226 (93, L, .int (ii q) :: .int (ii p) :: st, M) Q = XX X d 226 (94, L, .int (ii (p * q)) :: st, M) Q := H_mul rfl (by decide) rfl
theorem x226_94 : XX X d 226 (94, L, st, M) Q = XX X d 226 (95, L, .int (ii 1) :: st, M) Q := G_cst rfl rfl rfl rfl rfl
theorem x226_95 : XX X d 226 (95, L, .int (ii q) :: .int (ii p) :: st, M) Q = XX X d 226 (96, L, .int (ii (p - q)) :: st, M) Q := H_sub rfl (by decide) rfl
theorem x226_96 : XX X d 226 (96, L, .int x :: .ref a :: st, M) Q = ya (M.2.2 a) .iaload x X d 226 97 L st M Q := G_ald rfl ⟨⟨rfl, rfl, rfl, by decide⟩, rfl, rfl⟩ rfl rfl
theorem x226_97 {v1 v2 : Value} (hd : 0 < d) (hs : stB st = true) : XX X d 226 (97, L, v2 :: v1 :: .ref a :: st, M) Q = (mcl M a = some 9 ∧ CC X (d - 1) 225 [.ref a, v1, v2] M (XC X d 226 97 100 L st Q)) := H_virt [v1, v2] rfl (by decide) rfl rfl rfl rfl rfl hd hs
theorem x226_100 (h : wide (some l3) = false) : XX X d 226 (100, [l0, l1, l2, l3, some (.int (ii p))], st, M) Q = XX X d 226 (103, [l0, l1, l2, l3, some (.int (ii (p + 1)))], st, M) Q := H_inc rfl (by decide) rfl rfl rfl (Or.inr h)
theorem x226_103 : XX X d 226 (103, L, st, M) Q = XX X d 226 (33, L, st, M) Q := H_jmp rfl (by decide) rfl
theorem x226_106 : XX X d 226 (106, [some (.ref a), l1, l2, l3, l4], st, M) Q = XX X d 226 (107, [some (.ref a), l1, l2, l3, l4], .ref a :: st, M) Q := H_ld rfl rfl rfl rfl rfl
theorem x226_107 : XX X d 226 (107, L, .ref a :: st, M) Q = yg (M.2.2 a) 9 14 X d 226 110 L st M Q := G_getf rfl (by decide) rfl rfl rfl
theorem x226_110 : XX X d 226 (110, L, [.int (ii p)], M) Q = Q (.inl (some (.int (ii p)))) M := G_ret rfl ⟨⟨⟨rfl, rfl, rfl, by decide⟩, rfl, rfl⟩, rfl, rfl⟩ rfl
theorem e226 : CC X d 226 [.ref a, .int x, .int x2] M Q = XX X d 226 (0, [some (.ref a), some (.int x), some (.int x2), none, none], [], M) Q := H_ent rfl rfl
-- 227 X9_writeMarked (I)I
theorem x227_0 : XX X d 227 (0, [some (.ref a), l1, l2, l3, l4], st, M) Q = XX X d 227 (1, [some (.ref a), l1, l2, l3, l4], .ref a :: st, M) Q := H_ld rfl rfl rfl rfl rfl
theorem x227_1 : XX X d 227 (1, [l0, some (.int x), l2, l3, l4], st, M) Q = XX X d 227 (2, [l0, some (.int x), l2, l3, l4], .int x :: st, M) Q := H_ld rfl rfl rfl rfl rfl
theorem x227_2 {v1 : Value} (hd : 0 < d) (hs : stB st = true) : XX X d 227 (2, L, v1 :: .ref a :: st, M) Q = (mcl M a = some 9 ∧ CC X (d - 1) 173 [.ref a, v1] M (XC X d 227 2 5 L st Q)) := H_virt [v1] rfl (by decide) rfl rfl rfl rfl rfl hd hs
theorem x227_5 (h : -2147483648 ≤ p ∧ p ≤ 2147483647) : XX X d 227 (5, L, .int (ii p) :: st, M) Q = bq (p = 0) X d 227 10 8 L st M Q := H_if rfl ⟨rfl, rfl, rfl, by decide⟩ rfl rfl rfl rfl (D_eq (b := 0) (by omega))
theorem x227_5b : XX X d 227 (5, L, .int (ii (b2i b)) :: st, M) Q = bq (b = false) X d 227 10 8 L st M Q := (x227_5 (b2i_r b)).trans (by rw [b2i_0])
theorem x227_8 : XX X d 227 (8, L, st, M) Q = XX X d 227 (9, L, .int (ii 0) :: st, M) Q := G_cst rfl rfl rfl rfl rfl
theorem x227_9 : XX X d 227 (9, L, [.int (ii p)], M) Q = Q (.inl (some (.int (ii p)))) M := G_ret rfl ⟨⟨⟨rfl, rfl, rfl, by decide⟩, rfl, rfl⟩, rfl, rfl⟩ rfl
theorem x227_10 : XX X d 227 (10, [some (.ref a), l1, l2, l3, l4], st, M) Q = XX X d 227 (11, [some (.ref a), l1, l2, l3, l4], .ref a :: st, M) Q := H_ld rfl rfl rfl rfl rfl
theorem x227_11 : XX X d 227 (11, [l0, some (.int x), l2, l3, l4], st, M) Q = XX X d 227 (12, [l0, some (.int x), l2, l3, l4], .int x :: st, M) Q := H_ld rfl rfl rfl rfl rfl
theorem x227_12 {v1 : Value} (hd : 0 < d) (hs : stB st = true) : XX X d 227 (12, L, v1 :: .ref a :: st, M) Q = (mcl M a = some 9 ∧ CC X (d - 1) 193 [.ref a, v1] M (XC X d 227 12 15 L st Q)) := H_virt [v1] rfl (by decide) rfl rfl rfl rfl rfl hd hs
theorem x227_15 : XX X d 227 (15, [some (.ref a), l1, l2, l3, l4], st, M) Q = XX X d 227 (16, [some (.ref a), l1, l2, l3, l4], .ref a :: st, M) Q := H_ld rfl rfl rfl rfl rfl
theorem x227_16 : XX X d 227 (16, L, st, M) Q = XX X d 227 (17, L, .int (ii 0) :: st, M) Q := G_cst rfl rfl rfl rfl rfl
theorem x227_17 : XX X d 227 (17, L, v :: .ref a :: st, M) Q = yp (M.2.2 a) a 9 14 v X d 227 20 L st M Q := G_putf rfl (by decide) rfl rfl rfl
theorem x227_20 : XX X d 227 (20, L, st, M) Q = XX X d 227 (21, L, .int (ii 0) :: st, M) Q := G_cst rfl rfl rfl rfl rfl
theorem x227_21 (h : wide (some l1) = false) : XX X d 227 (21, [l0, l1, l2, l3, l4], .int x :: st, M) Q = XX X d 227 (22, [l0, l1, some (.int x), l3, l4], st, M) Q := H_st rfl rfl rfl rfl rfl rfl rfl rfl (Or.inr h)
theorem x227_22 : XX X d 227 (22, L, st, M) Q = XX X d 227 (23, L, .int (ii 0) :: st, M) Q := G_cst rfl rfl rfl rfl rfl
theorem x227_23 (h : wide (some l2) = false) : XX X d 227 (23, [l0, l1, l2, l3, l4], .int x :: st, M) Q = XX X d 227 (24, [l0, l1, l2, some (.int x), l4], st, M) Q := H_st rfl rfl rfl rfl rfl rfl rfl rfl (Or.inr h)
theorem x227_24 : XX X d 227 (24, L, st, M) Q = XX X d 227 (25, L, .int (ii 0) :: st, M) Q := G_cst rfl rfl rfl rfl rfl
theorem x227_25 (h : wide (some l3) = false) : XX X d 227 (25, [l0, l1, l2, l3, l4], .int x :: st, M) Q = XX X d 227 (27, [l0, l1, l2, l3, some (.int x)], st, M) Q := H_st rfl rfl rfl rfl rfl rfl rfl rfl (Or.inr h)
theorem x227_27 : XX X d 227 (27, [l0, l1, l2, l3, some (.int x)], st, M) Q = XX X d 227 (29, [l0, l1, l2, l3, some (.int x)], .int x :: st, M) Q := H_ld rfl rfl rfl rfl rfl
theorem x227_29 : XX X d 227 (29, [some (.ref a), l1, l2, l3, l4], st, M) Q = XX X d 227 (30, [some (.ref a), l1, l2, l3, l4], .ref a :: st, M) Q := H_ld rfl rfl rfl rfl rfl
theorem x227_30 : XX X d 227 (30, L, .ref a :: st, M) Q = yg (M.2.2 a) 9 0 X d 227 33 L st M Q := G_getf rfl (by decide) rfl rfl rfl
theorem x227_33 : XX X d 227 (33, L, st, M) Q = XX X d 227 (35, L, .int (ii 125) :: st, M) Q := G_cst rfl rfl rfl rfl rfl
theorem x227_35 : XX X d 227 (35, L, .int x :: .ref a :: st, M) Q = ya (M.2.2 a) .iaload x X d 227 36 L st M Q := G_ald rfl ⟨⟨rfl, rfl, rfl, by decide⟩, rfl, rfl⟩ rfl rfl
theorem x227_36 (h : -2147483648 ≤ p ∧ p ≤ 2147483647 ∧ -2147483648 ≤ q ∧ q ≤ 2147483647) : XX X d 227 (36, L, .int (ii q) :: .int (ii p) :: st, M) Q = bq (q < p) X d 227 152 39 L st M Q := H_if2 rfl ⟨rfl, rfl, rfl, by decide⟩ rfl rfl rfl rfl (D_gt h)
theorem x227_39 : XX X d 227 (39, [l0, l1, l2, some (.int x), l4], st, M) Q = XX X d 227 (40, [l0, l1, l2, some (.int x), l4], .int x :: st, M) Q := H_ld rfl rfl rfl rfl rfl
theorem x227_40 (h : -2147483648 ≤ p ∧ p ≤ 2147483647) : XX X d 227 (40, L, .int (ii p) :: st, M) Q = bq (p = 0) X d 227 65 43 L st M Q := H_if rfl ⟨rfl, rfl, rfl, by decide⟩ rfl rfl rfl rfl (D_eq (b := 0) (by omega))
theorem x227_40b : XX X d 227 (40, L, .int (ii (b2i b)) :: st, M) Q = bq (b = false) X d 227 65 43 L st M Q := (x227_40 (b2i_r b)).trans (by rw [b2i_0])
theorem x227_43 : XX X d 227 (43, [some (.ref a), l1, l2, l3, l4], st, M) Q = XX X d 227 (44, [some (.ref a), l1, l2, l3, l4], .ref a :: st, M) Q := H_ld rfl rfl rfl rfl rfl
theorem x227_44 : XX X d 227 (44, L, .ref a :: st, M) Q = yg (M.2.2 a) 9 37 X d 227 47 L st M Q := G_getf rfl (by decide) rfl rfl rfl
theorem x227_47 : XX X d 227 (47, [l0, l1, some (.int x), l3, l4], st, M) Q = XX X d 227 (48, [l0, l1, some (.int x), l3, l4], .int x :: st, M) Q := H_ld rfl rfl rfl rfl rfl
theorem x227_48 : XX X d 227 (48, L, .int x :: .ref a :: st, M) Q = ya (M.2.2 a) .iaload x X d 227 49 L st M Q := G_ald rfl ⟨⟨rfl, rfl, rfl, by decide⟩, rfl, rfl⟩ rfl rfl
theorem x227_49 : XX X d 227 (49, [l0, l1, l2, l3, some (.int x)], st, M) Q = XX X d 227 (51, [l0, l1, l2, l3, some (.int x)], .int x :: st, M) Q := H_ld rfl rfl rfl rfl rfl
theorem x227_51 (h : -2147483648 ≤ p ∧ p ≤ 2147483647 ∧ -2147483648 ≤ q ∧ q ≤ 2147483647) : XX X d 227 (51, L, .int (ii q) :: .int (ii p) :: st, M) Q = bq (p ≠ q) X d 227 65 54 L st M Q := H_if2 rfl ⟨rfl, rfl, rfl, by decide⟩ rfl rfl rfl rfl (D_ne h)
theorem x227_54 : XX X d 227 (54, [some (.ref a), l1, l2, l3, l4], st, M) Q = XX X d 227 (55, [some (.ref a), l1, l2, l3, l4], .ref a :: st, M) Q := H_ld rfl rfl rfl rfl rfl
theorem x227_55 : XX X d 227 (55, L, st, M) Q = XX X d 227 (57, L, .int (ii 62) :: st, M) Q := G_cst rfl rfl rfl rfl rfl
theorem x227_57 {v1 : Value} (hd : 0 < d) (hs : stB st = true) : XX X d 227 (57, L, v1 :: .ref a :: st, M) Q = (mcl M a = some 9 ∧ CC X (d - 1) 223 [.ref a, v1] M (XC X d 227 57 60 L st Q)) := H_virt [v1] rfl (by decide) rfl rfl rfl rfl rfl hd hs
theorem x227_60 : XX X d 227 (60, L, st, M) Q = XX X d 227 (61, L, .int (ii 0) :: st, M) Q := G_cst rfl rfl rfl rfl rfl
theorem x227_61 (h : wide (some l2) = false) : XX X d 227 (61, [l0, l1, l2, l3, l4], .int x :: st, M) Q = XX X d 227 (62, [l0, l1, l2, some (.int x), l4], st, M) Q := H_st rfl rfl rfl rfl rfl rfl rfl rfl (Or.inr h)
theorem x227_62 (h : wide (some l1) = false) : XX X d 227 (62, [l0, l1, some (.int (ii p)), l3, l4], st, M) Q = XX X d 227 (65, [l0, l1, some (.int (ii (p + 1))), l3, l4], st, M) Q := H_inc rfl (by decide) rfl rfl rfl (Or.inr h)
theorem x227_65 : XX X d 227 (65, [l0, l1, some (.int x), l3, l4], st, M) Q = XX X d 227 (66, [l0, l1, some (.int x), l3, l4], .int x :: st, M) Q := H_ld rfl rfl rfl rfl rfl
theorem x227_66 : XX X d 227 (66, [some (.ref a), l1, l2, l3, l4], st, M) Q = XX X d 227 (67, [some (.ref a), l1, l2, l3, l4], .ref a :: st, M) Q := H_ld rfl rfl rfl rfl rfl
theorem x227_67 : XX X d 227 (67, L, .ref a :: st, M) Q = yg (M.2.2 a) 9 38 X d 227 70 L st M Q := G_getf rfl (by decide) rfl rfl rfl
theorem x227_70 (h : -2147483648 ≤ p ∧ p ≤ 2147483647 ∧ -2147483648 ≤ q ∧ q ≤ 2147483647) : XX X d 227 (70, L, .int (ii q) :: .int (ii p) :: st, M) Q = bq (q ≤ p) X d 227 120 73 L st M Q := H_if2 rfl ⟨rfl, rfl, rfl, by decide⟩ rfl rfl rfl rfl (D_le h)
theorem x227_73 : XX X d 227 (73, [some (.ref a), l1, l2, l3, l4], st, M) Q = XX X d 227 (74, [some (.ref a), l1, l2, l3, l4], .ref a :: st, M) Q := H_ld rfl rfl rfl rfl rfl
theorem x227_74 : XX X d 227 (74, L, .ref a :: st, M) Q = yg (M.2.2 a) 9 36 X d 227 77 L st M Q := G_getf rfl (by decide) rfl rfl rfl
theorem x227_77 : XX X d 227 (77, [l0, l1, some (.int x), l3, l4], st, M) Q = XX X d 227 (78, [l0, l1, some (.int x), l3, l4], .int x :: st, M) Q := H_ld rfl rfl rfl rfl rfl
theorem x227_78 : XX X d 227 (78, L, .int x :: .ref a :: st, M) Q = ya (M.2.2 a) .iaload x X d 227 79 L st M Q := G_ald rfl ⟨⟨rfl, rfl, rfl, by decide⟩, rfl, rfl⟩ rfl rfl
theorem x227_79 : XX X d 227 (79, [l0, l1, l2, l3, some (.int x)], st, M) Q = XX X d 227 (81, [l0, l1, l2, l3, some (.int x)], .int x :: st, M) Q := H_ld rfl rfl rfl rfl rfl
theorem x227_81 (h : -2147483648 ≤ p ∧ p ≤ 2147483647 ∧ -2147483648 ≤ q ∧ q ≤ 2147483647) : XX X d 227 (81, L, .int (ii q) :: .int (ii p) :: st, M) Q = bq (p ≠ q) X d 227 120 84 L st M Q := H_if2 rfl ⟨rfl, rfl, rfl, by decide⟩ rfl rfl rfl rfl (D_ne h)
theorem x227_84 : XX X d 227 (84, [some (.ref a), l1, l2, l3, l4], st, M) Q = XX X d 227 (85, [some (.ref a), l1, l2, l3, l4], .ref a :: st, M) Q := H_ld rfl rfl rfl rfl rfl
theorem x227_85 : XX X d 227 (85, L, st, M) Q = XX X d 227 (87, L, .int (ii 60) :: st, M) Q := G_cst rfl rfl rfl rfl rfl
theorem x227_87 {v1 : Value} (hd : 0 < d) (hs : stB st = true) : XX X d 227 (87, L, v1 :: .ref a :: st, M) Q = (mcl M a = some 9 ∧ CC X (d - 1) 223 [.ref a, v1] M (XC X d 227 87 90 L st Q)) := H_virt [v1] rfl (by decide) rfl rfl rfl rfl rfl hd hs
theorem x227_90 : XX X d 227 (90, [some (.ref a), l1, l2, l3, l4], st, M) Q = XX X d 227 (91, [some (.ref a), l1, l2, l3, l4], .ref a :: st, M) Q := H_ld rfl rfl rfl rfl rfl
theorem x227_91 : XX X d 227 (91, L, .ref a :: st, M) Q = yg (M.2.2 a) 9 37 X d 227 94 L st M Q := G_getf rfl (by decide) rfl rfl rfl
theorem x227_94 : XX X d 227 (94, [l0, l1, some (.int x), l3, l4], st, M) Q = XX X d 227 (95, [l0, l1, some (.int x), l3, l4], .int x :: st, M) Q := H_ld rfl rfl rfl rfl rfl
theorem x227_95 : XX X d 227 (95, L, .int x :: .ref a :: st, M) Q = ya (M.2.2 a) .iaload x X d 227 96 L st M Q := G_ald rfl ⟨⟨rfl, rfl, rfl, by decide⟩, rfl, rfl⟩ rfl rfl
theorem x227_96 : XX X d 227 (96, [l0, l1, l2, l3, some (.int x)], st, M) Q = XX X d 227 (98, [l0, l1, l2, l3, some (.int x)], .int x :: st, M) Q := H_ld rfl rfl rfl rfl rfl
theorem x227_98 (h : -2147483648 ≤ p ∧ p ≤ 2147483647 ∧ -2147483648 ≤ q ∧ q ≤ 2147483647) : XX X d 227 (98, L, .int (ii q) :: .int (ii p) :: st, M) Q = bq (p ≤ q) X d 227 105 101 L st M Q := H_if2 rfl ⟨rfl, rfl, rfl, by decide⟩ rfl rfl rfl rfl (D_ge h)
theorem x227_101 : XX X d 227 (101, L, st, M) Q = XX X d 227 (102, L, .int (ii 1) :: st, M) Q := G_cst rfl rfl rfl rfl rfl
theorem x227_102 : XX X d 227 (102, L, st, M) Q = XX X d 227 (106, L, st, M) Q := H_jmp rfl (by decide) rfl
theorem x227_105 : XX X d 227 (105, L, st, M) Q = XX X d 227 (106, L, .int (ii 0) :: st, M) Q := G_cst rfl rfl rfl rfl rfl
theorem x227_106 (h : wide (some l2) = false) : XX X d 227 (106, [l0, l1, l2, l3, l4], .int x :: st, M) Q = XX X d 227 (107, [l0, l1, l2, some (.int x), l4], st, M) Q := H_st rfl rfl rfl rfl rfl rfl rfl rfl (Or.inr h)
theorem x227_107 : XX X d 227 (107, [l0, l1, l2, some (.int x), l4], st, M) Q = XX X d 227 (108, [l0, l1, l2, some (.int x), l4], .int x :: st, M) Q := H_ld rfl rfl rfl rfl rfl
theorem x227_108 (h : -2147483648 ≤ p ∧ p ≤ 2147483647) : XX X d 227 (108, L, .int (ii p) :: st, M) Q = bq (p ≠ 0) X d 227 120 111 L st M Q := H_if rfl ⟨rfl, rfl, rfl, by decide⟩ rfl rfl rfl rfl (D_ne (b := 0) (by omega))
theorem x227_108b : XX X d 227 (108, L, .int (ii (b2i b)) :: st, M) Q = bq (b = true) X d 227 120 111 L st M Q := (x227_108 (b2i_r b)).trans (by rw [b2i_n0])
theorem x227_111 : XX X d 227 (111, [some (.ref a), l1, l2, l3, l4], st, M) Q = XX X d 227 (112, [some (.ref a), l1, l2, l3, l4], .ref a :: st, M) Q := H_ld rfl rfl rfl rfl rfl
theorem x227_112 : XX X d 227 (112, L, st, M) Q = XX X d 227 (114, L, .int (ii 62) :: st, M) Q := G_cst rfl rfl rfl rfl rfl
theorem x227_114 {v1 : Value} (hd : 0 < d) (hs : stB st = true) : XX X d 227 (114, L, v1 :: .ref a :: st, M) Q = (mcl M a = some 9 ∧ CC X (d - 1) 223 [.ref a, v1] M (XC X d 227 114 117 L st Q)) := H_virt [v1] rfl (by decide) rfl rfl rfl rfl rfl hd hs
theorem x227_117 (h : wide (some l1) = false) : XX X d 227 (117, [l0, l1, some (.int (ii p)), l3, l4], st, M) Q = XX X d 227 (120, [l0, l1, some (.int (ii (p + 1))), l3, l4], st, M) Q := H_inc rfl (by decide) rfl rfl rfl (Or.inr h)
theorem x227_120 : XX X d 227 (120, [l0, l1, l2, l3, some (.int x)], st, M) Q = XX X d 227 (122, [l0, l1, l2, l3, some (.int x)], .int x :: st, M) Q := H_ld rfl rfl rfl rfl rfl
theorem x227_122 : XX X d 227 (122, [some (.ref a), l1, l2, l3, l4], st, M) Q = XX X d 227 (123, [some (.ref a), l1, l2, l3, l4], .ref a :: st, M) Q := H_ld rfl rfl rfl rfl rfl
theorem x227_123 : XX X d 227 (123, L, .ref a :: st, M) Q = yg (M.2.2 a) 9 0 X d 227 126 L st M Q := G_getf rfl (by decide) rfl rfl rfl
theorem x227_126 : XX X d 227 (126, L, st, M) Q = XX X d 227 (128, L, .int (ii 125) :: st, M) Q := G_cst rfl rfl rfl rfl rfl
theorem x227_128 : XX X d 227 (128, L, .int x :: .ref a :: st, M) Q = ya (M.2.2 a) .iaload x X d 227 129 L st M Q := G_ald rfl ⟨⟨rfl, rfl, rfl, by decide⟩, rfl, rfl⟩ rfl rfl
theorem x227_129 (h : -2147483648 ≤ p ∧ p ≤ 2147483647 ∧ -2147483648 ≤ q ∧ q ≤ 2147483647) : XX X d 227 (129, L, .int (ii q) :: .int (ii p) :: st, M) Q = bq (q ≤ p) X d 227 146 132 L st M Q := H_if2 rfl ⟨rfl, rfl, rfl, by decide⟩ rfl rfl rfl rfl (D_le h)
theorem x227_132 : XX X d 227 (132, [some (.ref a), l1, l2, l3, l4], st, M) Q = XX X d 227 (133, [some (.ref a), l1, l2, l3, l4], .ref a :: st, M) Q := H_ld rfl rfl rfl rfl rfl
theorem x227_133 : XX X d 227 (133, [some (.ref a), l1, l2, l3, l4], st, M) Q = XX X d 227 (134, [some (.ref a), l1, l2, l3, l4], .ref a :: st, M) Q := H_ld rfl rfl rfl rfl rfl
theorem x227_134 : XX X d 227 (134, L, .ref a :: st, M) Q = yg (M.2.2 a) 9 0 X d 227 137 L st M Q := G_getf rfl (by decide) rfl rfl rfl
theorem x227_137 : XX X d 227 (137, L, st, M) Q = XX X d 227 (139, L, .int (ii 126) :: st, M) Q := G_cst rfl rfl rfl rfl rfl
theorem x227_139 : XX X d 227 (139, [l0, l1, l2, l3, some (.int x)], st, M) Q = XX X d 227 (141, [l0, l1, l2, l3, some (.int x)], .int x :: st, M) Q := H_ld rfl rfl rfl rfl rfl
theorem x227_141 : XX X d 227 (141, L, .int (ii q) :: .int (ii p) :: st, M) Q = XX X d 227 (142, L, .int (ii (p + q)) :: st, M) Q := H_add rfl (by decide) rfl
theorem x227_142 : XX X d 227 (142, L, .int x :: .ref a :: st, M) Q = ya (M.2.2 a) .iaload x X d 227 143 L st M Q := G_ald rfl ⟨⟨rfl, rfl, rfl, by decide⟩, rfl, rfl⟩ rfl rfl
theorem x227_143 {v1 : Value} (hd : 0 < d) (hs : stB st = true) : XX X d 227 (143, L, v1 :: .ref a :: st, M) Q = (mcl M a = some 9 ∧ CC X (d - 1) 223 [.ref a, v1] M (XC X d 227 143 146 L st Q)) := H_virt [v1] rfl (by decide) rfl rfl rfl rfl rfl hd hs
theorem x227_146 (h : wide (some l3) = false) : XX X d 227 (146, [l0, l1, l2, l3, some (.int (ii p))], st, M) Q = XX X d 227 (149, [l0, l1, l2, l3, some (.int (ii (p + 1)))], st, M) Q := H_inc rfl (by decide) rfl rfl rfl (Or.inr h)
theorem x227_149 : XX X d 227 (149, L, st, M) Q = XX X d 227 (27, L, st, M) Q := H_jmp rfl (by decide) rfl
theorem x227_152 : XX X d 227 (152, [some (.ref a), l1, l2, l3, l4], st, M) Q = XX X d 227 (153, [some (.ref a), l1, l2, l3, l4], .ref a :: st, M) Q := H_ld rfl rfl rfl rfl rfl
theorem x227_153 : XX X d 227 (153, L, .ref a :: st, M) Q = yg (M.2.2 a) 9 14 X d 227 156 L st M Q := G_getf rfl (by decide) rfl rfl rfl
theorem x227_156 : XX X d 227 (156, L, [.int (ii p)], M) Q = Q (.inl (some (.int (ii p)))) M := G_ret rfl ⟨⟨⟨rfl, rfl, rfl, by decide⟩, rfl, rfl⟩, rfl, rfl⟩ rfl
theorem e227 : CC X d 227 [.ref a, .int x] M Q = XX X d 227 (0, [some (.ref a), some (.int x), none, none, none], [], M) Q := H_ent rfl rfl
-- 228 X9_lineCharacter (I)C
theorem x228_0 : XX X d 228 (0, [some (.ref a), l1], st, M) Q = XX X d 228 (1, [some (.ref a), l1], .ref a :: st, M) Q := H_ld rfl rfl rfl rfl rfl
theorem x228_1 : XX X d 228 (1, [l0, some (.int x)], st, M) Q = XX X d 228 (2, [l0, some (.int x)], .int x :: st, M) Q := H_ld rfl rfl rfl rfl rfl
theorem x228_2 : XX X d 228 (2, L, st, M) Q = XX X d 228 (3, L, .int (ii 0) :: st, M) Q := G_cst rfl rfl rfl rfl rfl
theorem x228_3 : XX X d 228 (3, [some (.ref a), l1], st, M) Q = XX X d 228 (4, [some (.ref a), l1], .ref a :: st, M) Q := H_ld rfl rfl rfl rfl rfl
theorem x228_4 : XX X d 228 (4, L, .ref a :: st, M) Q = yg (M.2.2 a) 9 14 X d 228 7 L st M Q := G_getf rfl (by decide) rfl rfl rfl
theorem x228_7 : XX X d 228 (7, L, st, M) Q = XX X d 228 (8, L, .int (ii 1) :: st, M) Q := G_cst rfl rfl rfl rfl rfl
theorem x228_8 : XX X d 228 (8, L, .int (ii q) :: .int (ii p) :: st, M) Q = XX X d 228 (9, L, .int (ii (p - q)) :: st, M) Q := H_sub rfl (by decide) rfl
theorem x228_9 {v1 v2 v3 : Value} (hd : 0 < d) (hs : stB st = true) : XX X d 228 (9, L, v3 :: v2 :: v1 :: st, M) Q = CC X (d - 1) 145 [v1, v2, v3] M (XC X d 228 9 12 L st Q) := H_static [v1, v2, v3] rfl (by decide) rfl rfl (by decide) rfl rfl hd hs
theorem x228_12 (h : -2147483648 ≤ p ∧ p ≤ 2147483647) : XX X d 228 (12, L, .int (ii p) :: st, M) Q = bq (p = 0) X d 228 19 15 L st M Q := H_if rfl ⟨rfl, rfl, rfl, by decide⟩ rfl rfl rfl rfl (D_eq (b := 0) (by omega))
theorem x228_12b : XX X d 228 (12, L, .int (ii (b2i b)) :: st, M) Q = bq (b = false) X d 228 19 15 L st M Q := (x228_12 (b2i_r b)).trans (by rw [b2i_0])
theorem x228_15 : XX X d 228 (15, L, st, M) Q = XX X d 228 (16, L, .int (ii 0) :: st, M) Q := G_cst rfl rfl rfl rfl rfl
theorem x228_16 : XX X d 228 (16, L, st, M) Q = XX X d 228 (20, L, st, M) Q := H_jmp rfl (by decide) rfl
theorem x228_19 : XX X d 228 (19, L, st, M) Q = XX X d 228 (20, L, .int (ii 1) :: st, M) Q := G_cst rfl rfl rfl rfl rfl
theorem x228_20 {v1 : Value} (hd : 0 < d) (hs : stB st = true) : XX X d 228 (20, L, v1 :: .ref a :: st, M) Q = (mcl M a = some 9 ∧ CC X (d - 1) 144 [.ref a, v1] M (XC X d 228 20 23 L st Q)) := H_virt [v1] rfl (by decide) rfl rfl rfl rfl rfl hd hs
theorem x228_23 (h : -2147483648 ≤ p ∧ p ≤ 2147483647) : XX X d 228 (23, L, .int (ii p) :: st, M) Q = bq (p = 0) X d 228 31 26 L st M Q := H_if rfl ⟨rfl, rfl, rfl, by decide⟩ rfl rfl rfl rfl (D_eq (b := 0) (by omega))
theorem x228_23b : XX X d 228 (23, L, .int (ii (b2i b)) :: st, M) Q = bq (b = false) X d 228 31 26 L st M Q := (x228_23 (b2i_r b)).trans (by rw [b2i_0])
theorem x228_26 : XX X d 228 (26, L, st, M) Q = XX X d 228 (28, L, .int (ii 32) :: st, M) Q := G_cst rfl rfl rfl rfl rfl
theorem x228_28 : XX X d 228 (28, L, st, M) Q = XX X d 228 (37, L, st, M) Q := H_jmp rfl (by decide) rfl
theorem x228_31 : XX X d 228 (31, [some (.ref a), l1], st, M) Q = XX X d 228 (32, [some (.ref a), l1], .ref a :: st, M) Q := H_ld rfl rfl rfl rfl rfl
theorem x228_32 : XX X d 228 (32, L, .ref a :: st, M) Q = yg (M.2.2 a) 9 13 X d 228 35 L st M Q := G_getf rfl (by decide) rfl rfl rfl
theorem x228_35 : XX X d 228 (35, [l0, some (.int x)], st, M) Q = XX X d 228 (36, [l0, some (.int x)], .int x :: st, M) Q := H_ld rfl rfl rfl rfl rfl
theorem x228_36 : XX X d 228 (36, L, .int x :: .ref a :: st, M) Q = ya (M.2.2 a) .caload x X d 228 37 L st M Q := G_ald rfl ⟨⟨rfl, rfl, rfl, by decide⟩, rfl, rfl⟩ rfl rfl
theorem x228_37 (h : 0 ≤ p ∧ p ≤ 65535) : XX X d 228 (37, L, [.int (ii p)], M) Q = Q (.inl (some (.int (ii p)))) M := G_ret rfl ⟨⟨⟨rfl, rfl, rfl, by decide⟩, rfl, rfl⟩, rfl, rfl⟩ (cz_ok h)
theorem e228 : CC X d 228 [.ref a, .int x] M Q = XX X d 228 (0, [some (.ref a), some (.int x)], [], M) Q := H_ent rfl rfl
-- 229 X9_undo ()I
theorem x229_0 : XX X d 229 (0, [some (.ref a)], st, M) Q = XX X d 229 (1, [some (.ref a)], .ref a :: st, M) Q := H_ld rfl rfl rfl rfl rfl
theorem x229_1 : XX X d 229 (1, [some (.ref a)], st, M) Q = XX X d 229 (2, [some (.ref a)], .ref a :: st, M) Q := H_ld rfl rfl rfl rfl rfl
theorem x229_2 : XX X d 229 (2, L, .ref a :: st, M) Q = yg (M.2.2 a) 9 4 X d 229 5 L st M Q := G_getf rfl (by decide) rfl rfl rfl
theorem x229_5 (h : -2147483648 ≤ p ∧ p ≤ 2147483647) : XX X d 229 (5, L, .int (ii p) :: st, M) Q = bq (p ≠ 0) X d 229 12 8 L st M Q := H_if rfl ⟨rfl, rfl, rfl, by decide⟩ rfl rfl rfl rfl (D_ne (b := 0) (by omega))
theorem x229_5b : XX X d 229 (5, L, .int (ii (b2i b)) :: st, M) Q = bq (b = true) X d 229 12 8 L st M Q := (x229_5 (b2i_r b)).trans (by rw [b2i_n0])
theorem x229_8 : XX X d 229 (8, L, st, M) Q = XX X d 229 (9, L, .int (ii 1) :: st, M) Q := G_cst rfl rfl rfl rfl rfl
theorem x229_9 : XX X d 229 (9, L, st, M) Q = XX X d 229 (13, L, st, M) Q := H_jmp rfl (by decide) rfl
theorem x229_12 : XX X d 229 (12, L, st, M) Q = XX X d 229 (13, L, .int (ii 0) :: st, M) Q := G_cst rfl rfl rfl rfl rfl
theorem x229_13 {v1 : Value} (hd : 0 < d) (hs : stB st = true) : XX X d 229 (13, L, v1 :: .ref a :: st, M) Q = (mcl M a = some 9 ∧ CC X (d - 1) 144 [.ref a, v1] M (XC X d 229 13 16 L st Q)) := H_virt [v1] rfl (by decide) rfl rfl rfl rfl rfl hd hs
theorem x229_16 (h : -2147483648 ≤ p ∧ p ≤ 2147483647) : XX X d 229 (16, L, .int (ii p) :: st, M) Q = bq (p = 0) X d 229 21 19 L st M Q := H_if rfl ⟨rfl, rfl, rfl, by decide⟩ rfl rfl rfl rfl (D_eq (b := 0) (by omega))
theorem x229_16b : XX X d 229 (16, L, .int (ii (b2i b)) :: st, M) Q = bq (b = false) X d 229 21 19 L st M Q := (x229_16 (b2i_r b)).trans (by rw [b2i_0])
theorem x229_19 : XX X d 229 (19, L, st, M) Q = XX X d 229 (20, L, .int (ii 0) :: st, M) Q := G_cst rfl rfl rfl rfl rfl
theorem x229_20 : XX X d 229 (20, L, [.int (ii p)], M) Q = Q (.inl (some (.int (ii p)))) M := G_ret rfl ⟨⟨⟨rfl, rfl, rfl, by decide⟩, rfl, rfl⟩, rfl, rfl⟩ rfl
theorem x229_21 : XX X d 229 (21, [some (.ref a)], st, M) Q = XX X d 229 (22, [some (.ref a)], .ref a :: st, M) Q := H_ld rfl rfl rfl rfl rfl
theorem x229_22 (h : v.category = 1) : XX X d 229 (22, L, v :: st, M) Q = XX X d 229 (23, L, v :: v :: st, M) Q := G_sop rfl ⟨rfl, rfl, rfl, by decide⟩ (if_pos h) rfl
theorem x229_23 : XX X d 229 (23, L, .ref a :: st, M) Q = yg (M.2.2 a) 9 4 X d 229 26 L st M Q := G_getf rfl (by decide) rfl rfl rfl
theorem x229_26 : XX X d 229 (26, L, st, M) Q = XX X d 229 (27, L, .int (ii 1) :: st, M) Q := G_cst rfl rfl rfl rfl rfl
theorem x229_27 : XX X d 229 (27, L, .int (ii q) :: .int (ii p) :: st, M) Q = XX X d 229 (28, L, .int (ii (p - q)) :: st, M) Q := H_sub rfl (by decide) rfl
theorem x229_28 : XX X d 229 (28, L, v :: .ref a :: st, M) Q = yp (M.2.2 a) a 9 4 v X d 229 31 L st M Q := G_putf rfl (by decide) rfl rfl rfl
theorem x229_31 : XX X d 229 (31, [some (.ref a)], st, M) Q = XX X d 229 (32, [some (.ref a)], .ref a :: st, M) Q := H_ld rfl rfl rfl rfl rfl
theorem x229_32 : XX X d 229 (32, L, .ref a :: st, M) Q = yg (M.2.2 a) 9 1 X d 229 35 L st M Q := G_getf rfl (by decide) rfl rfl rfl
theorem x229_35 : XX X d 229 (35, L, st, M) Q = XX X d 229 (38, L, .int (ii 166) :: st, M) Q := G_cst rfl rfl rfl rfl rfl
theorem x229_38 : XX X d 229 (38, [some (.ref a)], st, M) Q = XX X d 229 (39, [some (.ref a)], .ref a :: st, M) Q := H_ld rfl rfl rfl rfl rfl
theorem x229_39 : XX X d 229 (39, L, .ref a :: st, M) Q = yg (M.2.2 a) 9 4 X d 229 42 L st M Q := G_getf rfl (by decide) rfl rfl rfl
theorem x229_42 : XX X d 229 (42, L, .int (ii q) :: .int (ii p) :: st, M) Q = XX X d 229 (43, L, .int (ii (p * q)) :: st, M) Q := H_mul rfl (by decide) rfl
theorem x229_43 : XX X d 229 (43, [some (.ref a)], st, M) Q = XX X d 229 (44, [some (.ref a)], .ref a :: st, M) Q := H_ld rfl rfl rfl rfl rfl
theorem x229_44 : XX X d 229 (44, L, .ref a :: st, M) Q = yg (M.2.2 a) 9 0 X d 229 47 L st M Q := G_getf rfl (by decide) rfl rfl rfl
theorem x229_47 : XX X d 229 (47, L, st, M) Q = XX X d 229 (48, L, .int (ii 0) :: st, M) Q := G_cst rfl rfl rfl rfl rfl
theorem x229_48 {v1 v2 v3 v4 : Value} (hd : 0 < d) (hs : stB st = true) : XX X d 229 (48, L, v4 :: v3 :: v2 :: v1 :: st, M) Q = CC X (d - 1) 148 [v1, v2, v3, v4] M (XC X d 229 48 51 L st Q) := H_static [v1, v2, v3, v4] rfl (by decide) rfl rfl (by decide) rfl rfl hd hs
theorem x229_51 : XX X d 229 (51, [some (.ref a)], st, M) Q = XX X d 229 (52, [some (.ref a)], .ref a :: st, M) Q := H_ld rfl rfl rfl rfl rfl
theorem x229_52 : XX X d 229 (52, L, .ref a :: st, M) Q = yg (M.2.2 a) 9 4 X d 229 55 L st M Q := G_getf rfl (by decide) rfl rfl rfl
theorem x229_55 : XX X d 229 (55, L, [.int (ii p)], M) Q = Q (.inl (some (.int (ii p)))) M := G_ret rfl ⟨⟨⟨rfl, rfl, rfl, by decide⟩, rfl, rfl⟩, rfl, rfl⟩ rfl
theorem e229 : CC X d 229 [.ref a] M Q = XX X d 229 (0, [some (.ref a)], [], M) Q := H_ent rfl rfl
-- 230 X9_undoCount ()I
theorem x230_0 : XX X d 230 (0, [some (.ref a)], st, M) Q = XX X d 230 (1, [some (.ref a)], .ref a :: st, M) Q := H_ld rfl rfl rfl rfl rfl
theorem x230_1 : XX X d 230 (1, L, st, M) Q = XX X d 230 (2, L, .int (ii 0) :: st, M) Q := G_cst rfl rfl rfl rfl rfl
theorem x230_2 : XX X d 230 (2, L, v :: .ref a :: st, M) Q = yp (M.2.2 a) a 9 5 v X d 230 5 L st M Q := G_putf rfl (by decide) rfl rfl rfl
theorem x230_5 : XX X d 230 (5, [some (.ref a)], st, M) Q = XX X d 230 (6, [some (.ref a)], .ref a :: st, M) Q := H_ld rfl rfl rfl rfl rfl
theorem x230_6 : XX X d 230 (6, L, .ref a :: st, M) Q = yg (M.2.2 a) 9 4 X d 230 9 L st M Q := G_getf rfl (by decide) rfl rfl rfl
theorem x230_9 : XX X d 230 (9, L, [.int (ii p)], M) Q = Q (.inl (some (.int (ii p)))) M := G_ret rfl ⟨⟨⟨rfl, rfl, rfl, by decide⟩, rfl, rfl⟩, rfl, rfl⟩ rfl
theorem e230 : CC X d 230 [.ref a] M Q = XX X d 230 (0, [some (.ref a)], [], M) Q := H_ent rfl rfl
-- 231 X9_saveSnapshot ()I
theorem x231_0 : XX X d 231 (0, [some (.ref a)], st, M) Q = XX X d 231 (1, [some (.ref a)], .ref a :: st, M) Q := H_ld rfl rfl rfl rfl rfl
theorem x231_1 : XX X d 231 (1, L, st, M) Q = XX X d 231 (2, L, .int (ii 0) :: st, M) Q := G_cst rfl rfl rfl rfl rfl
theorem x231_2 : XX X d 231 (2, L, v :: .ref a :: st, M) Q = yp (M.2.2 a) a 9 5 v X d 231 5 L st M Q := G_putf rfl (by decide) rfl rfl rfl
theorem x231_5 : XX X d 231 (5, [some (.ref a)], st, M) Q = XX X d 231 (6, [some (.ref a)], .ref a :: st, M) Q := H_ld rfl rfl rfl rfl rfl
theorem x231_6 : XX X d 231 (6, L, st, M) Q = XX X d 231 (7, L, .int (ii 1) :: st, M) Q := G_cst rfl rfl rfl rfl rfl
theorem x231_7 : XX X d 231 (7, L, v :: .ref a :: st, M) Q = yp (M.2.2 a) a 9 3 v X d 231 10 L st M Q := G_putf rfl (by decide) rfl rfl rfl
theorem x231_10 : XX X d 231 (10, [some (.ref a)], st, M) Q = XX X d 231 (11, [some (.ref a)], .ref a :: st, M) Q := H_ld rfl rfl rfl rfl rfl
theorem x231_11 : XX X d 231 (11, L, .ref a :: st, M) Q = yg (M.2.2 a) 9 0 X d 231 14 L st M Q := G_getf rfl (by decide) rfl rfl rfl
theorem x231_14 : XX X d 231 (14, L, st, M) Q = XX X d 231 (15, L, .int (ii 0) :: st, M) Q := G_cst rfl rfl rfl rfl rfl
theorem x231_15 : XX X d 231 (15, [some (.ref a)], st, M) Q = XX X d 231 (16, [some (.ref a)], .ref a :: st, M) Q := H_ld rfl rfl rfl rfl rfl
theorem x231_16 : XX X d 231 (16, L, .ref a :: st, M) Q = yg (M.2.2 a) 9 2 X d 231 19 L st M Q := G_getf rfl (by decide) rfl rfl rfl
theorem x231_19 : XX X d 231 (19, L, st, M) Q = XX X d 231 (20, L, .int (ii 0) :: st, M) Q := G_cst rfl rfl rfl rfl rfl
theorem x231_20 {v1 v2 v3 v4 : Value} (hd : 0 < d) (hs : stB st = true) : XX X d 231 (20, L, v4 :: v3 :: v2 :: v1 :: st, M) Q = CC X (d - 1) 148 [v1, v2, v3, v4] M (XC X d 231 20 23 L st Q) := H_static [v1, v2, v3, v4] rfl (by decide) rfl rfl (by decide) rfl rfl hd hs
theorem x231_23 : XX X d 231 (23, [some (.ref a)], st, M) Q = XX X d 231 (24, [some (.ref a)], .ref a :: st, M) Q := H_ld rfl rfl rfl rfl rfl
theorem x231_24 : XX X d 231 (24, L, .ref a :: st, M) Q = yg (M.2.2 a) 9 0 X d 231 27 L st M Q := G_getf rfl (by decide) rfl rfl rfl
theorem x231_27 : XX X d 231 (27, L, st, M) Q = XX X d 231 (28, L, .int (ii 0) :: st, M) Q := G_cst rfl rfl rfl rfl rfl
theorem x231_28 : XX X d 231 (28, L, .int x :: .ref a :: st, M) Q = ya (M.2.2 a) .iaload x X d 231 29 L st M Q := G_ald rfl ⟨⟨rfl, rfl, rfl, by decide⟩, rfl, rfl⟩ rfl rfl
theorem x231_29 : XX X d 231 (29, L, [.int (ii p)], M) Q = Q (.inl (some (.int (ii p)))) M := G_ret rfl ⟨⟨⟨rfl, rfl, rfl, by decide⟩, rfl, rfl⟩, rfl, rfl⟩ rfl
theorem e231 : CC X d 231 [.ref a] M Q = XX X d 231 (0, [some (.ref a)], [], M) Q := H_ent rfl rfl
-- 232 X9_restoreSnapshot ()I
theorem x232_0 : XX X d 232 (0, [some (.ref a)], st, M) Q = XX X d 232 (1, [some (.ref a)], .ref a :: st, M) Q := H_ld rfl rfl rfl rfl rfl
theorem x232_1 : XX X d 232 (1, [some (.ref a)], st, M) Q = XX X d 232 (2, [some (.ref a)], .ref a :: st, M) Q := H_ld rfl rfl rfl rfl rfl
theorem x232_2 : XX X d 232 (2, L, .ref a :: st, M) Q = yg (M.2.2 a) 9 3 X d 232 5 L st M Q := G_getf rfl (by decide) rfl rfl rfl
theorem x232_5 (h : -2147483648 ≤ p ∧ p ≤ 2147483647) : XX X d 232 (5, L, .int (ii p) :: st, M) Q = bq (p = 0) X d 232 12 8 L st M Q := H_if rfl ⟨rfl, rfl, rfl, by decide⟩ rfl rfl rfl rfl (D_eq (b := 0) (by omega))
theorem x232_5b : XX X d 232 (5, L, .int (ii (b2i b)) :: st, M) Q = bq (b = false) X d 232 12 8 L st M Q := (x232_5 (b2i_r b)).trans (by rw [b2i_0])
theorem x232_8 : XX X d 232 (8, L, st, M) Q = XX X d 232 (9, L, .int (ii 0) :: st, M) Q := G_cst rfl rfl rfl rfl rfl
theorem x232_9 : XX X d 232 (9, L, st, M) Q = XX X d 232 (13, L, st, M) Q := H_jmp rfl (by decide) rfl
theorem x232_12 : XX X d 232 (12, L, st, M) Q = XX X d 232 (13, L, .int (ii 1) :: st, M) Q := G_cst rfl rfl rfl rfl rfl
theorem x232_13 {v1 : Value} (hd : 0 < d) (hs : stB st = true) : XX X d 232 (13, L, v1 :: .ref a :: st, M) Q = (mcl M a = some 9 ∧ CC X (d - 1) 144 [.ref a, v1] M (XC X d 232 13 16 L st Q)) := H_virt [v1] rfl (by decide) rfl rfl rfl rfl rfl hd hs
theorem x232_16 (h : -2147483648 ≤ p ∧ p ≤ 2147483647) : XX X d 232 (16, L, .int (ii p) :: st, M) Q = bq (p = 0) X d 232 21 19 L st M Q := H_if rfl ⟨rfl, rfl, rfl, by decide⟩ rfl rfl rfl rfl (D_eq (b := 0) (by omega))
theorem x232_16b : XX X d 232 (16, L, .int (ii (b2i b)) :: st, M) Q = bq (b = false) X d 232 21 19 L st M Q := (x232_16 (b2i_r b)).trans (by rw [b2i_0])
theorem x232_19 : XX X d 232 (19, L, st, M) Q = XX X d 232 (20, L, .int (ii 0) :: st, M) Q := G_cst rfl rfl rfl rfl rfl
theorem x232_20 : XX X d 232 (20, L, [.int (ii p)], M) Q = Q (.inl (some (.int (ii p)))) M := G_ret rfl ⟨⟨⟨rfl, rfl, rfl, by decide⟩, rfl, rfl⟩, rfl, rfl⟩ rfl
theorem x232_21 : XX X d 232 (21, [some (.ref a)], st, M) Q = XX X d 232 (22, [some (.ref a)], .ref a :: st, M) Q := H_ld rfl rfl rfl rfl rfl
theorem x232_22 : XX X d 232 (22, L, .ref a :: st, M) Q = yg (M.2.2 a) 9 2 X d 232 25 L st M Q := G_getf rfl (by decide) rfl rfl rfl
theorem x232_25 : XX X d 232 (25, L, st, M) Q = XX X d 232 (26, L, .int (ii 0) :: st, M) Q := G_cst rfl rfl rfl rfl rfl
theorem x232_26 : XX X d 232 (26, [some (.ref a)], st, M) Q = XX X d 232 (27, [some (.ref a)], .ref a :: st, M) Q := H_ld rfl rfl rfl rfl rfl
theorem x232_27 : XX X d 232 (27, L, .ref a :: st, M) Q = yg (M.2.2 a) 9 0 X d 232 30 L st M Q := G_getf rfl (by decide) rfl rfl rfl
theorem x232_30 : XX X d 232 (30, L, st, M) Q = XX X d 232 (31, L, .int (ii 0) :: st, M) Q := G_cst rfl rfl rfl rfl rfl
theorem x232_31 {v1 v2 v3 v4 : Value} (hd : 0 < d) (hs : stB st = true) : XX X d 232 (31, L, v4 :: v3 :: v2 :: v1 :: st, M) Q = CC X (d - 1) 148 [v1, v2, v3, v4] M (XC X d 232 31 34 L st Q) := H_static [v1, v2, v3, v4] rfl (by decide) rfl rfl (by decide) rfl rfl hd hs
theorem x232_34 : XX X d 232 (34, [some (.ref a)], st, M) Q = XX X d 232 (35, [some (.ref a)], .ref a :: st, M) Q := H_ld rfl rfl rfl rfl rfl
theorem x232_35 : XX X d 232 (35, L, st, M) Q = XX X d 232 (36, L, .int (ii 0) :: st, M) Q := G_cst rfl rfl rfl rfl rfl
theorem x232_36 : XX X d 232 (36, L, v :: .ref a :: st, M) Q = yp (M.2.2 a) a 9 4 v X d 232 39 L st M Q := G_putf rfl (by decide) rfl rfl rfl
theorem x232_39 : XX X d 232 (39, [some (.ref a)], st, M) Q = XX X d 232 (40, [some (.ref a)], .ref a :: st, M) Q := H_ld rfl rfl rfl rfl rfl
theorem x232_40 : XX X d 232 (40, L, .ref a :: st, M) Q = yg (M.2.2 a) 9 0 X d 232 43 L st M Q := G_getf rfl (by decide) rfl rfl rfl
theorem x232_43 : XX X d 232 (43, L, st, M) Q = XX X d 232 (44, L, .int (ii 0) :: st, M) Q := G_cst rfl rfl rfl rfl rfl
theorem x232_44 : XX X d 232 (44, L, .int x :: .ref a :: st, M) Q = ya (M.2.2 a) .iaload x X d 232 45 L st M Q := G_ald rfl ⟨⟨rfl, rfl, rfl, by decide⟩, rfl, rfl⟩ rfl rfl
theorem x232_45 : XX X d 232 (45, L, [.int (ii p)], M) Q = Q (.inl (some (.int (ii p)))) M := G_ret rfl ⟨⟨⟨rfl, rfl, rfl, by decide⟩, rfl, rfl⟩, rfl, rfl⟩ rfl
theorem e232 : CC X d 232 [.ref a] M Q = XX X d 232 (0, [some (.ref a)], [], M) Q := H_ent rfl rfl
end PX26pxmodel
