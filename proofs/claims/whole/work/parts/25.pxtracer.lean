/-! tracer: each row at its place, printed by wip/whole/genx.py -/
section PX25pxtracer
variable {X : JX} {d a a1 a2 a3 a4 : Nat} {L : List (Option Value)} {st : List Value} {M : JM} {Q : JR → JM → Prop} {p q : Int} {b : Bool} {x x2 x3 x4 x5 x6 : Int32} {y y2 : Int64} {z z2 : UInt32} {w w2 : UInt64} {v v2 : Value} {l0 l1 l2 l3 l4 l5 l6 l7 l8 l9 l10 l11 l12 l13 l14 : Option Value}
-- 78 X8_init ()V
theorem x78_0 : XX X d 78 (0, [some (.ref a)], st, M) Q = XX X d 78 (1, [some (.ref a)], .ref a :: st, M) Q := H_ld rfl rfl rfl rfl rfl
theorem x78_0n : XX X d 78 (0, [some (.null)], st, M) Q = XX X d 78 (1, [some (.null)], .null :: st, M) Q := H_ld rfl rfl rfl rfl rfl
theorem x78_1 (hs : stB st = true) : XX X d 78 (1, L, .ref a :: st, M) Q = XX X d 78 (4, L, st, M) Q := H_obj rfl (by decide) rfl rfl rfl hs
theorem x78_4 : XX X d 78 (4, [some (.ref a)], st, M) Q = XX X d 78 (5, [some (.ref a)], .ref a :: st, M) Q := H_ld rfl rfl rfl rfl rfl
theorem x78_4n : XX X d 78 (4, [some (.null)], st, M) Q = XX X d 78 (5, [some (.null)], .null :: st, M) Q := H_ld rfl rfl rfl rfl rfl
theorem x78_5 : XX X d 78 (5, L, st, M) Q = XX X d 78 (8, L, .ref M.1 :: st, mnew M 2 (.inr (6, [.null, .int (ii 0)]))) Q := H_new rfl (by decide) rfl rfl (by decide) rfl rfl
theorem x78_8 (h : v.category = 1) : XX X d 78 (8, L, v :: st, M) Q = XX X d 78 (9, L, v :: v :: st, M) Q := G_sop rfl ⟨rfl, rfl, rfl, by decide⟩ (if_pos h) rfl
theorem x78_9 : XX X d 78 (9, L, st, M) Q = XX X d 78 (11, L, .int (ii 30) :: st, M) Q := G_cst rfl rfl rfl rfl rfl
theorem x78_11 {v1 : Value} (hd : 0 < d) (hs : stB st = true) : XX X d 78 (11, L, v1 :: .ref a :: st, M) Q = CC X (d - 1) 57 [.ref a, v1] M (XC X d 78 11 14 L st Q) := H_spec [v1] rfl (by decide) rfl rfl (by decide) rfl rfl hd hs
theorem x78_14 : XX X d 78 (14, L, v :: .ref a :: st, M) Q = yp (M.2.2 a) a 8 0 v X d 78 17 L st M Q := G_putf rfl (by decide) rfl rfl rfl
theorem x78_17 : XX X d 78 (17, [some (.ref a)], st, M) Q = XX X d 78 (18, [some (.ref a)], .ref a :: st, M) Q := H_ld rfl rfl rfl rfl rfl
theorem x78_17n : XX X d 78 (17, [some (.null)], st, M) Q = XX X d 78 (18, [some (.null)], .null :: st, M) Q := H_ld rfl rfl rfl rfl rfl
theorem x78_18 : XX X d 78 (18, L, st, M) Q = XX X d 78 (21, L, .ref M.1 :: st, mnew M 2 (.inr (6, [.null, .int (ii 0)]))) Q := H_new rfl (by decide) rfl rfl (by decide) rfl rfl
theorem x78_21 (h : v.category = 1) : XX X d 78 (21, L, v :: st, M) Q = XX X d 78 (22, L, v :: v :: st, M) Q := G_sop rfl ⟨rfl, rfl, rfl, by decide⟩ (if_pos h) rfl
theorem x78_22 : XX X d 78 (22, L, st, M) Q = XX X d 78 (24, L, .int (ii 40) :: st, M) Q := G_cst rfl rfl rfl rfl rfl
theorem x78_24 {v1 : Value} (hd : 0 < d) (hs : stB st = true) : XX X d 78 (24, L, v1 :: .ref a :: st, M) Q = CC X (d - 1) 57 [.ref a, v1] M (XC X d 78 24 27 L st Q) := H_spec [v1] rfl (by decide) rfl rfl (by decide) rfl rfl hd hs
theorem x78_27 : XX X d 78 (27, L, v :: .ref a :: st, M) Q = yp (M.2.2 a) a 8 1 v X d 78 30 L st M Q := G_putf rfl (by decide) rfl rfl rfl
theorem x78_30 : XX X d 78 (30, [some (.ref a)], st, M) Q = XX X d 78 (31, [some (.ref a)], .ref a :: st, M) Q := H_ld rfl rfl rfl rfl rfl
theorem x78_30n : XX X d 78 (30, [some (.null)], st, M) Q = XX X d 78 (31, [some (.null)], .null :: st, M) Q := H_ld rfl rfl rfl rfl rfl
theorem x78_31 : XX X d 78 (31, L, st, M) Q = XX X d 78 (34, L, .ref M.1 :: st, mnew M 3 (.inr (1, [.null, .int (ii 0), .null]))) Q := H_new rfl (by decide) rfl rfl (by decide) rfl rfl
theorem x78_34 (h : v.category = 1) : XX X d 78 (34, L, v :: st, M) Q = XX X d 78 (35, L, v :: v :: st, M) Q := G_sop rfl ⟨rfl, rfl, rfl, by decide⟩ (if_pos h) rfl
theorem x78_35 (hd : 0 < d) (hs : stB st = true) : XX X d 78 (35, L, .ref a :: st, M) Q = CC X (d - 1) 15 [.ref a] M (XC X d 78 35 38 L st Q) := H_spec [] rfl (by decide) rfl rfl (by decide) rfl rfl hd hs
theorem x78_38 : XX X d 78 (38, L, v :: .ref a :: st, M) Q = yp (M.2.2 a) a 8 2 v X d 78 41 L st M Q := G_putf rfl (by decide) rfl rfl rfl
theorem x78_41 : XX X d 78 (41, [some (.ref a)], st, M) Q = XX X d 78 (42, [some (.ref a)], .ref a :: st, M) Q := H_ld rfl rfl rfl rfl rfl
theorem x78_41n : XX X d 78 (41, [some (.null)], st, M) Q = XX X d 78 (42, [some (.null)], .null :: st, M) Q := H_ld rfl rfl rfl rfl rfl
theorem x78_42 : XX X d 78 (42, L, st, M) Q = XX X d 78 (45, L, .ref M.1 :: st, mnew M 3 (.inr (1, [.null, .int (ii 0), .null]))) Q := H_new rfl (by decide) rfl rfl (by decide) rfl rfl
theorem x78_45 (h : v.category = 1) : XX X d 78 (45, L, v :: st, M) Q = XX X d 78 (46, L, v :: v :: st, M) Q := G_sop rfl ⟨rfl, rfl, rfl, by decide⟩ (if_pos h) rfl
theorem x78_46 (hd : 0 < d) (hs : stB st = true) : XX X d 78 (46, L, .ref a :: st, M) Q = CC X (d - 1) 15 [.ref a] M (XC X d 78 46 49 L st Q) := H_spec [] rfl (by decide) rfl rfl (by decide) rfl rfl hd hs
theorem x78_49 : XX X d 78 (49, L, v :: .ref a :: st, M) Q = yp (M.2.2 a) a 8 3 v X d 78 52 L st M Q := G_putf rfl (by decide) rfl rfl rfl
theorem x78_52 : XX X d 78 (52, [some (.ref a)], st, M) Q = XX X d 78 (53, [some (.ref a)], .ref a :: st, M) Q := H_ld rfl rfl rfl rfl rfl
theorem x78_52n : XX X d 78 (52, [some (.null)], st, M) Q = XX X d 78 (53, [some (.null)], .null :: st, M) Q := H_ld rfl rfl rfl rfl rfl
theorem x78_53 : XX X d 78 (53, L, st, M) Q = XX X d 78 (54, L, .int (ii 0) :: st, M) Q := G_cst rfl rfl rfl rfl rfl
theorem x78_54 : XX X d 78 (54, L, v :: .ref a :: st, M) Q = yp (M.2.2 a) a 8 4 v X d 78 57 L st M Q := G_putf rfl (by decide) rfl rfl rfl
theorem x78_57 : XX X d 78 (57, [some (.ref a)], st, M) Q = XX X d 78 (58, [some (.ref a)], .ref a :: st, M) Q := H_ld rfl rfl rfl rfl rfl
theorem x78_57n : XX X d 78 (57, [some (.null)], st, M) Q = XX X d 78 (58, [some (.null)], .null :: st, M) Q := H_ld rfl rfl rfl rfl rfl
theorem x78_58 : XX X d 78 (58, L, st, M) Q = XX X d 78 (61, L, .ref M.1 :: st, mnew M 3 (.inr (2, [.null, .int (ii 0), .int (ii 0)]))) Q := H_new rfl (by decide) rfl rfl (by decide) rfl rfl
theorem x78_61 (h : v.category = 1) : XX X d 78 (61, L, v :: st, M) Q = XX X d 78 (62, L, v :: v :: st, M) Q := G_sop rfl ⟨rfl, rfl, rfl, by decide⟩ (if_pos h) rfl
theorem x78_62 (hd : 0 < d) (hs : stB st = true) : XX X d 78 (62, L, .ref a :: st, M) Q = CC X (d - 1) 22 [.ref a] M (XC X d 78 62 65 L st Q) := H_spec [] rfl (by decide) rfl rfl (by decide) rfl rfl hd hs
theorem x78_65 : XX X d 78 (65, L, v :: .ref a :: st, M) Q = yp (M.2.2 a) a 8 5 v X d 78 68 L st M Q := G_putf rfl (by decide) rfl rfl rfl
theorem x78_68 : XX X d 78 (68, [some (.ref a)], st, M) Q = XX X d 78 (69, [some (.ref a)], .ref a :: st, M) Q := H_ld rfl rfl rfl rfl rfl
theorem x78_68n : XX X d 78 (68, [some (.null)], st, M) Q = XX X d 78 (69, [some (.null)], .null :: st, M) Q := H_ld rfl rfl rfl rfl rfl
theorem x78_69 : XX X d 78 (69, L, st, M) Q = XX X d 78 (70, L, .int (ii (-1)) :: st, M) Q := G_cst rfl rfl rfl rfl rfl
theorem x78_70 : XX X d 78 (70, L, v :: .ref a :: st, M) Q = yp (M.2.2 a) a 8 6 v X d 78 73 L st M Q := G_putf rfl (by decide) rfl rfl rfl
theorem x78_73 : XX X d 78 (73, [some (.ref a)], st, M) Q = XX X d 78 (74, [some (.ref a)], .ref a :: st, M) Q := H_ld rfl rfl rfl rfl rfl
theorem x78_73n : XX X d 78 (73, [some (.null)], st, M) Q = XX X d 78 (74, [some (.null)], .null :: st, M) Q := H_ld rfl rfl rfl rfl rfl
theorem x78_74 : XX X d 78 (74, L, st, M) Q = XX X d 78 (75, L, .int (ii (-1)) :: st, M) Q := G_cst rfl rfl rfl rfl rfl
theorem x78_75 : XX X d 78 (75, L, v :: .ref a :: st, M) Q = yp (M.2.2 a) a 8 7 v X d 78 78 L st M Q := G_putf rfl (by decide) rfl rfl rfl
theorem x78_78 : XX X d 78 (78, [some (.ref a)], st, M) Q = XX X d 78 (79, [some (.ref a)], .ref a :: st, M) Q := H_ld rfl rfl rfl rfl rfl
theorem x78_78n : XX X d 78 (78, [some (.null)], st, M) Q = XX X d 78 (79, [some (.null)], .null :: st, M) Q := H_ld rfl rfl rfl rfl rfl
theorem x78_79 : XX X d 78 (79, L, st, M) Q = XX X d 78 (80, L, .int (ii (-1)) :: st, M) Q := G_cst rfl rfl rfl rfl rfl
theorem x78_80 : XX X d 78 (80, L, v :: .ref a :: st, M) Q = yp (M.2.2 a) a 8 8 v X d 78 83 L st M Q := G_putf rfl (by decide) rfl rfl rfl
theorem x78_83 : XX X d 78 (83, [some (.ref a)], st, M) Q = XX X d 78 (84, [some (.ref a)], .ref a :: st, M) Q := H_ld rfl rfl rfl rfl rfl
theorem x78_83n : XX X d 78 (83, [some (.null)], st, M) Q = XX X d 78 (84, [some (.null)], .null :: st, M) Q := H_ld rfl rfl rfl rfl rfl
theorem x78_84 : XX X d 78 (84, L, st, M) Q = XX X d 78 (87, L, .ref M.1 :: st, mnew M 3 (.inr (0, [.null, .null, .null]))) Q := H_new rfl (by decide) rfl rfl (by decide) rfl rfl
theorem x78_87 (h : v.category = 1) : XX X d 78 (87, L, v :: st, M) Q = XX X d 78 (88, L, v :: v :: st, M) Q := G_sop rfl ⟨rfl, rfl, rfl, by decide⟩ (if_pos h) rfl
theorem x78_88 (hd : 0 < d) (hs : stB st = true) : XX X d 78 (88, L, .ref a :: st, M) Q = CC X (d - 1) 1 [.ref a] M (XC X d 78 88 91 L st Q) := H_spec [] rfl (by decide) rfl rfl (by decide) rfl rfl hd hs
theorem x78_91 : XX X d 78 (91, L, v :: .ref a :: st, M) Q = yp (M.2.2 a) a 8 9 v X d 78 94 L st M Q := G_putf rfl (by decide) rfl rfl rfl
theorem x78_94 : XX X d 78 (94, [some (.ref a)], st, M) Q = XX X d 78 (95, [some (.ref a)], .ref a :: st, M) Q := H_ld rfl rfl rfl rfl rfl
theorem x78_94n : XX X d 78 (94, [some (.null)], st, M) Q = XX X d 78 (95, [some (.null)], .null :: st, M) Q := H_ld rfl rfl rfl rfl rfl
theorem x78_95 : XX X d 78 (95, L, st, M) Q = XX X d 78 (98, L, .ref M.1 :: st, mnew M 6 (.inr (7, [.null, .null, .null, .long 0, .int (ii 0), .int (ii 0)]))) Q := H_new rfl (by decide) rfl rfl (by decide) rfl rfl
theorem x78_98 (h : v.category = 1) : XX X d 78 (98, L, v :: st, M) Q = XX X d 78 (99, L, v :: v :: st, M) Q := G_sop rfl ⟨rfl, rfl, rfl, by decide⟩ (if_pos h) rfl
theorem x78_99 (hd : 0 < d) (hs : stB st = true) : XX X d 78 (99, L, .ref a :: st, M) Q = CC X (d - 1) 70 [.ref a] M (XC X d 78 99 102 L st Q) := H_spec [] rfl (by decide) rfl rfl (by decide) rfl rfl hd hs
theorem x78_102 : XX X d 78 (102, L, v :: .ref a :: st, M) Q = yp (M.2.2 a) a 8 10 v X d 78 105 L st M Q := G_putf rfl (by decide) rfl rfl rfl
theorem x78_105 : XX X d 78 (105, [some (.ref a)], st, M) Q = XX X d 78 (106, [some (.ref a)], .ref a :: st, M) Q := H_ld rfl rfl rfl rfl rfl
theorem x78_105n : XX X d 78 (105, [some (.null)], st, M) Q = XX X d 78 (106, [some (.null)], .null :: st, M) Q := H_ld rfl rfl rfl rfl rfl
theorem x78_106 : XX X d 78 (106, L, st, M) Q = XX X d 78 (109, L, .ref M.1 :: st, mnew M 2 (.inr (6, [.null, .int (ii 0)]))) Q := H_new rfl (by decide) rfl rfl (by decide) rfl rfl
theorem x78_109 (h : v.category = 1) : XX X d 78 (109, L, v :: st, M) Q = XX X d 78 (110, L, v :: v :: st, M) Q := G_sop rfl ⟨rfl, rfl, rfl, by decide⟩ (if_pos h) rfl
theorem x78_110 : XX X d 78 (110, L, st, M) Q = XX X d 78 (112, L, .int (ii 41) :: st, M) Q := G_cst rfl rfl rfl rfl rfl
theorem x78_112 {v1 : Value} (hd : 0 < d) (hs : stB st = true) : XX X d 78 (112, L, v1 :: .ref a :: st, M) Q = CC X (d - 1) 57 [.ref a, v1] M (XC X d 78 112 115 L st Q) := H_spec [v1] rfl (by decide) rfl rfl (by decide) rfl rfl hd hs
theorem x78_115 : XX X d 78 (115, L, v :: .ref a :: st, M) Q = yp (M.2.2 a) a 8 11 v X d 78 118 L st M Q := G_putf rfl (by decide) rfl rfl rfl
theorem x78_118 : XX X d 78 (118, [some (.ref a)], st, M) Q = XX X d 78 (119, [some (.ref a)], .ref a :: st, M) Q := H_ld rfl rfl rfl rfl rfl
theorem x78_118n : XX X d 78 (118, [some (.null)], st, M) Q = XX X d 78 (119, [some (.null)], .null :: st, M) Q := H_ld rfl rfl rfl rfl rfl
theorem x78_119 : XX X d 78 (119, L, st, M) Q = XX X d 78 (122, L, .ref M.1 :: st, mnew M 2 (.inr (6, [.null, .int (ii 0)]))) Q := H_new rfl (by decide) rfl rfl (by decide) rfl rfl
theorem x78_122 (h : v.category = 1) : XX X d 78 (122, L, v :: st, M) Q = XX X d 78 (123, L, v :: v :: st, M) Q := G_sop rfl ⟨rfl, rfl, rfl, by decide⟩ (if_pos h) rfl
theorem x78_123 : XX X d 78 (123, L, st, M) Q = XX X d 78 (125, L, .int (ii 41) :: st, M) Q := G_cst rfl rfl rfl rfl rfl
theorem x78_125 {v1 : Value} (hd : 0 < d) (hs : stB st = true) : XX X d 78 (125, L, v1 :: .ref a :: st, M) Q = CC X (d - 1) 57 [.ref a, v1] M (XC X d 78 125 128 L st Q) := H_spec [v1] rfl (by decide) rfl rfl (by decide) rfl rfl hd hs
theorem x78_128 : XX X d 78 (128, L, v :: .ref a :: st, M) Q = yp (M.2.2 a) a 8 12 v X d 78 131 L st M Q := G_putf rfl (by decide) rfl rfl rfl
theorem x78_131 : XX X d 78 (131, [some (.ref a)], st, M) Q = XX X d 78 (132, [some (.ref a)], .ref a :: st, M) Q := H_ld rfl rfl rfl rfl rfl
theorem x78_131n : XX X d 78 (131, [some (.null)], st, M) Q = XX X d 78 (132, [some (.null)], .null :: st, M) Q := H_ld rfl rfl rfl rfl rfl
theorem x78_132 : XX X d 78 (132, L, st, M) Q = XX X d 78 (135, L, .ref M.1 :: st, mnew M 2 (.inr (6, [.null, .int (ii 0)]))) Q := H_new rfl (by decide) rfl rfl (by decide) rfl rfl
theorem x78_135 (h : v.category = 1) : XX X d 78 (135, L, v :: st, M) Q = XX X d 78 (136, L, v :: v :: st, M) Q := G_sop rfl ⟨rfl, rfl, rfl, by decide⟩ (if_pos h) rfl
theorem x78_136 : XX X d 78 (136, L, st, M) Q = XX X d 78 (137, L, .int (ii 4) :: st, M) Q := G_cst rfl rfl rfl rfl rfl
theorem x78_137 {v1 : Value} (hd : 0 < d) (hs : stB st = true) : XX X d 78 (137, L, v1 :: .ref a :: st, M) Q = CC X (d - 1) 57 [.ref a, v1] M (XC X d 78 137 140 L st Q) := H_spec [v1] rfl (by decide) rfl rfl (by decide) rfl rfl hd hs
theorem x78_140 : XX X d 78 (140, L, v :: .ref a :: st, M) Q = yp (M.2.2 a) a 8 13 v X d 78 143 L st M Q := G_putf rfl (by decide) rfl rfl rfl
theorem x78_143 : XX X d 78 (143, [some (.ref a)], st, M) Q = XX X d 78 (144, [some (.ref a)], .ref a :: st, M) Q := H_ld rfl rfl rfl rfl rfl
theorem x78_143n : XX X d 78 (143, [some (.null)], st, M) Q = XX X d 78 (144, [some (.null)], .null :: st, M) Q := H_ld rfl rfl rfl rfl rfl
theorem x78_144 : XX X d 78 (144, L, st, M) Q = XX X d 78 (147, L, .ref M.1 :: st, mnew M 2 (.inr (6, [.null, .int (ii 0)]))) Q := H_new rfl (by decide) rfl rfl (by decide) rfl rfl
theorem x78_147 (h : v.category = 1) : XX X d 78 (147, L, v :: st, M) Q = XX X d 78 (148, L, v :: v :: st, M) Q := G_sop rfl ⟨rfl, rfl, rfl, by decide⟩ (if_pos h) rfl
theorem x78_148 : XX X d 78 (148, L, st, M) Q = XX X d 78 (150, L, .int (ii 40) :: st, M) Q := G_cst rfl rfl rfl rfl rfl
theorem x78_150 {v1 : Value} (hd : 0 < d) (hs : stB st = true) : XX X d 78 (150, L, v1 :: .ref a :: st, M) Q = CC X (d - 1) 57 [.ref a, v1] M (XC X d 78 150 153 L st Q) := H_spec [v1] rfl (by decide) rfl rfl (by decide) rfl rfl hd hs
theorem x78_153 : XX X d 78 (153, L, v :: .ref a :: st, M) Q = yp (M.2.2 a) a 8 14 v X d 78 156 L st M Q := G_putf rfl (by decide) rfl rfl rfl
theorem x78_156 : XX X d 78 (156, [some (.ref a)], st, M) Q = XX X d 78 (157, [some (.ref a)], .ref a :: st, M) Q := H_ld rfl rfl rfl rfl rfl
theorem x78_156n : XX X d 78 (156, [some (.null)], st, M) Q = XX X d 78 (157, [some (.null)], .null :: st, M) Q := H_ld rfl rfl rfl rfl rfl
theorem x78_157 : XX X d 78 (157, L, st, M) Q = XX X d 78 (160, L, .ref M.1 :: st, mnew M 2 (.inr (6, [.null, .int (ii 0)]))) Q := H_new rfl (by decide) rfl rfl (by decide) rfl rfl
theorem x78_160 (h : v.category = 1) : XX X d 78 (160, L, v :: st, M) Q = XX X d 78 (161, L, v :: v :: st, M) Q := G_sop rfl ⟨rfl, rfl, rfl, by decide⟩ (if_pos h) rfl
theorem x78_161 : XX X d 78 (161, L, st, M) Q = XX X d 78 (163, L, .int (ii 122) :: st, M) Q := G_cst rfl rfl rfl rfl rfl
theorem x78_163 {v1 : Value} (hd : 0 < d) (hs : stB st = true) : XX X d 78 (163, L, v1 :: .ref a :: st, M) Q = CC X (d - 1) 57 [.ref a, v1] M (XC X d 78 163 166 L st Q) := H_spec [v1] rfl (by decide) rfl rfl (by decide) rfl rfl hd hs
theorem x78_166 : XX X d 78 (166, L, v :: .ref a :: st, M) Q = yp (M.2.2 a) a 8 15 v X d 78 169 L st M Q := G_putf rfl (by decide) rfl rfl rfl
theorem x78_169 : XX X d 78 (169, L, [], M) Q = Q (.inl none) M := G_retv rfl (by decide) rfl
theorem e78 : CC X d 78 [.ref a] M Q = XX X d 78 (0, [some (.ref a)], [], M) Q := H_ent rfl rfl
-- 79 X8_typePattern (C)I
theorem x79_0 : XX X d 79 (0, [some (.ref a), l1], st, M) Q = XX X d 79 (1, [some (.ref a), l1], .ref a :: st, M) Q := H_ld rfl rfl rfl rfl rfl
theorem x79_0n : XX X d 79 (0, [some (.null), l1], st, M) Q = XX X d 79 (1, [some (.null), l1], .null :: st, M) Q := H_ld rfl rfl rfl rfl rfl
theorem x79_1 : XX X d 79 (1, L, .ref a :: st, M) Q = yg (M.2.2 a) 8 0 X d 79 4 L st M Q := G_getf rfl (by decide) rfl rfl rfl
theorem x79_4 (hd : 0 < d) (hs : stB st = true) : XX X d 79 (4, L, .ref a :: st, M) Q = (mcl M a = some 6 ∧ CC X (d - 1) 59 [.ref a] M (XC X d 79 4 7 L st Q)) := H_virt [] rfl (by decide) rfl rfl rfl rfl rfl hd hs
theorem x79_7 (h : -2147483648 ≤ p ∧ p ≤ 2147483647) : XX X d 79 (7, L, .int (ii p) :: st, M) Q = bq (p = 0) X d 79 20 10 L st M Q := H_if rfl ⟨rfl, rfl, rfl, by decide⟩ rfl rfl rfl rfl (D_eq (b := 0) (by omega))
theorem x79_7b : XX X d 79 (7, L, .int (ii (b2i b)) :: st, M) Q = bq (b = false) X d 79 20 10 L st M Q := (x79_7 (b2i_r b)).trans (by rw [b2i_0])
theorem x79_10 (hs : stB st = true) : XX X d 79 (10, L, st, M) Q = Q (.inr 0) (mthr M) := H_thr rfl (by decide) rfl hs
theorem x79_20 : XX X d 79 (20, [some (.ref a), l1], st, M) Q = XX X d 79 (21, [some (.ref a), l1], .ref a :: st, M) Q := H_ld rfl rfl rfl rfl rfl
theorem x79_20n : XX X d 79 (20, [some (.null), l1], st, M) Q = XX X d 79 (21, [some (.null), l1], .null :: st, M) Q := H_ld rfl rfl rfl rfl rfl
theorem x79_21 : XX X d 79 (21, L, .ref a :: st, M) Q = yg (M.2.2 a) 8 0 X d 79 24 L st M Q := G_getf rfl (by decide) rfl rfl rfl
theorem x79_24 : XX X d 79 (24, [l0, some (.int x)], st, M) Q = XX X d 79 (25, [l0, some (.int x)], .int x :: st, M) Q := H_ld rfl rfl rfl rfl rfl
theorem x79_25 {v1 : Value} (hd : 0 < d) (hs : stB st = true) : XX X d 79 (25, L, v1 :: .ref a :: st, M) Q = (mcl M a = some 6 ∧ CC X (d - 1) 63 [.ref a, v1] M (XC X d 79 25 28 L st Q)) := H_virt [v1] rfl (by decide) rfl rfl rfl rfl rfl hd hs
theorem x79_28 : XX X d 79 (28, [some (.ref a), l1], st, M) Q = XX X d 79 (29, [some (.ref a), l1], .ref a :: st, M) Q := H_ld rfl rfl rfl rfl rfl
theorem x79_28n : XX X d 79 (28, [some (.null), l1], st, M) Q = XX X d 79 (29, [some (.null), l1], .null :: st, M) Q := H_ld rfl rfl rfl rfl rfl
theorem x79_29 : XX X d 79 (29, L, .ref a :: st, M) Q = yg (M.2.2 a) 8 0 X d 79 32 L st M Q := G_getf rfl (by decide) rfl rfl rfl
theorem x79_32 (hd : 0 < d) (hs : stB st = true) : XX X d 79 (32, L, .ref a :: st, M) Q = (mcl M a = some 6 ∧ CC X (d - 1) 58 [.ref a] M (XC X d 79 32 35 L st Q)) := H_virt [] rfl (by decide) rfl rfl rfl rfl rfl hd hs
theorem x79_35 : XX X d 79 (35, L, [.int (ii p)], M) Q = Q (.inl (some (.int (ii p)))) M := G_ret rfl ⟨⟨⟨rfl, rfl, rfl, by decide⟩, rfl, rfl⟩, rfl, rfl⟩ rfl
theorem e79 : CC X d 79 [.ref a, .int x] M Q = XX X d 79 (0, [some (.ref a), some (.int x)], [], M) Q := H_ent rfl rfl
-- 80 X8_compile ()I
theorem x80_0 : XX X d 80 (0, [some (.ref a), l1, l2], st, M) Q = XX X d 80 (1, [some (.ref a), l1, l2], .ref a :: st, M) Q := H_ld rfl rfl rfl rfl rfl
theorem x80_0n : XX X d 80 (0, [some (.null), l1, l2], st, M) Q = XX X d 80 (1, [some (.null), l1, l2], .null :: st, M) Q := H_ld rfl rfl rfl rfl rfl
theorem x80_1 : XX X d 80 (1, L, .ref a :: st, M) Q = yg (M.2.2 a) 8 2 X d 80 4 L st M Q := G_getf rfl (by decide) rfl rfl rfl
theorem x80_4 (hd : 0 < d) (hs : stB st = true) : XX X d 80 (4, L, .ref a :: st, M) Q = (mcl M a = some 1 ∧ CC X (d - 1) 17 [.ref a] M (XC X d 80 4 7 L st Q)) := H_virt [] rfl (by decide) rfl rfl rfl rfl rfl hd hs
theorem x80_7 (h : -2147483648 ≤ p ∧ p ≤ 2147483647) : XX X d 80 (7, L, .int (ii p) :: st, M) Q = bq (p = 0) X d 80 27 10 L st M Q := H_if rfl ⟨rfl, rfl, rfl, by decide⟩ rfl rfl rfl rfl (D_eq (b := 0) (by omega))
theorem x80_7b : XX X d 80 (7, L, .int (ii (b2i b)) :: st, M) Q = bq (b = false) X d 80 27 10 L st M Q := (x80_7 (b2i_r b)).trans (by rw [b2i_0])
theorem x80_10 : XX X d 80 (10, [some (.ref a), l1, l2], st, M) Q = XX X d 80 (11, [some (.ref a), l1, l2], .ref a :: st, M) Q := H_ld rfl rfl rfl rfl rfl
theorem x80_10n : XX X d 80 (10, [some (.null), l1, l2], st, M) Q = XX X d 80 (11, [some (.null), l1, l2], .null :: st, M) Q := H_ld rfl rfl rfl rfl rfl
theorem x80_11 : XX X d 80 (11, L, .ref a :: st, M) Q = yg (M.2.2 a) 8 0 X d 80 14 L st M Q := G_getf rfl (by decide) rfl rfl rfl
theorem x80_14 (hd : 0 < d) (hs : stB st = true) : XX X d 80 (14, L, .ref a :: st, M) Q = (mcl M a = some 6 ∧ CC X (d - 1) 67 [.ref a] M (XC X d 80 14 17 L st Q)) := H_virt [] rfl (by decide) rfl rfl rfl rfl rfl hd hs
theorem x80_17 (hs : stB st = true) : XX X d 80 (17, L, st, M) Q = Q (.inr 0) (mthr M) := H_thr rfl (by decide) rfl hs
theorem x80_27 : XX X d 80 (27, L, st, M) Q = XX X d 80 (30, L, .ref M.1 :: st, mnew M 7 (.inr (5, [.null, .null, .null, .int (ii 0), .int (ii 0), .int (ii 0), .int (ii 0)]))) Q := H_new rfl (by decide) rfl rfl (by decide) rfl rfl
theorem x80_30 (h : v.category = 1) : XX X d 80 (30, L, v :: st, M) Q = XX X d 80 (31, L, v :: v :: st, M) Q := G_sop rfl ⟨rfl, rfl, rfl, by decide⟩ (if_pos h) rfl
theorem x80_31 : XX X d 80 (31, [some (.ref a), l1, l2], st, M) Q = XX X d 80 (32, [some (.ref a), l1, l2], .ref a :: st, M) Q := H_ld rfl rfl rfl rfl rfl
theorem x80_31n : XX X d 80 (31, [some (.null), l1, l2], st, M) Q = XX X d 80 (32, [some (.null), l1, l2], .null :: st, M) Q := H_ld rfl rfl rfl rfl rfl
theorem x80_32 : XX X d 80 (32, L, .ref a :: st, M) Q = yg (M.2.2 a) 8 0 X d 80 35 L st M Q := G_getf rfl (by decide) rfl rfl rfl
theorem x80_35 {v1 : Value} (hd : 0 < d) (hs : stB st = true) : XX X d 80 (35, L, v1 :: .ref a :: st, M) Q = CC X (d - 1) 43 [.ref a, v1] M (XC X d 80 35 38 L st Q) := H_spec [v1] rfl (by decide) rfl rfl (by decide) rfl rfl hd hs
theorem x80_38 (h : wide (some l0) = false) : XX X d 80 (38, [l0, l1, l2], .ref a :: st, M) Q = XX X d 80 (39, [l0, some (.ref a), l2], st, M) Q := H_st rfl rfl rfl rfl rfl rfl rfl rfl (Or.inr h)
theorem x80_38n (h : wide (some l0) = false) : XX X d 80 (38, [l0, l1, l2], .null :: st, M) Q = XX X d 80 (39, [l0, some (.null), l2], st, M) Q := H_st rfl rfl rfl rfl rfl rfl rfl rfl (Or.inr h)
theorem x80_39 : XX X d 80 (39, [l0, some (.ref a), l2], st, M) Q = XX X d 80 (40, [l0, some (.ref a), l2], .ref a :: st, M) Q := H_ld rfl rfl rfl rfl rfl
theorem x80_39n : XX X d 80 (39, [l0, some (.null), l2], st, M) Q = XX X d 80 (40, [l0, some (.null), l2], .null :: st, M) Q := H_ld rfl rfl rfl rfl rfl
theorem x80_40 (hd : 0 < d) (hs : stB st = true) : XX X d 80 (40, L, .ref a :: st, M) Q = (mcl M a = some 5 ∧ CC X (d - 1) 46 [.ref a] M (XC X d 80 40 43 L st Q)) := H_virt [] rfl (by decide) rfl rfl rfl rfl rfl hd hs
theorem x80_43 (h : wide (some l1) = false) : XX X d 80 (43, [l0, l1, l2], .int x :: st, M) Q = XX X d 80 (44, [l0, l1, some (.int x)], st, M) Q := H_st rfl rfl rfl rfl rfl rfl rfl rfl (Or.inr h)
theorem x80_44 : XX X d 80 (44, [l0, l1, some (.int x)], st, M) Q = XX X d 80 (45, [l0, l1, some (.int x)], .int x :: st, M) Q := H_ld rfl rfl rfl rfl rfl
theorem x80_45 : XX X d 80 (45, L, st, M) Q = XX X d 80 (46, L, .int (ii (-1)) :: st, M) Q := G_cst rfl rfl rfl rfl rfl
theorem x80_46 (h : -2147483648 ≤ p ∧ p ≤ 2147483647 ∧ -2147483648 ≤ q ∧ q ≤ 2147483647) : XX X d 80 (46, L, .int (ii q) :: .int (ii p) :: st, M) Q = bq (p = q) X d 80 91 49 L st M Q := H_if2 rfl ⟨rfl, rfl, rfl, by decide⟩ rfl rfl rfl rfl (D_eq h)
theorem x80_49 : XX X d 80 (49, [some (.ref a), l1, l2], st, M) Q = XX X d 80 (50, [some (.ref a), l1, l2], .ref a :: st, M) Q := H_ld rfl rfl rfl rfl rfl
theorem x80_49n : XX X d 80 (49, [some (.null), l1, l2], st, M) Q = XX X d 80 (50, [some (.null), l1, l2], .null :: st, M) Q := H_ld rfl rfl rfl rfl rfl
theorem x80_50 : XX X d 80 (50, [l0, l1, some (.int x)], st, M) Q = XX X d 80 (51, [l0, l1, some (.int x)], .int x :: st, M) Q := H_ld rfl rfl rfl rfl rfl
theorem x80_51 : XX X d 80 (51, L, v :: .ref a :: st, M) Q = yp (M.2.2 a) a 8 6 v X d 80 54 L st M Q := G_putf rfl (by decide) rfl rfl rfl
theorem x80_54 : XX X d 80 (54, [some (.ref a), l1, l2], st, M) Q = XX X d 80 (55, [some (.ref a), l1, l2], .ref a :: st, M) Q := H_ld rfl rfl rfl rfl rfl
theorem x80_54n : XX X d 80 (54, [some (.null), l1, l2], st, M) Q = XX X d 80 (55, [some (.null), l1, l2], .null :: st, M) Q := H_ld rfl rfl rfl rfl rfl
theorem x80_55 : XX X d 80 (55, [some (.ref a), l1, l2], st, M) Q = XX X d 80 (56, [some (.ref a), l1, l2], .ref a :: st, M) Q := H_ld rfl rfl rfl rfl rfl
theorem x80_55n : XX X d 80 (55, [some (.null), l1, l2], st, M) Q = XX X d 80 (56, [some (.null), l1, l2], .null :: st, M) Q := H_ld rfl rfl rfl rfl rfl
theorem x80_56 : XX X d 80 (56, L, .ref a :: st, M) Q = yg (M.2.2 a) 8 0 X d 80 59 L st M Q := G_getf rfl (by decide) rfl rfl rfl
theorem x80_59 : XX X d 80 (59, [l0, l1, some (.int x)], st, M) Q = XX X d 80 (60, [l0, l1, some (.int x)], .int x :: st, M) Q := H_ld rfl rfl rfl rfl rfl
theorem x80_60 {v1 v2 : Value} (hd : 0 < d) (hs : stB st = true) : XX X d 80 (60, L, v2 :: v1 :: st, M) Q = CC X (d - 1) 128 [v1, v2] M (XC X d 80 60 63 L st Q) := H_static [v1, v2] rfl (by decide) rfl rfl (by decide) rfl rfl hd hs
theorem x80_63 : XX X d 80 (63, L, v :: .ref a :: st, M) Q = yp (M.2.2 a) a 8 7 v X d 80 66 L st M Q := G_putf rfl (by decide) rfl rfl rfl
theorem x80_66 : XX X d 80 (66, [some (.ref a), l1, l2], st, M) Q = XX X d 80 (67, [some (.ref a), l1, l2], .ref a :: st, M) Q := H_ld rfl rfl rfl rfl rfl
theorem x80_66n : XX X d 80 (66, [some (.null), l1, l2], st, M) Q = XX X d 80 (67, [some (.null), l1, l2], .null :: st, M) Q := H_ld rfl rfl rfl rfl rfl
theorem x80_67 : XX X d 80 (67, [l0, some (.ref a), l2], st, M) Q = XX X d 80 (68, [l0, some (.ref a), l2], .ref a :: st, M) Q := H_ld rfl rfl rfl rfl rfl
theorem x80_67n : XX X d 80 (67, [l0, some (.null), l2], st, M) Q = XX X d 80 (68, [l0, some (.null), l2], .null :: st, M) Q := H_ld rfl rfl rfl rfl rfl
theorem x80_68 (hd : 0 < d) (hs : stB st = true) : XX X d 80 (68, L, .ref a :: st, M) Q = (mcl M a = some 5 ∧ CC X (d - 1) 45 [.ref a] M (XC X d 80 68 71 L st Q)) := H_virt [] rfl (by decide) rfl rfl rfl rfl rfl hd hs
theorem x80_71 : XX X d 80 (71, L, v :: .ref a :: st, M) Q = yp (M.2.2 a) a 8 8 v X d 80 74 L st M Q := G_putf rfl (by decide) rfl rfl rfl
theorem x80_74 : XX X d 80 (74, [some (.ref a), l1, l2], st, M) Q = XX X d 80 (75, [some (.ref a), l1, l2], .ref a :: st, M) Q := H_ld rfl rfl rfl rfl rfl
theorem x80_74n : XX X d 80 (74, [some (.null), l1, l2], st, M) Q = XX X d 80 (75, [some (.null), l1, l2], .null :: st, M) Q := H_ld rfl rfl rfl rfl rfl
theorem x80_75 : XX X d 80 (75, L, .ref a :: st, M) Q = yg (M.2.2 a) 8 0 X d 80 78 L st M Q := G_getf rfl (by decide) rfl rfl rfl
theorem x80_78 (hd : 0 < d) (hs : stB st = true) : XX X d 80 (78, L, .ref a :: st, M) Q = (mcl M a = some 6 ∧ CC X (d - 1) 67 [.ref a] M (XC X d 80 78 81 L st Q)) := H_virt [] rfl (by decide) rfl rfl rfl rfl rfl hd hs
theorem x80_81 (hs : stB st = true) : XX X d 80 (81, L, st, M) Q = Q (.inr 1) (mthr M) := H_thr rfl (by decide) rfl hs
theorem x80_91 : XX X d 80 (91, [some (.ref a), l1, l2], st, M) Q = XX X d 80 (92, [some (.ref a), l1, l2], .ref a :: st, M) Q := H_ld rfl rfl rfl rfl rfl
theorem x80_91n : XX X d 80 (91, [some (.null), l1, l2], st, M) Q = XX X d 80 (92, [some (.null), l1, l2], .null :: st, M) Q := H_ld rfl rfl rfl rfl rfl
theorem x80_92 : XX X d 80 (92, L, .ref a :: st, M) Q = yg (M.2.2 a) 8 5 X d 80 95 L st M Q := G_getf rfl (by decide) rfl rfl rfl
theorem x80_95 : XX X d 80 (95, [some (.ref a), l1, l2], st, M) Q = XX X d 80 (96, [some (.ref a), l1, l2], .ref a :: st, M) Q := H_ld rfl rfl rfl rfl rfl
theorem x80_95n : XX X d 80 (95, [some (.null), l1, l2], st, M) Q = XX X d 80 (96, [some (.null), l1, l2], .null :: st, M) Q := H_ld rfl rfl rfl rfl rfl
theorem x80_96 : XX X d 80 (96, L, .ref a :: st, M) Q = yg (M.2.2 a) 8 2 X d 80 99 L st M Q := G_getf rfl (by decide) rfl rfl rfl
theorem x80_99 {v1 : Value} (hd : 0 < d) (hs : stB st = true) : XX X d 80 (99, L, v1 :: .ref a :: st, M) Q = (mcl M a = some 2 ∧ CC X (d - 1) 25 [.ref a, v1] M (XC X d 80 99 102 L st Q)) := H_virt [v1] rfl (by decide) rfl rfl rfl rfl rfl hd hs
theorem x80_102 : XX X d 80 (102, [some (.ref a), l1, l2], st, M) Q = XX X d 80 (103, [some (.ref a), l1, l2], .ref a :: st, M) Q := H_ld rfl rfl rfl rfl rfl
theorem x80_102n : XX X d 80 (102, [some (.null), l1, l2], st, M) Q = XX X d 80 (103, [some (.null), l1, l2], .null :: st, M) Q := H_ld rfl rfl rfl rfl rfl
theorem x80_103 : XX X d 80 (103, L, .ref a :: st, M) Q = yg (M.2.2 a) 8 2 X d 80 106 L st M Q := G_getf rfl (by decide) rfl rfl rfl
theorem x80_106 : XX X d 80 (106, [l0, some (.ref a), l2], st, M) Q = XX X d 80 (107, [l0, some (.ref a), l2], .ref a :: st, M) Q := H_ld rfl rfl rfl rfl rfl
theorem x80_106n : XX X d 80 (106, [l0, some (.null), l2], st, M) Q = XX X d 80 (107, [l0, some (.null), l2], .null :: st, M) Q := H_ld rfl rfl rfl rfl rfl
theorem x80_107 (hd : 0 < d) (hs : stB st = true) : XX X d 80 (107, L, .ref a :: st, M) Q = (mcl M a = some 5 ∧ CC X (d - 1) 44 [.ref a] M (XC X d 80 107 110 L st Q)) := H_virt [] rfl (by decide) rfl rfl rfl rfl rfl hd hs
theorem x80_110 {v1 : Value} (hd : 0 < d) (hs : stB st = true) : XX X d 80 (110, L, v1 :: .ref a :: st, M) Q = (mcl M a = some 1 ∧ CC X (d - 1) 19 [.ref a, v1] M (XC X d 80 110 113 L st Q)) := H_virt [v1] rfl (by decide) rfl rfl rfl rfl rfl hd hs
theorem x80_113 : XX X d 80 (113, [some (.ref a), l1, l2], st, M) Q = XX X d 80 (114, [some (.ref a), l1, l2], .ref a :: st, M) Q := H_ld rfl rfl rfl rfl rfl
theorem x80_113n : XX X d 80 (113, [some (.null), l1, l2], st, M) Q = XX X d 80 (114, [some (.null), l1, l2], .null :: st, M) Q := H_ld rfl rfl rfl rfl rfl
theorem x80_114 : XX X d 80 (114, L, .ref a :: st, M) Q = yg (M.2.2 a) 8 0 X d 80 117 L st M Q := G_getf rfl (by decide) rfl rfl rfl
theorem x80_117 (hd : 0 < d) (hs : stB st = true) : XX X d 80 (117, L, .ref a :: st, M) Q = (mcl M a = some 6 ∧ CC X (d - 1) 67 [.ref a] M (XC X d 80 117 120 L st Q)) := H_virt [] rfl (by decide) rfl rfl rfl rfl rfl hd hs
theorem x80_120 : XX X d 80 (120, [some (.ref a), l1, l2], st, M) Q = XX X d 80 (121, [some (.ref a), l1, l2], .ref a :: st, M) Q := H_ld rfl rfl rfl rfl rfl
theorem x80_120n : XX X d 80 (120, [some (.null), l1, l2], st, M) Q = XX X d 80 (121, [some (.null), l1, l2], .null :: st, M) Q := H_ld rfl rfl rfl rfl rfl
theorem x80_121 : XX X d 80 (121, L, .ref a :: st, M) Q = yg (M.2.2 a) 8 2 X d 80 124 L st M Q := G_getf rfl (by decide) rfl rfl rfl
theorem x80_124 (hd : 0 < d) (hs : stB st = true) : XX X d 80 (124, L, .ref a :: st, M) Q = (mcl M a = some 1 ∧ CC X (d - 1) 16 [.ref a] M (XC X d 80 124 127 L st Q)) := H_virt [] rfl (by decide) rfl rfl rfl rfl rfl hd hs
theorem x80_127 : XX X d 80 (127, L, st, M) Q = XX X d 80 (128, L, .int (ii 1) :: st, M) Q := G_cst rfl rfl rfl rfl rfl
theorem x80_128 : XX X d 80 (128, L, .int (ii q) :: .int (ii p) :: st, M) Q = XX X d 80 (129, L, .int (ii (p - q)) :: st, M) Q := H_sub rfl (by decide) rfl
theorem x80_129 : XX X d 80 (129, L, [.int (ii p)], M) Q = Q (.inl (some (.int (ii p)))) M := G_ret rfl ⟨⟨⟨rfl, rfl, rfl, by decide⟩, rfl, rfl⟩, rfl, rfl⟩ rfl
theorem e80 : CC X d 80 [.ref a] M Q = XX X d 80 (0, [some (.ref a), none, none], [], M) Q := H_ent rfl rfl
-- 81 X8_removePattern (I)I
theorem x81_0 : XX X d 81 (0, [some (.ref a), l1], st, M) Q = XX X d 81 (1, [some (.ref a), l1], .ref a :: st, M) Q := H_ld rfl rfl rfl rfl rfl
theorem x81_0n : XX X d 81 (0, [some (.null), l1], st, M) Q = XX X d 81 (1, [some (.null), l1], .null :: st, M) Q := H_ld rfl rfl rfl rfl rfl
theorem x81_1 : XX X d 81 (1, [l0, some (.int x)], st, M) Q = XX X d 81 (2, [l0, some (.int x)], .int x :: st, M) Q := H_ld rfl rfl rfl rfl rfl
theorem x81_2 {v1 : Value} (hd : 0 < d) (hs : stB st = true) : XX X d 81 (2, L, v1 :: .ref a :: st, M) Q = (mcl M a = some 8 ∧ CC X (d - 1) 123 [.ref a, v1] M (XC X d 81 2 5 L st Q)) := H_virt [v1] rfl (by decide) rfl rfl rfl rfl rfl hd hs
theorem x81_5 (h : v.category = 1) : XX X d 81 (5, L, v :: st, M) Q = XX X d 81 (6, L, st, M) Q := G_sop rfl ⟨rfl, rfl, rfl, by decide⟩ (if_pos h) rfl
theorem x81_6 : XX X d 81 (6, [some (.ref a), l1], st, M) Q = XX X d 81 (7, [some (.ref a), l1], .ref a :: st, M) Q := H_ld rfl rfl rfl rfl rfl
theorem x81_6n : XX X d 81 (6, [some (.null), l1], st, M) Q = XX X d 81 (7, [some (.null), l1], .null :: st, M) Q := H_ld rfl rfl rfl rfl rfl
theorem x81_7 : XX X d 81 (7, L, .ref a :: st, M) Q = yg (M.2.2 a) 8 5 X d 81 10 L st M Q := G_getf rfl (by decide) rfl rfl rfl
theorem x81_10 : XX X d 81 (10, [some (.ref a), l1], st, M) Q = XX X d 81 (11, [some (.ref a), l1], .ref a :: st, M) Q := H_ld rfl rfl rfl rfl rfl
theorem x81_10n : XX X d 81 (10, [some (.null), l1], st, M) Q = XX X d 81 (11, [some (.null), l1], .null :: st, M) Q := H_ld rfl rfl rfl rfl rfl
theorem x81_11 : XX X d 81 (11, L, .ref a :: st, M) Q = yg (M.2.2 a) 8 2 X d 81 14 L st M Q := G_getf rfl (by decide) rfl rfl rfl
theorem x81_14 {v1 : Value} (hd : 0 < d) (hs : stB st = true) : XX X d 81 (14, L, v1 :: .ref a :: st, M) Q = (mcl M a = some 2 ∧ CC X (d - 1) 25 [.ref a, v1] M (XC X d 81 14 17 L st Q)) := H_virt [v1] rfl (by decide) rfl rfl rfl rfl rfl hd hs
theorem x81_17 : XX X d 81 (17, [some (.ref a), l1], st, M) Q = XX X d 81 (18, [some (.ref a), l1], .ref a :: st, M) Q := H_ld rfl rfl rfl rfl rfl
theorem x81_17n : XX X d 81 (17, [some (.null), l1], st, M) Q = XX X d 81 (18, [some (.null), l1], .null :: st, M) Q := H_ld rfl rfl rfl rfl rfl
theorem x81_18 : XX X d 81 (18, L, .ref a :: st, M) Q = yg (M.2.2 a) 8 2 X d 81 21 L st M Q := G_getf rfl (by decide) rfl rfl rfl
theorem x81_21 : XX X d 81 (21, [l0, some (.int x)], st, M) Q = XX X d 81 (22, [l0, some (.int x)], .int x :: st, M) Q := H_ld rfl rfl rfl rfl rfl
theorem x81_22 {v1 : Value} (hd : 0 < d) (hs : stB st = true) : XX X d 81 (22, L, v1 :: .ref a :: st, M) Q = (mcl M a = some 1 ∧ CC X (d - 1) 20 [.ref a, v1] M (XC X d 81 22 25 L st Q)) := H_virt [v1] rfl (by decide) rfl rfl rfl rfl rfl hd hs
theorem x81_25 : XX X d 81 (25, [some (.ref a), l1], st, M) Q = XX X d 81 (26, [some (.ref a), l1], .ref a :: st, M) Q := H_ld rfl rfl rfl rfl rfl
theorem x81_25n : XX X d 81 (25, [some (.null), l1], st, M) Q = XX X d 81 (26, [some (.null), l1], .null :: st, M) Q := H_ld rfl rfl rfl rfl rfl
theorem x81_26 : XX X d 81 (26, L, .ref a :: st, M) Q = yg (M.2.2 a) 8 2 X d 81 29 L st M Q := G_getf rfl (by decide) rfl rfl rfl
theorem x81_29 (hd : 0 < d) (hs : stB st = true) : XX X d 81 (29, L, .ref a :: st, M) Q = (mcl M a = some 1 ∧ CC X (d - 1) 16 [.ref a] M (XC X d 81 29 32 L st Q)) := H_virt [] rfl (by decide) rfl rfl rfl rfl rfl hd hs
theorem x81_32 : XX X d 81 (32, L, [.int (ii p)], M) Q = Q (.inl (some (.int (ii p)))) M := G_ret rfl ⟨⟨⟨rfl, rfl, rfl, by decide⟩, rfl, rfl⟩, rfl, rfl⟩ rfl
theorem e81 : CC X d 81 [.ref a, .int x] M Q = XX X d 81 (0, [some (.ref a), some (.int x)], [], M) Q := H_ent rfl rfl
-- 82 X8_patternCount ()I
theorem x82_0 : XX X d 82 (0, [some (.ref a)], st, M) Q = XX X d 82 (1, [some (.ref a)], .ref a :: st, M) Q := H_ld rfl rfl rfl rfl rfl
theorem x82_0n : XX X d 82 (0, [some (.null)], st, M) Q = XX X d 82 (1, [some (.null)], .null :: st, M) Q := H_ld rfl rfl rfl rfl rfl
theorem x82_1 : XX X d 82 (1, L, .ref a :: st, M) Q = yg (M.2.2 a) 8 2 X d 82 4 L st M Q := G_getf rfl (by decide) rfl rfl rfl
theorem x82_4 (hd : 0 < d) (hs : stB st = true) : XX X d 82 (4, L, .ref a :: st, M) Q = (mcl M a = some 1 ∧ CC X (d - 1) 16 [.ref a] M (XC X d 82 4 7 L st Q)) := H_virt [] rfl (by decide) rfl rfl rfl rfl rfl hd hs
theorem x82_7 : XX X d 82 (7, L, [.int (ii p)], M) Q = Q (.inl (some (.int (ii p)))) M := G_ret rfl ⟨⟨⟨rfl, rfl, rfl, by decide⟩, rfl, rfl⟩, rfl, rfl⟩ rfl
theorem e82 : CC X d 82 [.ref a] M Q = XX X d 82 (0, [some (.ref a)], [], M) Q := H_ent rfl rfl
-- 83 X8_patternLength (I)I
theorem x83_0 : XX X d 83 (0, [some (.ref a), l1], st, M) Q = XX X d 83 (1, [some (.ref a), l1], .ref a :: st, M) Q := H_ld rfl rfl rfl rfl rfl
theorem x83_0n : XX X d 83 (0, [some (.null), l1], st, M) Q = XX X d 83 (1, [some (.null), l1], .null :: st, M) Q := H_ld rfl rfl rfl rfl rfl
theorem x83_1 : XX X d 83 (1, [l0, some (.int x)], st, M) Q = XX X d 83 (2, [l0, some (.int x)], .int x :: st, M) Q := H_ld rfl rfl rfl rfl rfl
theorem x83_2 {v1 : Value} (hd : 0 < d) (hs : stB st = true) : XX X d 83 (2, L, v1 :: .ref a :: st, M) Q = (mcl M a = some 8 ∧ CC X (d - 1) 123 [.ref a, v1] M (XC X d 83 2 5 L st Q)) := H_virt [v1] rfl (by decide) rfl rfl rfl rfl rfl hd hs
theorem x83_5 : XX X d 83 (5, L, .ref a :: st, M) Q = yg (M.2.2 a) 4 0 X d 83 8 L st M Q := G_getf rfl (by decide) rfl rfl rfl
theorem x83_8 (hd : 0 < d) (hs : stB st = true) : XX X d 83 (8, L, .ref a :: st, M) Q = (mcl M a = some 6 ∧ CC X (d - 1) 58 [.ref a] M (XC X d 83 8 11 L st Q)) := H_virt [] rfl (by decide) rfl rfl rfl rfl rfl hd hs
theorem x83_11 : XX X d 83 (11, L, [.int (ii p)], M) Q = Q (.inl (some (.int (ii p)))) M := G_ret rfl ⟨⟨⟨rfl, rfl, rfl, by decide⟩, rfl, rfl⟩, rfl, rfl⟩ rfl
theorem e83 : CC X d 83 [.ref a, .int x] M Q = XX X d 83 (0, [some (.ref a), some (.int x)], [], M) Q := H_ent rfl rfl
-- 84 X8_patternCharacter (II)C
theorem x84_0 : XX X d 84 (0, [some (.ref a), l1, l2], st, M) Q = XX X d 84 (1, [some (.ref a), l1, l2], .ref a :: st, M) Q := H_ld rfl rfl rfl rfl rfl
theorem x84_0n : XX X d 84 (0, [some (.null), l1, l2], st, M) Q = XX X d 84 (1, [some (.null), l1, l2], .null :: st, M) Q := H_ld rfl rfl rfl rfl rfl
theorem x84_1 : XX X d 84 (1, [l0, some (.int x), l2], st, M) Q = XX X d 84 (2, [l0, some (.int x), l2], .int x :: st, M) Q := H_ld rfl rfl rfl rfl rfl
theorem x84_2 {v1 : Value} (hd : 0 < d) (hs : stB st = true) : XX X d 84 (2, L, v1 :: .ref a :: st, M) Q = (mcl M a = some 8 ∧ CC X (d - 1) 123 [.ref a, v1] M (XC X d 84 2 5 L st Q)) := H_virt [v1] rfl (by decide) rfl rfl rfl rfl rfl hd hs
theorem x84_5 : XX X d 84 (5, L, .ref a :: st, M) Q = yg (M.2.2 a) 4 0 X d 84 8 L st M Q := G_getf rfl (by decide) rfl rfl rfl
theorem x84_8 : XX X d 84 (8, [l0, l1, some (.int x)], st, M) Q = XX X d 84 (9, [l0, l1, some (.int x)], .int x :: st, M) Q := H_ld rfl rfl rfl rfl rfl
theorem x84_9 {v1 v2 : Value} (hd : 0 < d) (hs : stB st = true) : XX X d 84 (9, L, v2 :: v1 :: st, M) Q = CC X (d - 1) 124 [v1, v2] M (XC X d 84 9 12 L st Q) := H_static [v1, v2] rfl (by decide) rfl rfl (by decide) rfl rfl hd hs
theorem x84_12 (h : 0 ≤ p ∧ p ≤ 65535) : XX X d 84 (12, L, [.int (ii p)], M) Q = Q (.inl (some (.int (ii p)))) M := G_ret rfl ⟨⟨⟨rfl, rfl, rfl, by decide⟩, rfl, rfl⟩, rfl, rfl⟩ (cz_ok h)
theorem e84 : CC X d 84 [.ref a, .int x, .int x2] M Q = XX X d 84 (0, [some (.ref a), some (.int x), some (.int x2)], [], M) Q := H_ent rfl rfl
-- 85 X8_groupCount (I)I
theorem x85_0 : XX X d 85 (0, [some (.ref a), l1], st, M) Q = XX X d 85 (1, [some (.ref a), l1], .ref a :: st, M) Q := H_ld rfl rfl rfl rfl rfl
theorem x85_0n : XX X d 85 (0, [some (.null), l1], st, M) Q = XX X d 85 (1, [some (.null), l1], .null :: st, M) Q := H_ld rfl rfl rfl rfl rfl
theorem x85_1 : XX X d 85 (1, [l0, some (.int x)], st, M) Q = XX X d 85 (2, [l0, some (.int x)], .int x :: st, M) Q := H_ld rfl rfl rfl rfl rfl
theorem x85_2 {v1 : Value} (hd : 0 < d) (hs : stB st = true) : XX X d 85 (2, L, v1 :: .ref a :: st, M) Q = (mcl M a = some 8 ∧ CC X (d - 1) 123 [.ref a, v1] M (XC X d 85 2 5 L st Q)) := H_virt [v1] rfl (by decide) rfl rfl rfl rfl rfl hd hs
theorem x85_5 : XX X d 85 (5, L, .ref a :: st, M) Q = yg (M.2.2 a) 4 4 X d 85 8 L st M Q := G_getf rfl (by decide) rfl rfl rfl
theorem x85_8 : XX X d 85 (8, L, [.int (ii p)], M) Q = Q (.inl (some (.int (ii p)))) M := G_ret rfl ⟨⟨⟨rfl, rfl, rfl, by decide⟩, rfl, rfl⟩, rfl, rfl⟩ rfl
theorem e85 : CC X d 85 [.ref a, .int x] M Q = XX X d 85 (0, [some (.ref a), some (.int x)], [], M) Q := H_ent rfl rfl
-- 86 X8_minimumLength (I)I
theorem x86_0 : XX X d 86 (0, [some (.ref a), l1], st, M) Q = XX X d 86 (1, [some (.ref a), l1], .ref a :: st, M) Q := H_ld rfl rfl rfl rfl rfl
theorem x86_0n : XX X d 86 (0, [some (.null), l1], st, M) Q = XX X d 86 (1, [some (.null), l1], .null :: st, M) Q := H_ld rfl rfl rfl rfl rfl
theorem x86_1 : XX X d 86 (1, [l0, some (.int x)], st, M) Q = XX X d 86 (2, [l0, some (.int x)], .int x :: st, M) Q := H_ld rfl rfl rfl rfl rfl
theorem x86_2 {v1 : Value} (hd : 0 < d) (hs : stB st = true) : XX X d 86 (2, L, v1 :: .ref a :: st, M) Q = (mcl M a = some 8 ∧ CC X (d - 1) 123 [.ref a, v1] M (XC X d 86 2 5 L st Q)) := H_virt [v1] rfl (by decide) rfl rfl rfl rfl rfl hd hs
theorem x86_5 : XX X d 86 (5, L, .ref a :: st, M) Q = yg (M.2.2 a) 4 5 X d 86 8 L st M Q := G_getf rfl (by decide) rfl rfl rfl
theorem x86_8 : XX X d 86 (8, L, [.int (ii p)], M) Q = Q (.inl (some (.int (ii p)))) M := G_ret rfl ⟨⟨⟨rfl, rfl, rfl, by decide⟩, rfl, rfl⟩, rfl, rfl⟩ rfl
theorem e86 : CC X d 86 [.ref a, .int x] M Q = XX X d 86 (0, [some (.ref a), some (.int x)], [], M) Q := H_ent rfl rfl
-- 87 X8_maximumLength (I)I
theorem x87_0 : XX X d 87 (0, [some (.ref a), l1, l2], st, M) Q = XX X d 87 (1, [some (.ref a), l1, l2], .ref a :: st, M) Q := H_ld rfl rfl rfl rfl rfl
theorem x87_0n : XX X d 87 (0, [some (.null), l1, l2], st, M) Q = XX X d 87 (1, [some (.null), l1, l2], .null :: st, M) Q := H_ld rfl rfl rfl rfl rfl
theorem x87_1 : XX X d 87 (1, [l0, some (.int x), l2], st, M) Q = XX X d 87 (2, [l0, some (.int x), l2], .int x :: st, M) Q := H_ld rfl rfl rfl rfl rfl
theorem x87_2 {v1 : Value} (hd : 0 < d) (hs : stB st = true) : XX X d 87 (2, L, v1 :: .ref a :: st, M) Q = (mcl M a = some 8 ∧ CC X (d - 1) 123 [.ref a, v1] M (XC X d 87 2 5 L st Q)) := H_virt [v1] rfl (by decide) rfl rfl rfl rfl rfl hd hs
theorem x87_5 : XX X d 87 (5, L, .ref a :: st, M) Q = yg (M.2.2 a) 4 6 X d 87 8 L st M Q := G_getf rfl (by decide) rfl rfl rfl
theorem x87_8 (h : wide (some l1) = false) : XX X d 87 (8, [l0, l1, l2], .int x :: st, M) Q = XX X d 87 (9, [l0, l1, some (.int x)], st, M) Q := H_st rfl rfl rfl rfl rfl rfl rfl rfl (Or.inr h)
theorem x87_9 : XX X d 87 (9, [l0, l1, some (.int x)], st, M) Q = XX X d 87 (10, [l0, l1, some (.int x)], .int x :: st, M) Q := H_ld rfl rfl rfl rfl rfl
theorem x87_10 : XX X d 87 (10, L, st, M) Q = XX X d 87 (12, L, .int (ii 1000000) :: st, M) Q := G_cst rfl rfl rfl rfl rfl
theorem x87_12 (h : -2147483648 ≤ p ∧ p ≤ 2147483647 ∧ -2147483648 ≤ q ∧ q ≤ 2147483647) : XX X d 87 (12, L, .int (ii q) :: .int (ii p) :: st, M) Q = bq (p < q) X d 87 25 15 L st M Q := H_if2 rfl ⟨rfl, rfl, rfl, by decide⟩ rfl rfl rfl rfl (D_lt h)
theorem x87_15 (hs : stB st = true) : XX X d 87 (15, L, st, M) Q = Q (.inr 3) (mthr M) := H_thr rfl (by decide) rfl hs
theorem x87_25 : XX X d 87 (25, [l0, l1, some (.int x)], st, M) Q = XX X d 87 (26, [l0, l1, some (.int x)], .int x :: st, M) Q := H_ld rfl rfl rfl rfl rfl
theorem x87_26 : XX X d 87 (26, L, [.int (ii p)], M) Q = Q (.inl (some (.int (ii p)))) M := G_ret rfl ⟨⟨⟨rfl, rfl, rfl, by decide⟩, rfl, rfl⟩, rfl, rfl⟩ rfl
theorem e87 : CC X d 87 [.ref a, .int x] M Q = XX X d 87 (0, [some (.ref a), some (.int x), none], [], M) Q := H_ent rfl rfl
-- 88 X8_faultPosition ()I
theorem x88_0 : XX X d 88 (0, [some (.ref a)], st, M) Q = XX X d 88 (1, [some (.ref a)], .ref a :: st, M) Q := H_ld rfl rfl rfl rfl rfl
theorem x88_0n : XX X d 88 (0, [some (.null)], st, M) Q = XX X d 88 (1, [some (.null)], .null :: st, M) Q := H_ld rfl rfl rfl rfl rfl
theorem x88_1 (hd : 0 < d) (hs : stB st = true) : XX X d 88 (1, L, .ref a :: st, M) Q = (mcl M a = some 8 ∧ CC X (d - 1) 125 [.ref a] M (XC X d 88 1 4 L st Q)) := H_virt [] rfl (by decide) rfl rfl rfl rfl rfl hd hs
theorem x88_4 : XX X d 88 (4, [some (.ref a)], st, M) Q = XX X d 88 (5, [some (.ref a)], .ref a :: st, M) Q := H_ld rfl rfl rfl rfl rfl
theorem x88_4n : XX X d 88 (4, [some (.null)], st, M) Q = XX X d 88 (5, [some (.null)], .null :: st, M) Q := H_ld rfl rfl rfl rfl rfl
theorem x88_5 : XX X d 88 (5, L, .ref a :: st, M) Q = yg (M.2.2 a) 8 6 X d 88 8 L st M Q := G_getf rfl (by decide) rfl rfl rfl
theorem x88_8 : XX X d 88 (8, L, [.int (ii p)], M) Q = Q (.inl (some (.int (ii p)))) M := G_ret rfl ⟨⟨⟨rfl, rfl, rfl, by decide⟩, rfl, rfl⟩, rfl, rfl⟩ rfl
theorem e88 : CC X d 88 [.ref a] M Q = XX X d 88 (0, [some (.ref a)], [], M) Q := H_ent rfl rfl
-- 89 X8_faultKind ()I
theorem x89_0 : XX X d 89 (0, [some (.ref a)], st, M) Q = XX X d 89 (1, [some (.ref a)], .ref a :: st, M) Q := H_ld rfl rfl rfl rfl rfl
theorem x89_0n : XX X d 89 (0, [some (.null)], st, M) Q = XX X d 89 (1, [some (.null)], .null :: st, M) Q := H_ld rfl rfl rfl rfl rfl
theorem x89_1 (hd : 0 < d) (hs : stB st = true) : XX X d 89 (1, L, .ref a :: st, M) Q = (mcl M a = some 8 ∧ CC X (d - 1) 125 [.ref a] M (XC X d 89 1 4 L st Q)) := H_virt [] rfl (by decide) rfl rfl rfl rfl rfl hd hs
theorem x89_4 : XX X d 89 (4, [some (.ref a)], st, M) Q = XX X d 89 (5, [some (.ref a)], .ref a :: st, M) Q := H_ld rfl rfl rfl rfl rfl
theorem x89_4n : XX X d 89 (4, [some (.null)], st, M) Q = XX X d 89 (5, [some (.null)], .null :: st, M) Q := H_ld rfl rfl rfl rfl rfl
theorem x89_5 : XX X d 89 (5, L, .ref a :: st, M) Q = yg (M.2.2 a) 8 7 X d 89 8 L st M Q := G_getf rfl (by decide) rfl rfl rfl
theorem x89_8 : XX X d 89 (8, L, [.int (ii p)], M) Q = Q (.inl (some (.int (ii p)))) M := G_ret rfl ⟨⟨⟨rfl, rfl, rfl, by decide⟩, rfl, rfl⟩, rfl, rfl⟩ rfl
theorem e89 : CC X d 89 [.ref a] M Q = XX X d 89 (0, [some (.ref a)], [], M) Q := H_ent rfl rfl
-- 90 X8_faultDepth ()I
theorem x90_0 : XX X d 90 (0, [some (.ref a)], st, M) Q = XX X d 90 (1, [some (.ref a)], .ref a :: st, M) Q := H_ld rfl rfl rfl rfl rfl
theorem x90_0n : XX X d 90 (0, [some (.null)], st, M) Q = XX X d 90 (1, [some (.null)], .null :: st, M) Q := H_ld rfl rfl rfl rfl rfl
theorem x90_1 (hd : 0 < d) (hs : stB st = true) : XX X d 90 (1, L, .ref a :: st, M) Q = (mcl M a = some 8 ∧ CC X (d - 1) 125 [.ref a] M (XC X d 90 1 4 L st Q)) := H_virt [] rfl (by decide) rfl rfl rfl rfl rfl hd hs
theorem x90_4 : XX X d 90 (4, [some (.ref a)], st, M) Q = XX X d 90 (5, [some (.ref a)], .ref a :: st, M) Q := H_ld rfl rfl rfl rfl rfl
theorem x90_4n : XX X d 90 (4, [some (.null)], st, M) Q = XX X d 90 (5, [some (.null)], .null :: st, M) Q := H_ld rfl rfl rfl rfl rfl
theorem x90_5 : XX X d 90 (5, L, .ref a :: st, M) Q = yg (M.2.2 a) 8 8 X d 90 8 L st M Q := G_getf rfl (by decide) rfl rfl rfl
theorem x90_8 : XX X d 90 (8, L, [.int (ii p)], M) Q = Q (.inl (some (.int (ii p)))) M := G_ret rfl ⟨⟨⟨rfl, rfl, rfl, by decide⟩, rfl, rfl⟩, rfl, rfl⟩ rfl
theorem e90 : CC X d 90 [.ref a] M Q = XX X d 90 (0, [some (.ref a)], [], M) Q := H_ent rfl rfl
-- 91 X8_typeText (C)I
theorem x91_0 : XX X d 91 (0, [l0, some (.int x)], st, M) Q = XX X d 91 (1, [l0, some (.int x)], .int x :: st, M) Q := H_ld rfl rfl rfl rfl rfl
theorem x91_1 {v1 : Value} (hd : 0 < d) (hs : stB st = true) : XX X d 91 (1, L, v1 :: st, M) Q = CC X (d - 1) 126 [v1] M (XC X d 91 1 4 L st Q) := H_static [v1] rfl (by decide) rfl rfl (by decide) rfl rfl hd hs
theorem x91_4 : XX X d 91 (4, [some (.ref a), l1], st, M) Q = XX X d 91 (5, [some (.ref a), l1], .ref a :: st, M) Q := H_ld rfl rfl rfl rfl rfl
theorem x91_4n : XX X d 91 (4, [some (.null), l1], st, M) Q = XX X d 91 (5, [some (.null), l1], .null :: st, M) Q := H_ld rfl rfl rfl rfl rfl
theorem x91_5 : XX X d 91 (5, L, .ref a :: st, M) Q = yg (M.2.2 a) 8 1 X d 91 8 L st M Q := G_getf rfl (by decide) rfl rfl rfl
theorem x91_8 (hd : 0 < d) (hs : stB st = true) : XX X d 91 (8, L, .ref a :: st, M) Q = (mcl M a = some 6 ∧ CC X (d - 1) 59 [.ref a] M (XC X d 91 8 11 L st Q)) := H_virt [] rfl (by decide) rfl rfl rfl rfl rfl hd hs
theorem x91_11 (h : -2147483648 ≤ p ∧ p ≤ 2147483647) : XX X d 91 (11, L, .int (ii p) :: st, M) Q = bq (p = 0) X d 91 24 14 L st M Q := H_if rfl ⟨rfl, rfl, rfl, by decide⟩ rfl rfl rfl rfl (D_eq (b := 0) (by omega))
theorem x91_11b : XX X d 91 (11, L, .int (ii (b2i b)) :: st, M) Q = bq (b = false) X d 91 24 14 L st M Q := (x91_11 (b2i_r b)).trans (by rw [b2i_0])
theorem x91_14 (hs : stB st = true) : XX X d 91 (14, L, st, M) Q = Q (.inr 0) (mthr M) := H_thr rfl (by decide) rfl hs
theorem x91_24 : XX X d 91 (24, [some (.ref a), l1], st, M) Q = XX X d 91 (25, [some (.ref a), l1], .ref a :: st, M) Q := H_ld rfl rfl rfl rfl rfl
theorem x91_24n : XX X d 91 (24, [some (.null), l1], st, M) Q = XX X d 91 (25, [some (.null), l1], .null :: st, M) Q := H_ld rfl rfl rfl rfl rfl
theorem x91_25 : XX X d 91 (25, L, .ref a :: st, M) Q = yg (M.2.2 a) 8 1 X d 91 28 L st M Q := G_getf rfl (by decide) rfl rfl rfl
theorem x91_28 : XX X d 91 (28, [l0, some (.int x)], st, M) Q = XX X d 91 (29, [l0, some (.int x)], .int x :: st, M) Q := H_ld rfl rfl rfl rfl rfl
theorem x91_29 {v1 : Value} (hd : 0 < d) (hs : stB st = true) : XX X d 91 (29, L, v1 :: .ref a :: st, M) Q = (mcl M a = some 6 ∧ CC X (d - 1) 63 [.ref a, v1] M (XC X d 91 29 32 L st Q)) := H_virt [v1] rfl (by decide) rfl rfl rfl rfl rfl hd hs
theorem x91_32 : XX X d 91 (32, [some (.ref a), l1], st, M) Q = XX X d 91 (33, [some (.ref a), l1], .ref a :: st, M) Q := H_ld rfl rfl rfl rfl rfl
theorem x91_32n : XX X d 91 (32, [some (.null), l1], st, M) Q = XX X d 91 (33, [some (.null), l1], .null :: st, M) Q := H_ld rfl rfl rfl rfl rfl
theorem x91_33 : XX X d 91 (33, L, .ref a :: st, M) Q = yg (M.2.2 a) 8 1 X d 91 36 L st M Q := G_getf rfl (by decide) rfl rfl rfl
theorem x91_36 (hd : 0 < d) (hs : stB st = true) : XX X d 91 (36, L, .ref a :: st, M) Q = (mcl M a = some 6 ∧ CC X (d - 1) 58 [.ref a] M (XC X d 91 36 39 L st Q)) := H_virt [] rfl (by decide) rfl rfl rfl rfl rfl hd hs
theorem x91_39 : XX X d 91 (39, L, [.int (ii p)], M) Q = Q (.inl (some (.int (ii p)))) M := G_ret rfl ⟨⟨⟨rfl, rfl, rfl, by decide⟩, rfl, rfl⟩, rfl, rfl⟩ rfl
theorem e91 : CC X d 91 [.ref a, .int x] M Q = XX X d 91 (0, [some (.ref a), some (.int x)], [], M) Q := H_ent rfl rfl
-- 92 X8_setText ()I
theorem x92_0 : XX X d 92 (0, [some (.ref a)], st, M) Q = XX X d 92 (1, [some (.ref a)], .ref a :: st, M) Q := H_ld rfl rfl rfl rfl rfl
theorem x92_0n : XX X d 92 (0, [some (.null)], st, M) Q = XX X d 92 (1, [some (.null)], .null :: st, M) Q := H_ld rfl rfl rfl rfl rfl
theorem x92_1 : XX X d 92 (1, L, .ref a :: st, M) Q = yg (M.2.2 a) 8 5 X d 92 4 L st M Q := G_getf rfl (by decide) rfl rfl rfl
theorem x92_4 : XX X d 92 (4, [some (.ref a)], st, M) Q = XX X d 92 (5, [some (.ref a)], .ref a :: st, M) Q := H_ld rfl rfl rfl rfl rfl
theorem x92_4n : XX X d 92 (4, [some (.null)], st, M) Q = XX X d 92 (5, [some (.null)], .null :: st, M) Q := H_ld rfl rfl rfl rfl rfl
theorem x92_5 : XX X d 92 (5, L, .ref a :: st, M) Q = yg (M.2.2 a) 8 2 X d 92 8 L st M Q := G_getf rfl (by decide) rfl rfl rfl
theorem x92_8 {v1 : Value} (hd : 0 < d) (hs : stB st = true) : XX X d 92 (8, L, v1 :: .ref a :: st, M) Q = (mcl M a = some 2 ∧ CC X (d - 1) 25 [.ref a, v1] M (XC X d 92 8 11 L st Q)) := H_virt [v1] rfl (by decide) rfl rfl rfl rfl rfl hd hs
theorem x92_11 : XX X d 92 (11, [some (.ref a)], st, M) Q = XX X d 92 (12, [some (.ref a)], .ref a :: st, M) Q := H_ld rfl rfl rfl rfl rfl
theorem x92_11n : XX X d 92 (11, [some (.null)], st, M) Q = XX X d 92 (12, [some (.null)], .null :: st, M) Q := H_ld rfl rfl rfl rfl rfl
theorem x92_12 : XX X d 92 (12, L, .ref a :: st, M) Q = yg (M.2.2 a) 8 2 X d 92 15 L st M Q := G_getf rfl (by decide) rfl rfl rfl
theorem x92_15 : XX X d 92 (15, L, .ref a :: st, M) Q = yg (M.2.2 a) 1 2 X d 92 18 L st M Q := G_getf rfl (by decide) rfl rfl rfl
theorem x92_18 : XX X d 92 (18, [some (.ref a)], st, M) Q = XX X d 92 (19, [some (.ref a)], .ref a :: st, M) Q := H_ld rfl rfl rfl rfl rfl
theorem x92_18n : XX X d 92 (18, [some (.null)], st, M) Q = XX X d 92 (19, [some (.null)], .null :: st, M) Q := H_ld rfl rfl rfl rfl rfl
theorem x92_19 : XX X d 92 (19, L, .ref a :: st, M) Q = yg (M.2.2 a) 8 1 X d 92 22 L st M Q := G_getf rfl (by decide) rfl rfl rfl
theorem x92_22 {v1 : Value} (hd : 0 < d) (hs : stB st = true) : XX X d 92 (22, L, v1 :: .ref a :: st, M) Q = (mcl M a = some 6 ∧ CC X (d - 1) 69 [.ref a, v1] M (XC X d 92 22 25 L st Q)) := H_virt [v1] rfl (by decide) rfl rfl rfl rfl rfl hd hs
theorem x92_25 : XX X d 92 (25, [some (.ref a)], st, M) Q = XX X d 92 (26, [some (.ref a)], .ref a :: st, M) Q := H_ld rfl rfl rfl rfl rfl
theorem x92_25n : XX X d 92 (25, [some (.null)], st, M) Q = XX X d 92 (26, [some (.null)], .null :: st, M) Q := H_ld rfl rfl rfl rfl rfl
theorem x92_26 : XX X d 92 (26, L, .ref a :: st, M) Q = yg (M.2.2 a) 8 1 X d 92 29 L st M Q := G_getf rfl (by decide) rfl rfl rfl
theorem x92_29 (hd : 0 < d) (hs : stB st = true) : XX X d 92 (29, L, .ref a :: st, M) Q = (mcl M a = some 6 ∧ CC X (d - 1) 67 [.ref a] M (XC X d 92 29 32 L st Q)) := H_virt [] rfl (by decide) rfl rfl rfl rfl rfl hd hs
theorem x92_32 : XX X d 92 (32, [some (.ref a)], st, M) Q = XX X d 92 (33, [some (.ref a)], .ref a :: st, M) Q := H_ld rfl rfl rfl rfl rfl
theorem x92_32n : XX X d 92 (32, [some (.null)], st, M) Q = XX X d 92 (33, [some (.null)], .null :: st, M) Q := H_ld rfl rfl rfl rfl rfl
theorem x92_33 : XX X d 92 (33, L, .ref a :: st, M) Q = yg (M.2.2 a) 8 2 X d 92 36 L st M Q := G_getf rfl (by decide) rfl rfl rfl
theorem x92_36 : XX X d 92 (36, L, .ref a :: st, M) Q = yg (M.2.2 a) 1 2 X d 92 39 L st M Q := G_getf rfl (by decide) rfl rfl rfl
theorem x92_39 (hd : 0 < d) (hs : stB st = true) : XX X d 92 (39, L, .ref a :: st, M) Q = (mcl M a = some 6 ∧ CC X (d - 1) 58 [.ref a] M (XC X d 92 39 42 L st Q)) := H_virt [] rfl (by decide) rfl rfl rfl rfl rfl hd hs
theorem x92_42 : XX X d 92 (42, L, [.int (ii p)], M) Q = Q (.inl (some (.int (ii p)))) M := G_ret rfl ⟨⟨⟨rfl, rfl, rfl, by decide⟩, rfl, rfl⟩, rfl, rfl⟩ rfl
theorem e92 : CC X d 92 [.ref a] M Q = XX X d 92 (0, [some (.ref a)], [], M) Q := H_ent rfl rfl
-- 93 X8_insertText (I)I
theorem x93_0 : XX X d 93 (0, [some (.ref a), l1, l2, l3], st, M) Q = XX X d 93 (1, [some (.ref a), l1, l2, l3], .ref a :: st, M) Q := H_ld rfl rfl rfl rfl rfl
theorem x93_0n : XX X d 93 (0, [some (.null), l1, l2, l3], st, M) Q = XX X d 93 (1, [some (.null), l1, l2, l3], .null :: st, M) Q := H_ld rfl rfl rfl rfl rfl
theorem x93_1 : XX X d 93 (1, L, .ref a :: st, M) Q = yg (M.2.2 a) 8 2 X d 93 4 L st M Q := G_getf rfl (by decide) rfl rfl rfl
theorem x93_4 : XX X d 93 (4, L, .ref a :: st, M) Q = yg (M.2.2 a) 1 2 X d 93 7 L st M Q := G_getf rfl (by decide) rfl rfl rfl
theorem x93_7 (h : wide (some l1) = false) : XX X d 93 (7, [l0, l1, l2, l3], .ref a :: st, M) Q = XX X d 93 (8, [l0, l1, some (.ref a), l3], st, M) Q := H_st rfl rfl rfl rfl rfl rfl rfl rfl (Or.inr h)
theorem x93_7n (h : wide (some l1) = false) : XX X d 93 (7, [l0, l1, l2, l3], .null :: st, M) Q = XX X d 93 (8, [l0, l1, some (.null), l3], st, M) Q := H_st rfl rfl rfl rfl rfl rfl rfl rfl (Or.inr h)
theorem x93_8 : XX X d 93 (8, [l0, some (.int x), l2, l3], st, M) Q = XX X d 93 (9, [l0, some (.int x), l2, l3], .int x :: st, M) Q := H_ld rfl rfl rfl rfl rfl
theorem x93_9 (h : -2147483648 ≤ p ∧ p ≤ 2147483647) : XX X d 93 (9, L, .int (ii p) :: st, M) Q = bq (p < 0) X d 93 20 12 L st M Q := H_if rfl ⟨rfl, rfl, rfl, by decide⟩ rfl rfl rfl rfl (D_lt (b := 0) (by omega))
theorem x93_12 : XX X d 93 (12, [l0, some (.int x), l2, l3], st, M) Q = XX X d 93 (13, [l0, some (.int x), l2, l3], .int x :: st, M) Q := H_ld rfl rfl rfl rfl rfl
theorem x93_13 : XX X d 93 (13, [l0, l1, some (.ref a), l3], st, M) Q = XX X d 93 (14, [l0, l1, some (.ref a), l3], .ref a :: st, M) Q := H_ld rfl rfl rfl rfl rfl
theorem x93_13n : XX X d 93 (13, [l0, l1, some (.null), l3], st, M) Q = XX X d 93 (14, [l0, l1, some (.null), l3], .null :: st, M) Q := H_ld rfl rfl rfl rfl rfl
theorem x93_14 (hd : 0 < d) (hs : stB st = true) : XX X d 93 (14, L, .ref a :: st, M) Q = (mcl M a = some 6 ∧ CC X (d - 1) 58 [.ref a] M (XC X d 93 14 17 L st Q)) := H_virt [] rfl (by decide) rfl rfl rfl rfl rfl hd hs
theorem x93_17 (h : -2147483648 ≤ p ∧ p ≤ 2147483647 ∧ -2147483648 ≤ q ∧ q ≤ 2147483647) : XX X d 93 (17, L, .int (ii q) :: .int (ii p) :: st, M) Q = bq (p ≤ q) X d 93 37 20 L st M Q := H_if2 rfl ⟨rfl, rfl, rfl, by decide⟩ rfl rfl rfl rfl (D_ge h)
theorem x93_20 : XX X d 93 (20, [some (.ref a), l1, l2, l3], st, M) Q = XX X d 93 (21, [some (.ref a), l1, l2, l3], .ref a :: st, M) Q := H_ld rfl rfl rfl rfl rfl
theorem x93_20n : XX X d 93 (20, [some (.null), l1, l2, l3], st, M) Q = XX X d 93 (21, [some (.null), l1, l2, l3], .null :: st, M) Q := H_ld rfl rfl rfl rfl rfl
theorem x93_21 : XX X d 93 (21, L, .ref a :: st, M) Q = yg (M.2.2 a) 8 1 X d 93 24 L st M Q := G_getf rfl (by decide) rfl rfl rfl
theorem x93_24 (hd : 0 < d) (hs : stB st = true) : XX X d 93 (24, L, .ref a :: st, M) Q = (mcl M a = some 6 ∧ CC X (d - 1) 67 [.ref a] M (XC X d 93 24 27 L st Q)) := H_virt [] rfl (by decide) rfl rfl rfl rfl rfl hd hs
theorem x93_27 (hs : stB st = true) : XX X d 93 (27, L, st, M) Q = Q (.inr 2) (mthr M) := H_thr rfl (by decide) rfl hs
theorem x93_37 : XX X d 93 (37, [l0, l1, some (.ref a), l3], st, M) Q = XX X d 93 (38, [l0, l1, some (.ref a), l3], .ref a :: st, M) Q := H_ld rfl rfl rfl rfl rfl
theorem x93_37n : XX X d 93 (37, [l0, l1, some (.null), l3], st, M) Q = XX X d 93 (38, [l0, l1, some (.null), l3], .null :: st, M) Q := H_ld rfl rfl rfl rfl rfl
theorem x93_38 (hd : 0 < d) (hs : stB st = true) : XX X d 93 (38, L, .ref a :: st, M) Q = (mcl M a = some 6 ∧ CC X (d - 1) 58 [.ref a] M (XC X d 93 38 41 L st Q)) := H_virt [] rfl (by decide) rfl rfl rfl rfl rfl hd hs
theorem x93_41 : XX X d 93 (41, [some (.ref a), l1, l2, l3], st, M) Q = XX X d 93 (42, [some (.ref a), l1, l2, l3], .ref a :: st, M) Q := H_ld rfl rfl rfl rfl rfl
theorem x93_41n : XX X d 93 (41, [some (.null), l1, l2, l3], st, M) Q = XX X d 93 (42, [some (.null), l1, l2, l3], .null :: st, M) Q := H_ld rfl rfl rfl rfl rfl
theorem x93_42 : XX X d 93 (42, L, .ref a :: st, M) Q = yg (M.2.2 a) 8 1 X d 93 45 L st M Q := G_getf rfl (by decide) rfl rfl rfl
theorem x93_45 (hd : 0 < d) (hs : stB st = true) : XX X d 93 (45, L, .ref a :: st, M) Q = (mcl M a = some 6 ∧ CC X (d - 1) 58 [.ref a] M (XC X d 93 45 48 L st Q)) := H_virt [] rfl (by decide) rfl rfl rfl rfl rfl hd hs
theorem x93_48 : XX X d 93 (48, L, .int (ii q) :: .int (ii p) :: st, M) Q = XX X d 93 (49, L, .int (ii (p + q)) :: st, M) Q := H_add rfl (by decide) rfl
theorem x93_49 : XX X d 93 (49, L, st, M) Q = XX X d 93 (51, L, .int (ii 40) :: st, M) Q := G_cst rfl rfl rfl rfl rfl
theorem x93_51 (h : -2147483648 ≤ p ∧ p ≤ 2147483647 ∧ -2147483648 ≤ q ∧ q ≤ 2147483647) : XX X d 93 (51, L, .int (ii q) :: .int (ii p) :: st, M) Q = bq (p ≤ q) X d 93 71 54 L st M Q := H_if2 rfl ⟨rfl, rfl, rfl, by decide⟩ rfl rfl rfl rfl (D_ge h)
theorem x93_54 : XX X d 93 (54, [some (.ref a), l1, l2, l3], st, M) Q = XX X d 93 (55, [some (.ref a), l1, l2, l3], .ref a :: st, M) Q := H_ld rfl rfl rfl rfl rfl
theorem x93_54n : XX X d 93 (54, [some (.null), l1, l2, l3], st, M) Q = XX X d 93 (55, [some (.null), l1, l2, l3], .null :: st, M) Q := H_ld rfl rfl rfl rfl rfl
theorem x93_55 : XX X d 93 (55, L, .ref a :: st, M) Q = yg (M.2.2 a) 8 1 X d 93 58 L st M Q := G_getf rfl (by decide) rfl rfl rfl
theorem x93_58 (hd : 0 < d) (hs : stB st = true) : XX X d 93 (58, L, .ref a :: st, M) Q = (mcl M a = some 6 ∧ CC X (d - 1) 67 [.ref a] M (XC X d 93 58 61 L st Q)) := H_virt [] rfl (by decide) rfl rfl rfl rfl rfl hd hs
theorem x93_61 (hs : stB st = true) : XX X d 93 (61, L, st, M) Q = Q (.inr 0) (mthr M) := H_thr rfl (by decide) rfl hs
theorem x93_71 : XX X d 93 (71, [some (.ref a), l1, l2, l3], st, M) Q = XX X d 93 (72, [some (.ref a), l1, l2, l3], .ref a :: st, M) Q := H_ld rfl rfl rfl rfl rfl
theorem x93_71n : XX X d 93 (71, [some (.null), l1, l2, l3], st, M) Q = XX X d 93 (72, [some (.null), l1, l2, l3], .null :: st, M) Q := H_ld rfl rfl rfl rfl rfl
theorem x93_72 : XX X d 93 (72, L, .ref a :: st, M) Q = yg (M.2.2 a) 8 5 X d 93 75 L st M Q := G_getf rfl (by decide) rfl rfl rfl
theorem x93_75 : XX X d 93 (75, [some (.ref a), l1, l2, l3], st, M) Q = XX X d 93 (76, [some (.ref a), l1, l2, l3], .ref a :: st, M) Q := H_ld rfl rfl rfl rfl rfl
theorem x93_75n : XX X d 93 (75, [some (.null), l1, l2, l3], st, M) Q = XX X d 93 (76, [some (.null), l1, l2, l3], .null :: st, M) Q := H_ld rfl rfl rfl rfl rfl
theorem x93_76 : XX X d 93 (76, L, .ref a :: st, M) Q = yg (M.2.2 a) 8 2 X d 93 79 L st M Q := G_getf rfl (by decide) rfl rfl rfl
theorem x93_79 {v1 : Value} (hd : 0 < d) (hs : stB st = true) : XX X d 93 (79, L, v1 :: .ref a :: st, M) Q = (mcl M a = some 2 ∧ CC X (d - 1) 25 [.ref a, v1] M (XC X d 93 79 82 L st Q)) := H_virt [v1] rfl (by decide) rfl rfl rfl rfl rfl hd hs
theorem x93_82 : XX X d 93 (82, L, st, M) Q = XX X d 93 (83, L, .int (ii 0) :: st, M) Q := G_cst rfl rfl rfl rfl rfl
theorem x93_83 (h : wide (some l2) = false) : XX X d 93 (83, [l0, l1, l2, l3], .int x :: st, M) Q = XX X d 93 (84, [l0, l1, l2, some (.int x)], st, M) Q := H_st rfl rfl rfl rfl rfl rfl rfl rfl (Or.inr h)
theorem x93_84 : XX X d 93 (84, [l0, l1, l2, some (.int x)], st, M) Q = XX X d 93 (85, [l0, l1, l2, some (.int x)], .int x :: st, M) Q := H_ld rfl rfl rfl rfl rfl
theorem x93_85 : XX X d 93 (85, [some (.ref a), l1, l2, l3], st, M) Q = XX X d 93 (86, [some (.ref a), l1, l2, l3], .ref a :: st, M) Q := H_ld rfl rfl rfl rfl rfl
theorem x93_85n : XX X d 93 (85, [some (.null), l1, l2, l3], st, M) Q = XX X d 93 (86, [some (.null), l1, l2, l3], .null :: st, M) Q := H_ld rfl rfl rfl rfl rfl
theorem x93_86 : XX X d 93 (86, L, .ref a :: st, M) Q = yg (M.2.2 a) 8 1 X d 93 89 L st M Q := G_getf rfl (by decide) rfl rfl rfl
theorem x93_89 (hd : 0 < d) (hs : stB st = true) : XX X d 93 (89, L, .ref a :: st, M) Q = (mcl M a = some 6 ∧ CC X (d - 1) 58 [.ref a] M (XC X d 93 89 92 L st Q)) := H_virt [] rfl (by decide) rfl rfl rfl rfl rfl hd hs
theorem x93_92 (h : -2147483648 ≤ p ∧ p ≤ 2147483647 ∧ -2147483648 ≤ q ∧ q ≤ 2147483647) : XX X d 93 (92, L, .int (ii q) :: .int (ii p) :: st, M) Q = bq (q ≤ p) X d 93 116 95 L st M Q := H_if2 rfl ⟨rfl, rfl, rfl, by decide⟩ rfl rfl rfl rfl (D_le h)
theorem x93_95 : XX X d 93 (95, [l0, l1, some (.ref a), l3], st, M) Q = XX X d 93 (96, [l0, l1, some (.ref a), l3], .ref a :: st, M) Q := H_ld rfl rfl rfl rfl rfl
theorem x93_95n : XX X d 93 (95, [l0, l1, some (.null), l3], st, M) Q = XX X d 93 (96, [l0, l1, some (.null), l3], .null :: st, M) Q := H_ld rfl rfl rfl rfl rfl
theorem x93_96 : XX X d 93 (96, [l0, some (.int x), l2, l3], st, M) Q = XX X d 93 (97, [l0, some (.int x), l2, l3], .int x :: st, M) Q := H_ld rfl rfl rfl rfl rfl
theorem x93_97 : XX X d 93 (97, [l0, l1, l2, some (.int x)], st, M) Q = XX X d 93 (98, [l0, l1, l2, some (.int x)], .int x :: st, M) Q := H_ld rfl rfl rfl rfl rfl
theorem x93_98 : XX X d 93 (98, L, .int (ii q) :: .int (ii p) :: st, M) Q = XX X d 93 (99, L, .int (ii (p + q)) :: st, M) Q := H_add rfl (by decide) rfl
theorem x93_99 : XX X d 93 (99, [some (.ref a), l1, l2, l3], st, M) Q = XX X d 93 (100, [some (.ref a), l1, l2, l3], .ref a :: st, M) Q := H_ld rfl rfl rfl rfl rfl
theorem x93_99n : XX X d 93 (99, [some (.null), l1, l2, l3], st, M) Q = XX X d 93 (100, [some (.null), l1, l2, l3], .null :: st, M) Q := H_ld rfl rfl rfl rfl rfl
theorem x93_100 : XX X d 93 (100, L, .ref a :: st, M) Q = yg (M.2.2 a) 8 1 X d 93 103 L st M Q := G_getf rfl (by decide) rfl rfl rfl
theorem x93_103 : XX X d 93 (103, [l0, l1, l2, some (.int x)], st, M) Q = XX X d 93 (104, [l0, l1, l2, some (.int x)], .int x :: st, M) Q := H_ld rfl rfl rfl rfl rfl
theorem x93_104 {v1 : Value} (hd : 0 < d) (hs : stB st = true) : XX X d 93 (104, L, v1 :: .ref a :: st, M) Q = (mcl M a = some 6 ∧ CC X (d - 1) 61 [.ref a, v1] M (XC X d 93 104 107 L st Q)) := H_virt [v1] rfl (by decide) rfl rfl rfl rfl rfl hd hs
theorem x93_107 {v1 v2 : Value} (hd : 0 < d) (hs : stB st = true) : XX X d 93 (107, L, v2 :: v1 :: .ref a :: st, M) Q = (mcl M a = some 6 ∧ CC X (d - 1) 65 [.ref a, v1, v2] M (XC X d 93 107 110 L st Q)) := H_virt [v1, v2] rfl (by decide) rfl rfl rfl rfl rfl hd hs
theorem x93_110 (h : wide (some l2) = false) : XX X d 93 (110, [l0, l1, l2, some (.int (ii p))], st, M) Q = XX X d 93 (113, [l0, l1, l2, some (.int (ii (p + 1)))], st, M) Q := H_inc rfl (by decide) rfl rfl rfl (Or.inr h)
theorem x93_113 : XX X d 93 (113, L, st, M) Q = XX X d 93 (84, L, st, M) Q := H_jmp rfl (by decide) rfl
theorem x93_116 : XX X d 93 (116, [some (.ref a), l1, l2, l3], st, M) Q = XX X d 93 (117, [some (.ref a), l1, l2, l3], .ref a :: st, M) Q := H_ld rfl rfl rfl rfl rfl
theorem x93_116n : XX X d 93 (116, [some (.null), l1, l2, l3], st, M) Q = XX X d 93 (117, [some (.null), l1, l2, l3], .null :: st, M) Q := H_ld rfl rfl rfl rfl rfl
theorem x93_117 : XX X d 93 (117, L, .ref a :: st, M) Q = yg (M.2.2 a) 8 1 X d 93 120 L st M Q := G_getf rfl (by decide) rfl rfl rfl
theorem x93_120 (hd : 0 < d) (hs : stB st = true) : XX X d 93 (120, L, .ref a :: st, M) Q = (mcl M a = some 6 ∧ CC X (d - 1) 67 [.ref a] M (XC X d 93 120 123 L st Q)) := H_virt [] rfl (by decide) rfl rfl rfl rfl rfl hd hs
theorem x93_123 : XX X d 93 (123, [l0, l1, some (.ref a), l3], st, M) Q = XX X d 93 (124, [l0, l1, some (.ref a), l3], .ref a :: st, M) Q := H_ld rfl rfl rfl rfl rfl
theorem x93_123n : XX X d 93 (123, [l0, l1, some (.null), l3], st, M) Q = XX X d 93 (124, [l0, l1, some (.null), l3], .null :: st, M) Q := H_ld rfl rfl rfl rfl rfl
theorem x93_124 (hd : 0 < d) (hs : stB st = true) : XX X d 93 (124, L, .ref a :: st, M) Q = (mcl M a = some 6 ∧ CC X (d - 1) 58 [.ref a] M (XC X d 93 124 127 L st Q)) := H_virt [] rfl (by decide) rfl rfl rfl rfl rfl hd hs
theorem x93_127 : XX X d 93 (127, L, [.int (ii p)], M) Q = Q (.inl (some (.int (ii p)))) M := G_ret rfl ⟨⟨⟨rfl, rfl, rfl, by decide⟩, rfl, rfl⟩, rfl, rfl⟩ rfl
theorem e93 : CC X d 93 [.ref a, .int x] M Q = XX X d 93 (0, [some (.ref a), some (.int x), none, none], [], M) Q := H_ent rfl rfl
-- 94 X8_deleteText (II)I
theorem x94_0 : XX X d 94 (0, [l0, some (.int x), l2], st, M) Q = XX X d 94 (1, [l0, some (.int x), l2], .int x :: st, M) Q := H_ld rfl rfl rfl rfl rfl
theorem x94_1 (h : -2147483648 ≤ p ∧ p ≤ 2147483647) : XX X d 94 (1, L, .int (ii p) :: st, M) Q = bq (p < 0) X d 94 23 4 L st M Q := H_if rfl ⟨rfl, rfl, rfl, by decide⟩ rfl rfl rfl rfl (D_lt (b := 0) (by omega))
theorem x94_4 : XX X d 94 (4, [l0, some (.int x), l2], st, M) Q = XX X d 94 (5, [l0, some (.int x), l2], .int x :: st, M) Q := H_ld rfl rfl rfl rfl rfl
theorem x94_5 : XX X d 94 (5, [l0, l1, some (.int x)], st, M) Q = XX X d 94 (6, [l0, l1, some (.int x)], .int x :: st, M) Q := H_ld rfl rfl rfl rfl rfl
theorem x94_6 (h : -2147483648 ≤ p ∧ p ≤ 2147483647 ∧ -2147483648 ≤ q ∧ q ≤ 2147483647) : XX X d 94 (6, L, .int (ii q) :: .int (ii p) :: st, M) Q = bq (q < p) X d 94 23 9 L st M Q := H_if2 rfl ⟨rfl, rfl, rfl, by decide⟩ rfl rfl rfl rfl (D_gt h)
theorem x94_9 : XX X d 94 (9, [l0, l1, some (.int x)], st, M) Q = XX X d 94 (10, [l0, l1, some (.int x)], .int x :: st, M) Q := H_ld rfl rfl rfl rfl rfl
theorem x94_10 : XX X d 94 (10, [some (.ref a), l1, l2], st, M) Q = XX X d 94 (11, [some (.ref a), l1, l2], .ref a :: st, M) Q := H_ld rfl rfl rfl rfl rfl
theorem x94_10n : XX X d 94 (10, [some (.null), l1, l2], st, M) Q = XX X d 94 (11, [some (.null), l1, l2], .null :: st, M) Q := H_ld rfl rfl rfl rfl rfl
theorem x94_11 : XX X d 94 (11, L, .ref a :: st, M) Q = yg (M.2.2 a) 8 2 X d 94 14 L st M Q := G_getf rfl (by decide) rfl rfl rfl
theorem x94_14 : XX X d 94 (14, L, .ref a :: st, M) Q = yg (M.2.2 a) 1 2 X d 94 17 L st M Q := G_getf rfl (by decide) rfl rfl rfl
theorem x94_17 (hd : 0 < d) (hs : stB st = true) : XX X d 94 (17, L, .ref a :: st, M) Q = (mcl M a = some 6 ∧ CC X (d - 1) 58 [.ref a] M (XC X d 94 17 20 L st Q)) := H_virt [] rfl (by decide) rfl rfl rfl rfl rfl hd hs
theorem x94_20 (h : -2147483648 ≤ p ∧ p ≤ 2147483647 ∧ -2147483648 ≤ q ∧ q ≤ 2147483647) : XX X d 94 (20, L, .int (ii q) :: .int (ii p) :: st, M) Q = bq (p ≤ q) X d 94 33 23 L st M Q := H_if2 rfl ⟨rfl, rfl, rfl, by decide⟩ rfl rfl rfl rfl (D_ge h)
theorem x94_23 (hs : stB st = true) : XX X d 94 (23, L, st, M) Q = Q (.inr 2) (mthr M) := H_thr rfl (by decide) rfl hs
theorem x94_33 : XX X d 94 (33, [some (.ref a), l1, l2], st, M) Q = XX X d 94 (34, [some (.ref a), l1, l2], .ref a :: st, M) Q := H_ld rfl rfl rfl rfl rfl
theorem x94_33n : XX X d 94 (33, [some (.null), l1, l2], st, M) Q = XX X d 94 (34, [some (.null), l1, l2], .null :: st, M) Q := H_ld rfl rfl rfl rfl rfl
theorem x94_34 : XX X d 94 (34, L, .ref a :: st, M) Q = yg (M.2.2 a) 8 5 X d 94 37 L st M Q := G_getf rfl (by decide) rfl rfl rfl
theorem x94_37 : XX X d 94 (37, [some (.ref a), l1, l2], st, M) Q = XX X d 94 (38, [some (.ref a), l1, l2], .ref a :: st, M) Q := H_ld rfl rfl rfl rfl rfl
theorem x94_37n : XX X d 94 (37, [some (.null), l1, l2], st, M) Q = XX X d 94 (38, [some (.null), l1, l2], .null :: st, M) Q := H_ld rfl rfl rfl rfl rfl
theorem x94_38 : XX X d 94 (38, L, .ref a :: st, M) Q = yg (M.2.2 a) 8 2 X d 94 41 L st M Q := G_getf rfl (by decide) rfl rfl rfl
theorem x94_41 {v1 : Value} (hd : 0 < d) (hs : stB st = true) : XX X d 94 (41, L, v1 :: .ref a :: st, M) Q = (mcl M a = some 2 ∧ CC X (d - 1) 25 [.ref a, v1] M (XC X d 94 41 44 L st Q)) := H_virt [v1] rfl (by decide) rfl rfl rfl rfl rfl hd hs
theorem x94_44 : XX X d 94 (44, [some (.ref a), l1, l2], st, M) Q = XX X d 94 (45, [some (.ref a), l1, l2], .ref a :: st, M) Q := H_ld rfl rfl rfl rfl rfl
theorem x94_44n : XX X d 94 (44, [some (.null), l1, l2], st, M) Q = XX X d 94 (45, [some (.null), l1, l2], .null :: st, M) Q := H_ld rfl rfl rfl rfl rfl
theorem x94_45 : XX X d 94 (45, L, .ref a :: st, M) Q = yg (M.2.2 a) 8 2 X d 94 48 L st M Q := G_getf rfl (by decide) rfl rfl rfl
theorem x94_48 : XX X d 94 (48, L, .ref a :: st, M) Q = yg (M.2.2 a) 1 2 X d 94 51 L st M Q := G_getf rfl (by decide) rfl rfl rfl
theorem x94_51 : XX X d 94 (51, [l0, some (.int x), l2], st, M) Q = XX X d 94 (52, [l0, some (.int x), l2], .int x :: st, M) Q := H_ld rfl rfl rfl rfl rfl
theorem x94_52 : XX X d 94 (52, [l0, l1, some (.int x)], st, M) Q = XX X d 94 (53, [l0, l1, some (.int x)], .int x :: st, M) Q := H_ld rfl rfl rfl rfl rfl
theorem x94_53 {v1 v2 : Value} (hd : 0 < d) (hs : stB st = true) : XX X d 94 (53, L, v2 :: v1 :: .ref a :: st, M) Q = (mcl M a = some 6 ∧ CC X (d - 1) 66 [.ref a, v1, v2] M (XC X d 94 53 56 L st Q)) := H_virt [v1, v2] rfl (by decide) rfl rfl rfl rfl rfl hd hs
theorem x94_56 : XX X d 94 (56, [some (.ref a), l1, l2], st, M) Q = XX X d 94 (57, [some (.ref a), l1, l2], .ref a :: st, M) Q := H_ld rfl rfl rfl rfl rfl
theorem x94_56n : XX X d 94 (56, [some (.null), l1, l2], st, M) Q = XX X d 94 (57, [some (.null), l1, l2], .null :: st, M) Q := H_ld rfl rfl rfl rfl rfl
theorem x94_57 : XX X d 94 (57, L, .ref a :: st, M) Q = yg (M.2.2 a) 8 2 X d 94 60 L st M Q := G_getf rfl (by decide) rfl rfl rfl
theorem x94_60 : XX X d 94 (60, L, .ref a :: st, M) Q = yg (M.2.2 a) 1 2 X d 94 63 L st M Q := G_getf rfl (by decide) rfl rfl rfl
theorem x94_63 (hd : 0 < d) (hs : stB st = true) : XX X d 94 (63, L, .ref a :: st, M) Q = (mcl M a = some 6 ∧ CC X (d - 1) 58 [.ref a] M (XC X d 94 63 66 L st Q)) := H_virt [] rfl (by decide) rfl rfl rfl rfl rfl hd hs
theorem x94_66 : XX X d 94 (66, L, [.int (ii p)], M) Q = Q (.inl (some (.int (ii p)))) M := G_ret rfl ⟨⟨⟨rfl, rfl, rfl, by decide⟩, rfl, rfl⟩, rfl, rfl⟩ rfl
theorem e94 : CC X d 94 [.ref a, .int x, .int x2] M Q = XX X d 94 (0, [some (.ref a), some (.int x), some (.int x2)], [], M) Q := H_ent rfl rfl
-- 95 X8_replaceMatches (IC)I
theorem x95_0 : XX X d 95 (0, [some (.ref a), l1, l2, l3, l4], st, M) Q = XX X d 95 (1, [some (.ref a), l1, l2, l3, l4], .ref a :: st, M) Q := H_ld rfl rfl rfl rfl rfl
theorem x95_0n : XX X d 95 (0, [some (.null), l1, l2, l3, l4], st, M) Q = XX X d 95 (1, [some (.null), l1, l2, l3, l4], .null :: st, M) Q := H_ld rfl rfl rfl rfl rfl
theorem x95_1 : XX X d 95 (1, [l0, some (.int x), l2, l3, l4], st, M) Q = XX X d 95 (2, [l0, some (.int x), l2, l3, l4], .int x :: st, M) Q := H_ld rfl rfl rfl rfl rfl
theorem x95_2 {v1 : Value} (hd : 0 < d) (hs : stB st = true) : XX X d 95 (2, L, v1 :: .ref a :: st, M) Q = (mcl M a = some 8 ∧ CC X (d - 1) 123 [.ref a, v1] M (XC X d 95 2 5 L st Q)) := H_virt [v1] rfl (by decide) rfl rfl rfl rfl rfl hd hs
theorem x95_5 (h : wide (some l2) = false) : XX X d 95 (5, [l0, l1, l2, l3, l4], .ref a :: st, M) Q = XX X d 95 (6, [l0, l1, l2, some (.ref a), l4], st, M) Q := H_st rfl rfl rfl rfl rfl rfl rfl rfl (Or.inr h)
theorem x95_5n (h : wide (some l2) = false) : XX X d 95 (5, [l0, l1, l2, l3, l4], .null :: st, M) Q = XX X d 95 (6, [l0, l1, l2, some (.null), l4], st, M) Q := H_st rfl rfl rfl rfl rfl rfl rfl rfl (Or.inr h)
theorem x95_6 : XX X d 95 (6, [l0, l1, some (.int x), l3, l4], st, M) Q = XX X d 95 (7, [l0, l1, some (.int x), l3, l4], .int x :: st, M) Q := H_ld rfl rfl rfl rfl rfl
theorem x95_7 {v1 : Value} (hd : 0 < d) (hs : stB st = true) : XX X d 95 (7, L, v1 :: st, M) Q = CC X (d - 1) 126 [v1] M (XC X d 95 7 10 L st Q) := H_static [v1] rfl (by decide) rfl rfl (by decide) rfl rfl hd hs
theorem x95_10 : XX X d 95 (10, [some (.ref a), l1, l2, l3, l4], st, M) Q = XX X d 95 (11, [some (.ref a), l1, l2, l3, l4], .ref a :: st, M) Q := H_ld rfl rfl rfl rfl rfl
theorem x95_10n : XX X d 95 (10, [some (.null), l1, l2, l3, l4], st, M) Q = XX X d 95 (11, [some (.null), l1, l2, l3, l4], .null :: st, M) Q := H_ld rfl rfl rfl rfl rfl
theorem x95_11 : XX X d 95 (11, [l0, l1, l2, some (.ref a), l4], st, M) Q = XX X d 95 (12, [l0, l1, l2, some (.ref a), l4], .ref a :: st, M) Q := H_ld rfl rfl rfl rfl rfl
theorem x95_11n : XX X d 95 (11, [l0, l1, l2, some (.null), l4], st, M) Q = XX X d 95 (12, [l0, l1, l2, some (.null), l4], .null :: st, M) Q := H_ld rfl rfl rfl rfl rfl
theorem x95_12 {v1 : Value} (hd : 0 < d) (hs : stB st = true) : XX X d 95 (12, L, v1 :: .ref a :: st, M) Q = (mcl M a = some 8 ∧ CC X (d - 1) 135 [.ref a, v1] M (XC X d 95 12 15 L st Q)) := H_virt [v1] rfl (by decide) rfl rfl rfl rfl rfl hd hs
theorem x95_15 : XX X d 95 (15, [some (.ref a), l1, l2, l3, l4], st, M) Q = XX X d 95 (16, [some (.ref a), l1, l2, l3, l4], .ref a :: st, M) Q := H_ld rfl rfl rfl rfl rfl
theorem x95_15n : XX X d 95 (15, [some (.null), l1, l2, l3, l4], st, M) Q = XX X d 95 (16, [some (.null), l1, l2, l3, l4], .null :: st, M) Q := H_ld rfl rfl rfl rfl rfl
theorem x95_16 : XX X d 95 (16, L, .ref a :: st, M) Q = yg (M.2.2 a) 8 11 X d 95 19 L st M Q := G_getf rfl (by decide) rfl rfl rfl
theorem x95_19 (hd : 0 < d) (hs : stB st = true) : XX X d 95 (19, L, .ref a :: st, M) Q = (mcl M a = some 6 ∧ CC X (d - 1) 58 [.ref a] M (XC X d 95 19 22 L st Q)) := H_virt [] rfl (by decide) rfl rfl rfl rfl rfl hd hs
theorem x95_22 (h : wide (some l3) = false) : XX X d 95 (22, [l0, l1, l2, l3, l4], .int x :: st, M) Q = XX X d 95 (24, [l0, l1, l2, l3, some (.int x)], st, M) Q := H_st rfl rfl rfl rfl rfl rfl rfl rfl (Or.inr h)
theorem x95_24 : XX X d 95 (24, [some (.ref a), l1, l2, l3, l4], st, M) Q = XX X d 95 (25, [some (.ref a), l1, l2, l3, l4], .ref a :: st, M) Q := H_ld rfl rfl rfl rfl rfl
theorem x95_24n : XX X d 95 (24, [some (.null), l1, l2, l3, l4], st, M) Q = XX X d 95 (25, [some (.null), l1, l2, l3, l4], .null :: st, M) Q := H_ld rfl rfl rfl rfl rfl
theorem x95_25 : XX X d 95 (25, L, .ref a :: st, M) Q = yg (M.2.2 a) 8 2 X d 95 28 L st M Q := G_getf rfl (by decide) rfl rfl rfl
theorem x95_28 : XX X d 95 (28, L, .ref a :: st, M) Q = yg (M.2.2 a) 1 2 X d 95 31 L st M Q := G_getf rfl (by decide) rfl rfl rfl
theorem x95_31 (hd : 0 < d) (hs : stB st = true) : XX X d 95 (31, L, .ref a :: st, M) Q = (mcl M a = some 6 ∧ CC X (d - 1) 58 [.ref a] M (XC X d 95 31 34 L st Q)) := H_virt [] rfl (by decide) rfl rfl rfl rfl rfl hd hs
theorem x95_34 : XX X d 95 (34, [some (.ref a), l1, l2, l3, l4], st, M) Q = XX X d 95 (35, [some (.ref a), l1, l2, l3, l4], .ref a :: st, M) Q := H_ld rfl rfl rfl rfl rfl
theorem x95_34n : XX X d 95 (34, [some (.null), l1, l2, l3, l4], st, M) Q = XX X d 95 (35, [some (.null), l1, l2, l3, l4], .null :: st, M) Q := H_ld rfl rfl rfl rfl rfl
theorem x95_35 (hd : 0 < d) (hs : stB st = true) : XX X d 95 (35, L, .ref a :: st, M) Q = (mcl M a = some 8 ∧ CC X (d - 1) 137 [.ref a] M (XC X d 95 35 38 L st Q)) := H_virt [] rfl (by decide) rfl rfl rfl rfl rfl hd hs
theorem x95_38 : XX X d 95 (38, L, .int (ii q) :: .int (ii p) :: st, M) Q = XX X d 95 (39, L, .int (ii (p - q)) :: st, M) Q := H_sub rfl (by decide) rfl
theorem x95_39 : XX X d 95 (39, [l0, l1, l2, l3, some (.int x)], st, M) Q = XX X d 95 (41, [l0, l1, l2, l3, some (.int x)], .int x :: st, M) Q := H_ld rfl rfl rfl rfl rfl
theorem x95_41 : XX X d 95 (41, L, .int (ii q) :: .int (ii p) :: st, M) Q = XX X d 95 (42, L, .int (ii (p + q)) :: st, M) Q := H_add rfl (by decide) rfl
theorem x95_42 : XX X d 95 (42, L, st, M) Q = XX X d 95 (44, L, .int (ii 40) :: st, M) Q := G_cst rfl rfl rfl rfl rfl
theorem x95_44 (h : -2147483648 ≤ p ∧ p ≤ 2147483647 ∧ -2147483648 ≤ q ∧ q ≤ 2147483647) : XX X d 95 (44, L, .int (ii q) :: .int (ii p) :: st, M) Q = bq (p ≤ q) X d 95 57 47 L st M Q := H_if2 rfl ⟨rfl, rfl, rfl, by decide⟩ rfl rfl rfl rfl (D_ge h)
theorem x95_47 (hs : stB st = true) : XX X d 95 (47, L, st, M) Q = Q (.inr 0) (mthr M) := H_thr rfl (by decide) rfl hs
theorem x95_57 : XX X d 95 (57, [some (.ref a), l1, l2, l3, l4], st, M) Q = XX X d 95 (58, [some (.ref a), l1, l2, l3, l4], .ref a :: st, M) Q := H_ld rfl rfl rfl rfl rfl
theorem x95_57n : XX X d 95 (57, [some (.null), l1, l2, l3, l4], st, M) Q = XX X d 95 (58, [some (.null), l1, l2, l3, l4], .null :: st, M) Q := H_ld rfl rfl rfl rfl rfl
theorem x95_58 : XX X d 95 (58, L, .ref a :: st, M) Q = yg (M.2.2 a) 8 5 X d 95 61 L st M Q := G_getf rfl (by decide) rfl rfl rfl
theorem x95_61 : XX X d 95 (61, [some (.ref a), l1, l2, l3, l4], st, M) Q = XX X d 95 (62, [some (.ref a), l1, l2, l3, l4], .ref a :: st, M) Q := H_ld rfl rfl rfl rfl rfl
theorem x95_61n : XX X d 95 (61, [some (.null), l1, l2, l3, l4], st, M) Q = XX X d 95 (62, [some (.null), l1, l2, l3, l4], .null :: st, M) Q := H_ld rfl rfl rfl rfl rfl
theorem x95_62 : XX X d 95 (62, L, .ref a :: st, M) Q = yg (M.2.2 a) 8 2 X d 95 65 L st M Q := G_getf rfl (by decide) rfl rfl rfl
theorem x95_65 {v1 : Value} (hd : 0 < d) (hs : stB st = true) : XX X d 95 (65, L, v1 :: .ref a :: st, M) Q = (mcl M a = some 2 ∧ CC X (d - 1) 25 [.ref a, v1] M (XC X d 95 65 68 L st Q)) := H_virt [v1] rfl (by decide) rfl rfl rfl rfl rfl hd hs
theorem x95_68 : XX X d 95 (68, [some (.ref a), l1, l2, l3, l4], st, M) Q = XX X d 95 (69, [some (.ref a), l1, l2, l3, l4], .ref a :: st, M) Q := H_ld rfl rfl rfl rfl rfl
theorem x95_68n : XX X d 95 (68, [some (.null), l1, l2, l3, l4], st, M) Q = XX X d 95 (69, [some (.null), l1, l2, l3, l4], .null :: st, M) Q := H_ld rfl rfl rfl rfl rfl
theorem x95_69 : XX X d 95 (69, [l0, l1, some (.int x), l3, l4], st, M) Q = XX X d 95 (70, [l0, l1, some (.int x), l3, l4], .int x :: st, M) Q := H_ld rfl rfl rfl rfl rfl
theorem x95_70 {v1 : Value} (hd : 0 < d) (hs : stB st = true) : XX X d 95 (70, L, v1 :: .ref a :: st, M) Q = (mcl M a = some 8 ∧ CC X (d - 1) 139 [.ref a, v1] M (XC X d 95 70 73 L st Q)) := H_virt [v1] rfl (by decide) rfl rfl rfl rfl rfl hd hs
theorem x95_73 : XX X d 95 (73, [some (.ref a), l1, l2, l3, l4], st, M) Q = XX X d 95 (74, [some (.ref a), l1, l2, l3, l4], .ref a :: st, M) Q := H_ld rfl rfl rfl rfl rfl
theorem x95_73n : XX X d 95 (73, [some (.null), l1, l2, l3, l4], st, M) Q = XX X d 95 (74, [some (.null), l1, l2, l3, l4], .null :: st, M) Q := H_ld rfl rfl rfl rfl rfl
theorem x95_74 : XX X d 95 (74, L, .ref a :: st, M) Q = yg (M.2.2 a) 8 2 X d 95 77 L st M Q := G_getf rfl (by decide) rfl rfl rfl
theorem x95_77 : XX X d 95 (77, L, .ref a :: st, M) Q = yg (M.2.2 a) 1 2 X d 95 80 L st M Q := G_getf rfl (by decide) rfl rfl rfl
theorem x95_80 : XX X d 95 (80, [some (.ref a), l1, l2, l3, l4], st, M) Q = XX X d 95 (81, [some (.ref a), l1, l2, l3, l4], .ref a :: st, M) Q := H_ld rfl rfl rfl rfl rfl
theorem x95_80n : XX X d 95 (80, [some (.null), l1, l2, l3, l4], st, M) Q = XX X d 95 (81, [some (.null), l1, l2, l3, l4], .null :: st, M) Q := H_ld rfl rfl rfl rfl rfl
theorem x95_81 : XX X d 95 (81, L, .ref a :: st, M) Q = yg (M.2.2 a) 8 14 X d 95 84 L st M Q := G_getf rfl (by decide) rfl rfl rfl
theorem x95_84 {v1 : Value} (hd : 0 < d) (hs : stB st = true) : XX X d 95 (84, L, v1 :: .ref a :: st, M) Q = (mcl M a = some 6 ∧ CC X (d - 1) 69 [.ref a, v1] M (XC X d 95 84 87 L st Q)) := H_virt [v1] rfl (by decide) rfl rfl rfl rfl rfl hd hs
theorem x95_87 : XX X d 95 (87, [l0, l1, l2, l3, some (.int x)], st, M) Q = XX X d 95 (89, [l0, l1, l2, l3, some (.int x)], .int x :: st, M) Q := H_ld rfl rfl rfl rfl rfl
theorem x95_89 : XX X d 95 (89, L, [.int (ii p)], M) Q = Q (.inl (some (.int (ii p)))) M := G_ret rfl ⟨⟨⟨rfl, rfl, rfl, by decide⟩, rfl, rfl⟩, rfl, rfl⟩ rfl
theorem e95 : CC X d 95 [.ref a, .int x, .int x2] M Q = XX X d 95 (0, [some (.ref a), some (.int x), some (.int x2), none, none], [], M) Q := H_ent rfl rfl
-- 96 X8_textLength ()I
theorem x96_0 : XX X d 96 (0, [some (.ref a)], st, M) Q = XX X d 96 (1, [some (.ref a)], .ref a :: st, M) Q := H_ld rfl rfl rfl rfl rfl
theorem x96_0n : XX X d 96 (0, [some (.null)], st, M) Q = XX X d 96 (1, [some (.null)], .null :: st, M) Q := H_ld rfl rfl rfl rfl rfl
theorem x96_1 : XX X d 96 (1, L, .ref a :: st, M) Q = yg (M.2.2 a) 8 2 X d 96 4 L st M Q := G_getf rfl (by decide) rfl rfl rfl
theorem x96_4 : XX X d 96 (4, L, .ref a :: st, M) Q = yg (M.2.2 a) 1 2 X d 96 7 L st M Q := G_getf rfl (by decide) rfl rfl rfl
theorem x96_7 (hd : 0 < d) (hs : stB st = true) : XX X d 96 (7, L, .ref a :: st, M) Q = (mcl M a = some 6 ∧ CC X (d - 1) 58 [.ref a] M (XC X d 96 7 10 L st Q)) := H_virt [] rfl (by decide) rfl rfl rfl rfl rfl hd hs
theorem x96_10 : XX X d 96 (10, L, [.int (ii p)], M) Q = Q (.inl (some (.int (ii p)))) M := G_ret rfl ⟨⟨⟨rfl, rfl, rfl, by decide⟩, rfl, rfl⟩, rfl, rfl⟩ rfl
theorem e96 : CC X d 96 [.ref a] M Q = XX X d 96 (0, [some (.ref a)], [], M) Q := H_ent rfl rfl
-- 97 X8_textCharacter (I)C
theorem x97_0 : XX X d 97 (0, [some (.ref a), l1], st, M) Q = XX X d 97 (1, [some (.ref a), l1], .ref a :: st, M) Q := H_ld rfl rfl rfl rfl rfl
theorem x97_0n : XX X d 97 (0, [some (.null), l1], st, M) Q = XX X d 97 (1, [some (.null), l1], .null :: st, M) Q := H_ld rfl rfl rfl rfl rfl
theorem x97_1 : XX X d 97 (1, L, .ref a :: st, M) Q = yg (M.2.2 a) 8 2 X d 97 4 L st M Q := G_getf rfl (by decide) rfl rfl rfl
theorem x97_4 : XX X d 97 (4, L, .ref a :: st, M) Q = yg (M.2.2 a) 1 2 X d 97 7 L st M Q := G_getf rfl (by decide) rfl rfl rfl
theorem x97_7 : XX X d 97 (7, [l0, some (.int x)], st, M) Q = XX X d 97 (8, [l0, some (.int x)], .int x :: st, M) Q := H_ld rfl rfl rfl rfl rfl
theorem x97_8 {v1 v2 : Value} (hd : 0 < d) (hs : stB st = true) : XX X d 97 (8, L, v2 :: v1 :: st, M) Q = CC X (d - 1) 124 [v1, v2] M (XC X d 97 8 11 L st Q) := H_static [v1, v2] rfl (by decide) rfl rfl (by decide) rfl rfl hd hs
theorem x97_11 (h : 0 ≤ p ∧ p ≤ 65535) : XX X d 97 (11, L, [.int (ii p)], M) Q = Q (.inl (some (.int (ii p)))) M := G_ret rfl ⟨⟨⟨rfl, rfl, rfl, by decide⟩, rfl, rfl⟩, rfl, rfl⟩ (cz_ok h)
theorem e97 : CC X d 97 [.ref a, .int x] M Q = XX X d 97 (0, [some (.ref a), some (.int x)], [], M) Q := H_ent rfl rfl
-- 98 X8_matchesAll (I)Z
theorem x98_0 : XX X d 98 (0, [some (.ref a), l1], st, M) Q = XX X d 98 (1, [some (.ref a), l1], .ref a :: st, M) Q := H_ld rfl rfl rfl rfl rfl
theorem x98_0n : XX X d 98 (0, [some (.null), l1], st, M) Q = XX X d 98 (1, [some (.null), l1], .null :: st, M) Q := H_ld rfl rfl rfl rfl rfl
theorem x98_1 : XX X d 98 (1, L, .ref a :: st, M) Q = yg (M.2.2 a) 8 9 X d 98 4 L st M Q := G_getf rfl (by decide) rfl rfl rfl
theorem x98_4 : XX X d 98 (4, [some (.ref a), l1], st, M) Q = XX X d 98 (5, [some (.ref a), l1], .ref a :: st, M) Q := H_ld rfl rfl rfl rfl rfl
theorem x98_4n : XX X d 98 (4, [some (.null), l1], st, M) Q = XX X d 98 (5, [some (.null), l1], .null :: st, M) Q := H_ld rfl rfl rfl rfl rfl
theorem x98_5 : XX X d 98 (5, [l0, some (.int x)], st, M) Q = XX X d 98 (6, [l0, some (.int x)], .int x :: st, M) Q := H_ld rfl rfl rfl rfl rfl
theorem x98_6 {v1 : Value} (hd : 0 < d) (hs : stB st = true) : XX X d 98 (6, L, v1 :: .ref a :: st, M) Q = (mcl M a = some 8 ∧ CC X (d - 1) 123 [.ref a, v1] M (XC X d 98 6 9 L st Q)) := H_virt [v1] rfl (by decide) rfl rfl rfl rfl rfl hd hs
theorem x98_9 : XX X d 98 (9, [some (.ref a), l1], st, M) Q = XX X d 98 (10, [some (.ref a), l1], .ref a :: st, M) Q := H_ld rfl rfl rfl rfl rfl
theorem x98_9n : XX X d 98 (9, [some (.null), l1], st, M) Q = XX X d 98 (10, [some (.null), l1], .null :: st, M) Q := H_ld rfl rfl rfl rfl rfl
theorem x98_10 : XX X d 98 (10, L, .ref a :: st, M) Q = yg (M.2.2 a) 8 2 X d 98 13 L st M Q := G_getf rfl (by decide) rfl rfl rfl
theorem x98_13 : XX X d 98 (13, L, .ref a :: st, M) Q = yg (M.2.2 a) 1 2 X d 98 16 L st M Q := G_getf rfl (by decide) rfl rfl rfl
theorem x98_16 {v1 v2 : Value} (hd : 0 < d) (hs : stB st = true) : XX X d 98 (16, L, v2 :: v1 :: .ref a :: st, M) Q = (mcl M a = some 0 ∧ CC X (d - 1) 8 [.ref a, v1, v2] M (XC X d 98 16 19 L st Q)) := H_virt [v1, v2] rfl (by decide) rfl rfl rfl rfl rfl hd hs
theorem x98_19 (h : p = 0 ∨ p = 1) : XX X d 98 (19, L, [.int (ii p)], M) Q = Q (.inl (some (.int (ii p)))) M := G_ret rfl ⟨⟨⟨rfl, rfl, rfl, by decide⟩, rfl, rfl⟩, rfl, rfl⟩ (bz_ok h)
theorem e98 : CC X d 98 [.ref a, .int x] M Q = XX X d 98 (0, [some (.ref a), some (.int x)], [], M) Q := H_ent rfl rfl
-- 99 X8_matchesAllByThreads (I)Z
theorem x99_0 : XX X d 99 (0, [some (.ref a), l1], st, M) Q = XX X d 99 (1, [some (.ref a), l1], .ref a :: st, M) Q := H_ld rfl rfl rfl rfl rfl
theorem x99_0n : XX X d 99 (0, [some (.null), l1], st, M) Q = XX X d 99 (1, [some (.null), l1], .null :: st, M) Q := H_ld rfl rfl rfl rfl rfl
theorem x99_1 : XX X d 99 (1, L, .ref a :: st, M) Q = yg (M.2.2 a) 8 10 X d 99 4 L st M Q := G_getf rfl (by decide) rfl rfl rfl
theorem x99_4 : XX X d 99 (4, [some (.ref a), l1], st, M) Q = XX X d 99 (5, [some (.ref a), l1], .ref a :: st, M) Q := H_ld rfl rfl rfl rfl rfl
theorem x99_4n : XX X d 99 (4, [some (.null), l1], st, M) Q = XX X d 99 (5, [some (.null), l1], .null :: st, M) Q := H_ld rfl rfl rfl rfl rfl
theorem x99_5 : XX X d 99 (5, [l0, some (.int x)], st, M) Q = XX X d 99 (6, [l0, some (.int x)], .int x :: st, M) Q := H_ld rfl rfl rfl rfl rfl
theorem x99_6 {v1 : Value} (hd : 0 < d) (hs : stB st = true) : XX X d 99 (6, L, v1 :: .ref a :: st, M) Q = (mcl M a = some 8 ∧ CC X (d - 1) 123 [.ref a, v1] M (XC X d 99 6 9 L st Q)) := H_virt [v1] rfl (by decide) rfl rfl rfl rfl rfl hd hs
theorem x99_9 : XX X d 99 (9, [some (.ref a), l1], st, M) Q = XX X d 99 (10, [some (.ref a), l1], .ref a :: st, M) Q := H_ld rfl rfl rfl rfl rfl
theorem x99_9n : XX X d 99 (9, [some (.null), l1], st, M) Q = XX X d 99 (10, [some (.null), l1], .null :: st, M) Q := H_ld rfl rfl rfl rfl rfl
theorem x99_10 : XX X d 99 (10, L, .ref a :: st, M) Q = yg (M.2.2 a) 8 2 X d 99 13 L st M Q := G_getf rfl (by decide) rfl rfl rfl
theorem x99_13 : XX X d 99 (13, L, .ref a :: st, M) Q = yg (M.2.2 a) 1 2 X d 99 16 L st M Q := G_getf rfl (by decide) rfl rfl rfl
theorem x99_16 {v1 v2 : Value} (hd : 0 < d) (hs : stB st = true) : XX X d 99 (16, L, v2 :: v1 :: .ref a :: st, M) Q = (mcl M a = some 7 ∧ CC X (d - 1) 74 [.ref a, v1, v2] M (XC X d 99 16 19 L st Q)) := H_virt [v1, v2] rfl (by decide) rfl rfl rfl rfl rfl hd hs
theorem x99_19 (h : p = 0 ∨ p = 1) : XX X d 99 (19, L, [.int (ii p)], M) Q = Q (.inl (some (.int (ii p)))) M := G_ret rfl ⟨⟨⟨rfl, rfl, rfl, by decide⟩, rfl, rfl⟩, rfl, rfl⟩ (bz_ok h)
theorem e99 : CC X d 99 [.ref a, .int x] M Q = XX X d 99 (0, [some (.ref a), some (.int x)], [], M) Q := H_ent rfl rfl
-- 100 X8_find (II)I
theorem x100_0 : XX X d 100 (0, [some (.ref a), l1, l2], st, M) Q = XX X d 100 (1, [some (.ref a), l1, l2], .ref a :: st, M) Q := H_ld rfl rfl rfl rfl rfl
theorem x100_0n : XX X d 100 (0, [some (.null), l1, l2], st, M) Q = XX X d 100 (1, [some (.null), l1, l2], .null :: st, M) Q := H_ld rfl rfl rfl rfl rfl
theorem x100_1 : XX X d 100 (1, [l0, some (.int x), l2], st, M) Q = XX X d 100 (2, [l0, some (.int x), l2], .int x :: st, M) Q := H_ld rfl rfl rfl rfl rfl
theorem x100_2 : XX X d 100 (2, [l0, l1, some (.int x)], st, M) Q = XX X d 100 (3, [l0, l1, some (.int x)], .int x :: st, M) Q := H_ld rfl rfl rfl rfl rfl
theorem x100_3 {v1 v2 : Value} (hd : 0 < d) (hs : stB st = true) : XX X d 100 (3, L, v2 :: v1 :: .ref a :: st, M) Q = (mcl M a = some 8 ∧ CC X (d - 1) 130 [.ref a, v1, v2] M (XC X d 100 3 6 L st Q)) := H_virt [v1, v2] rfl (by decide) rfl rfl rfl rfl rfl hd hs
theorem x100_6 : XX X d 100 (6, [some (.ref a), l1, l2], st, M) Q = XX X d 100 (7, [some (.ref a), l1, l2], .ref a :: st, M) Q := H_ld rfl rfl rfl rfl rfl
theorem x100_6n : XX X d 100 (6, [some (.null), l1, l2], st, M) Q = XX X d 100 (7, [some (.null), l1, l2], .null :: st, M) Q := H_ld rfl rfl rfl rfl rfl
theorem x100_7 : XX X d 100 (7, L, .ref a :: st, M) Q = yg (M.2.2 a) 8 9 X d 100 10 L st M Q := G_getf rfl (by decide) rfl rfl rfl
theorem x100_10 (hd : 0 < d) (hs : stB st = true) : XX X d 100 (10, L, .ref a :: st, M) Q = (mcl M a = some 0 ∧ CC X (d - 1) 2 [.ref a] M (XC X d 100 10 13 L st Q)) := H_virt [] rfl (by decide) rfl rfl rfl rfl rfl hd hs
theorem x100_13 : XX X d 100 (13, L, [.int (ii p)], M) Q = Q (.inl (some (.int (ii p)))) M := G_ret rfl ⟨⟨⟨rfl, rfl, rfl, by decide⟩, rfl, rfl⟩, rfl, rfl⟩ rfl
theorem e100 : CC X d 100 [.ref a, .int x, .int x2] M Q = XX X d 100 (0, [some (.ref a), some (.int x), some (.int x2)], [], M) Q := H_ent rfl rfl
-- 101 X8_findEnd (II)I
theorem x101_0 : XX X d 101 (0, [some (.ref a), l1, l2], st, M) Q = XX X d 101 (1, [some (.ref a), l1, l2], .ref a :: st, M) Q := H_ld rfl rfl rfl rfl rfl
theorem x101_0n : XX X d 101 (0, [some (.null), l1, l2], st, M) Q = XX X d 101 (1, [some (.null), l1, l2], .null :: st, M) Q := H_ld rfl rfl rfl rfl rfl
theorem x101_1 : XX X d 101 (1, [l0, some (.int x), l2], st, M) Q = XX X d 101 (2, [l0, some (.int x), l2], .int x :: st, M) Q := H_ld rfl rfl rfl rfl rfl
theorem x101_2 : XX X d 101 (2, [l0, l1, some (.int x)], st, M) Q = XX X d 101 (3, [l0, l1, some (.int x)], .int x :: st, M) Q := H_ld rfl rfl rfl rfl rfl
theorem x101_3 {v1 v2 : Value} (hd : 0 < d) (hs : stB st = true) : XX X d 101 (3, L, v2 :: v1 :: .ref a :: st, M) Q = (mcl M a = some 8 ∧ CC X (d - 1) 130 [.ref a, v1, v2] M (XC X d 101 3 6 L st Q)) := H_virt [v1, v2] rfl (by decide) rfl rfl rfl rfl rfl hd hs
theorem x101_6 : XX X d 101 (6, [some (.ref a), l1, l2], st, M) Q = XX X d 101 (7, [some (.ref a), l1, l2], .ref a :: st, M) Q := H_ld rfl rfl rfl rfl rfl
theorem x101_6n : XX X d 101 (6, [some (.null), l1, l2], st, M) Q = XX X d 101 (7, [some (.null), l1, l2], .null :: st, M) Q := H_ld rfl rfl rfl rfl rfl
theorem x101_7 : XX X d 101 (7, L, .ref a :: st, M) Q = yg (M.2.2 a) 8 9 X d 101 10 L st M Q := G_getf rfl (by decide) rfl rfl rfl
theorem x101_10 (hd : 0 < d) (hs : stB st = true) : XX X d 101 (10, L, .ref a :: st, M) Q = (mcl M a = some 0 ∧ CC X (d - 1) 3 [.ref a] M (XC X d 101 10 13 L st Q)) := H_virt [] rfl (by decide) rfl rfl rfl rfl rfl hd hs
theorem x101_13 : XX X d 101 (13, L, [.int (ii p)], M) Q = Q (.inl (some (.int (ii p)))) M := G_ret rfl ⟨⟨⟨rfl, rfl, rfl, by decide⟩, rfl, rfl⟩, rfl, rfl⟩ rfl
theorem e101 : CC X d 101 [.ref a, .int x, .int x2] M Q = XX X d 101 (0, [some (.ref a), some (.int x), some (.int x2)], [], M) Q := H_ent rfl rfl
-- 102 X8_findByThreads (II)I
theorem x102_0 : XX X d 102 (0, [some (.ref a), l1, l2], st, M) Q = XX X d 102 (1, [some (.ref a), l1, l2], .ref a :: st, M) Q := H_ld rfl rfl rfl rfl rfl
theorem x102_0n : XX X d 102 (0, [some (.null), l1, l2], st, M) Q = XX X d 102 (1, [some (.null), l1, l2], .null :: st, M) Q := H_ld rfl rfl rfl rfl rfl
theorem x102_1 : XX X d 102 (1, [l0, some (.int x), l2], st, M) Q = XX X d 102 (2, [l0, some (.int x), l2], .int x :: st, M) Q := H_ld rfl rfl rfl rfl rfl
theorem x102_2 : XX X d 102 (2, [l0, l1, some (.int x)], st, M) Q = XX X d 102 (3, [l0, l1, some (.int x)], .int x :: st, M) Q := H_ld rfl rfl rfl rfl rfl
theorem x102_3 {v1 v2 : Value} (hd : 0 < d) (hs : stB st = true) : XX X d 102 (3, L, v2 :: v1 :: .ref a :: st, M) Q = (mcl M a = some 8 ∧ CC X (d - 1) 131 [.ref a, v1, v2] M (XC X d 102 3 6 L st Q)) := H_virt [v1, v2] rfl (by decide) rfl rfl rfl rfl rfl hd hs
theorem x102_6 : XX X d 102 (6, [some (.ref a), l1, l2], st, M) Q = XX X d 102 (7, [some (.ref a), l1, l2], .ref a :: st, M) Q := H_ld rfl rfl rfl rfl rfl
theorem x102_6n : XX X d 102 (6, [some (.null), l1, l2], st, M) Q = XX X d 102 (7, [some (.null), l1, l2], .null :: st, M) Q := H_ld rfl rfl rfl rfl rfl
theorem x102_7 : XX X d 102 (7, L, .ref a :: st, M) Q = yg (M.2.2 a) 8 10 X d 102 10 L st M Q := G_getf rfl (by decide) rfl rfl rfl
theorem x102_10 (hd : 0 < d) (hs : stB st = true) : XX X d 102 (10, L, .ref a :: st, M) Q = (mcl M a = some 7 ∧ CC X (d - 1) 71 [.ref a] M (XC X d 102 10 13 L st Q)) := H_virt [] rfl (by decide) rfl rfl rfl rfl rfl hd hs
theorem x102_13 : XX X d 102 (13, L, [.int (ii p)], M) Q = Q (.inl (some (.int (ii p)))) M := G_ret rfl ⟨⟨⟨rfl, rfl, rfl, by decide⟩, rfl, rfl⟩, rfl, rfl⟩ rfl
theorem e102 : CC X d 102 [.ref a, .int x, .int x2] M Q = XX X d 102 (0, [some (.ref a), some (.int x), some (.int x2)], [], M) Q := H_ent rfl rfl
-- 103 X8_findEndByThreads (II)I
theorem x103_0 : XX X d 103 (0, [some (.ref a), l1, l2], st, M) Q = XX X d 103 (1, [some (.ref a), l1, l2], .ref a :: st, M) Q := H_ld rfl rfl rfl rfl rfl
theorem x103_0n : XX X d 103 (0, [some (.null), l1, l2], st, M) Q = XX X d 103 (1, [some (.null), l1, l2], .null :: st, M) Q := H_ld rfl rfl rfl rfl rfl
theorem x103_1 : XX X d 103 (1, [l0, some (.int x), l2], st, M) Q = XX X d 103 (2, [l0, some (.int x), l2], .int x :: st, M) Q := H_ld rfl rfl rfl rfl rfl
theorem x103_2 : XX X d 103 (2, [l0, l1, some (.int x)], st, M) Q = XX X d 103 (3, [l0, l1, some (.int x)], .int x :: st, M) Q := H_ld rfl rfl rfl rfl rfl
theorem x103_3 {v1 v2 : Value} (hd : 0 < d) (hs : stB st = true) : XX X d 103 (3, L, v2 :: v1 :: .ref a :: st, M) Q = (mcl M a = some 8 ∧ CC X (d - 1) 131 [.ref a, v1, v2] M (XC X d 103 3 6 L st Q)) := H_virt [v1, v2] rfl (by decide) rfl rfl rfl rfl rfl hd hs
theorem x103_6 : XX X d 103 (6, [some (.ref a), l1, l2], st, M) Q = XX X d 103 (7, [some (.ref a), l1, l2], .ref a :: st, M) Q := H_ld rfl rfl rfl rfl rfl
theorem x103_6n : XX X d 103 (6, [some (.null), l1, l2], st, M) Q = XX X d 103 (7, [some (.null), l1, l2], .null :: st, M) Q := H_ld rfl rfl rfl rfl rfl
theorem x103_7 : XX X d 103 (7, L, .ref a :: st, M) Q = yg (M.2.2 a) 8 10 X d 103 10 L st M Q := G_getf rfl (by decide) rfl rfl rfl
theorem x103_10 (hd : 0 < d) (hs : stB st = true) : XX X d 103 (10, L, .ref a :: st, M) Q = (mcl M a = some 7 ∧ CC X (d - 1) 72 [.ref a] M (XC X d 103 10 13 L st Q)) := H_virt [] rfl (by decide) rfl rfl rfl rfl rfl hd hs
theorem x103_13 : XX X d 103 (13, L, [.int (ii p)], M) Q = Q (.inl (some (.int (ii p)))) M := G_ret rfl ⟨⟨⟨rfl, rfl, rfl, by decide⟩, rfl, rfl⟩, rfl, rfl⟩ rfl
theorem e103 : CC X d 103 [.ref a, .int x, .int x2] M Q = XX X d 103 (0, [some (.ref a), some (.int x), some (.int x2)], [], M) Q := H_ent rfl rfl
-- 104 X8_isGroupSet (III)Z
theorem x104_0 : XX X d 104 (0, [some (.ref a), l1, l2, l3], st, M) Q = XX X d 104 (1, [some (.ref a), l1, l2, l3], .ref a :: st, M) Q := H_ld rfl rfl rfl rfl rfl
theorem x104_0n : XX X d 104 (0, [some (.null), l1, l2, l3], st, M) Q = XX X d 104 (1, [some (.null), l1, l2, l3], .null :: st, M) Q := H_ld rfl rfl rfl rfl rfl
theorem x104_1 : XX X d 104 (1, [l0, some (.int x), l2, l3], st, M) Q = XX X d 104 (2, [l0, some (.int x), l2, l3], .int x :: st, M) Q := H_ld rfl rfl rfl rfl rfl
theorem x104_2 : XX X d 104 (2, [l0, l1, some (.int x), l3], st, M) Q = XX X d 104 (3, [l0, l1, some (.int x), l3], .int x :: st, M) Q := H_ld rfl rfl rfl rfl rfl
theorem x104_3 : XX X d 104 (3, [l0, l1, l2, some (.int x)], st, M) Q = XX X d 104 (4, [l0, l1, l2, some (.int x)], .int x :: st, M) Q := H_ld rfl rfl rfl rfl rfl
theorem x104_4 {v1 v2 v3 : Value} (hd : 0 < d) (hs : stB st = true) : XX X d 104 (4, L, v3 :: v2 :: v1 :: .ref a :: st, M) Q = (mcl M a = some 8 ∧ CC X (d - 1) 132 [.ref a, v1, v2, v3] M (XC X d 104 4 7 L st Q)) := H_virt [v1, v2, v3] rfl (by decide) rfl rfl rfl rfl rfl hd hs
theorem x104_7 : XX X d 104 (7, [some (.ref a), l1, l2, l3], st, M) Q = XX X d 104 (8, [some (.ref a), l1, l2, l3], .ref a :: st, M) Q := H_ld rfl rfl rfl rfl rfl
theorem x104_7n : XX X d 104 (7, [some (.null), l1, l2, l3], st, M) Q = XX X d 104 (8, [some (.null), l1, l2, l3], .null :: st, M) Q := H_ld rfl rfl rfl rfl rfl
theorem x104_8 : XX X d 104 (8, L, .ref a :: st, M) Q = yg (M.2.2 a) 8 9 X d 104 11 L st M Q := G_getf rfl (by decide) rfl rfl rfl
theorem x104_11 : XX X d 104 (11, [l0, l1, l2, some (.int x)], st, M) Q = XX X d 104 (12, [l0, l1, l2, some (.int x)], .int x :: st, M) Q := H_ld rfl rfl rfl rfl rfl
theorem x104_12 {v1 : Value} (hd : 0 < d) (hs : stB st = true) : XX X d 104 (12, L, v1 :: .ref a :: st, M) Q = (mcl M a = some 0 ∧ CC X (d - 1) 4 [.ref a, v1] M (XC X d 104 12 15 L st Q)) := H_virt [v1] rfl (by decide) rfl rfl rfl rfl rfl hd hs
theorem x104_15 (h : p = 0 ∨ p = 1) : XX X d 104 (15, L, [.int (ii p)], M) Q = Q (.inl (some (.int (ii p)))) M := G_ret rfl ⟨⟨⟨rfl, rfl, rfl, by decide⟩, rfl, rfl⟩, rfl, rfl⟩ (bz_ok h)
theorem e104 : CC X d 104 [.ref a, .int x, .int x2, .int x3] M Q = XX X d 104 (0, [some (.ref a), some (.int x), some (.int x2), some (.int x3)], [], M) Q := H_ent rfl rfl
-- 105 X8_groupStart (III)I
theorem x105_0 : XX X d 105 (0, [some (.ref a), l1, l2, l3], st, M) Q = XX X d 105 (1, [some (.ref a), l1, l2, l3], .ref a :: st, M) Q := H_ld rfl rfl rfl rfl rfl
theorem x105_0n : XX X d 105 (0, [some (.null), l1, l2, l3], st, M) Q = XX X d 105 (1, [some (.null), l1, l2, l3], .null :: st, M) Q := H_ld rfl rfl rfl rfl rfl
theorem x105_1 : XX X d 105 (1, [l0, some (.int x), l2, l3], st, M) Q = XX X d 105 (2, [l0, some (.int x), l2, l3], .int x :: st, M) Q := H_ld rfl rfl rfl rfl rfl
theorem x105_2 : XX X d 105 (2, [l0, l1, some (.int x), l3], st, M) Q = XX X d 105 (3, [l0, l1, some (.int x), l3], .int x :: st, M) Q := H_ld rfl rfl rfl rfl rfl
theorem x105_3 : XX X d 105 (3, [l0, l1, l2, some (.int x)], st, M) Q = XX X d 105 (4, [l0, l1, l2, some (.int x)], .int x :: st, M) Q := H_ld rfl rfl rfl rfl rfl
theorem x105_4 {v1 v2 v3 : Value} (hd : 0 < d) (hs : stB st = true) : XX X d 105 (4, L, v3 :: v2 :: v1 :: .ref a :: st, M) Q = (mcl M a = some 8 ∧ CC X (d - 1) 132 [.ref a, v1, v2, v3] M (XC X d 105 4 7 L st Q)) := H_virt [v1, v2, v3] rfl (by decide) rfl rfl rfl rfl rfl hd hs
theorem x105_7 : XX X d 105 (7, [some (.ref a), l1, l2, l3], st, M) Q = XX X d 105 (8, [some (.ref a), l1, l2, l3], .ref a :: st, M) Q := H_ld rfl rfl rfl rfl rfl
theorem x105_7n : XX X d 105 (7, [some (.null), l1, l2, l3], st, M) Q = XX X d 105 (8, [some (.null), l1, l2, l3], .null :: st, M) Q := H_ld rfl rfl rfl rfl rfl
theorem x105_8 : XX X d 105 (8, [l0, l1, l2, some (.int x)], st, M) Q = XX X d 105 (9, [l0, l1, l2, some (.int x)], .int x :: st, M) Q := H_ld rfl rfl rfl rfl rfl
theorem x105_9 {v1 : Value} (hd : 0 < d) (hs : stB st = true) : XX X d 105 (9, L, v1 :: .ref a :: st, M) Q = (mcl M a = some 8 ∧ CC X (d - 1) 133 [.ref a, v1] M (XC X d 105 9 12 L st Q)) := H_virt [v1] rfl (by decide) rfl rfl rfl rfl rfl hd hs
theorem x105_12 : XX X d 105 (12, [some (.ref a), l1, l2, l3], st, M) Q = XX X d 105 (13, [some (.ref a), l1, l2, l3], .ref a :: st, M) Q := H_ld rfl rfl rfl rfl rfl
theorem x105_12n : XX X d 105 (12, [some (.null), l1, l2, l3], st, M) Q = XX X d 105 (13, [some (.null), l1, l2, l3], .null :: st, M) Q := H_ld rfl rfl rfl rfl rfl
theorem x105_13 : XX X d 105 (13, L, .ref a :: st, M) Q = yg (M.2.2 a) 8 9 X d 105 16 L st M Q := G_getf rfl (by decide) rfl rfl rfl
theorem x105_16 : XX X d 105 (16, [l0, l1, l2, some (.int x)], st, M) Q = XX X d 105 (17, [l0, l1, l2, some (.int x)], .int x :: st, M) Q := H_ld rfl rfl rfl rfl rfl
theorem x105_17 {v1 : Value} (hd : 0 < d) (hs : stB st = true) : XX X d 105 (17, L, v1 :: .ref a :: st, M) Q = (mcl M a = some 0 ∧ CC X (d - 1) 5 [.ref a, v1] M (XC X d 105 17 20 L st Q)) := H_virt [v1] rfl (by decide) rfl rfl rfl rfl rfl hd hs
theorem x105_20 : XX X d 105 (20, L, [.int (ii p)], M) Q = Q (.inl (some (.int (ii p)))) M := G_ret rfl ⟨⟨⟨rfl, rfl, rfl, by decide⟩, rfl, rfl⟩, rfl, rfl⟩ rfl
theorem e105 : CC X d 105 [.ref a, .int x, .int x2, .int x3] M Q = XX X d 105 (0, [some (.ref a), some (.int x), some (.int x2), some (.int x3)], [], M) Q := H_ent rfl rfl
-- 106 X8_groupEnd (III)I
theorem x106_0 : XX X d 106 (0, [some (.ref a), l1, l2, l3], st, M) Q = XX X d 106 (1, [some (.ref a), l1, l2, l3], .ref a :: st, M) Q := H_ld rfl rfl rfl rfl rfl
theorem x106_0n : XX X d 106 (0, [some (.null), l1, l2, l3], st, M) Q = XX X d 106 (1, [some (.null), l1, l2, l3], .null :: st, M) Q := H_ld rfl rfl rfl rfl rfl
theorem x106_1 : XX X d 106 (1, [l0, some (.int x), l2, l3], st, M) Q = XX X d 106 (2, [l0, some (.int x), l2, l3], .int x :: st, M) Q := H_ld rfl rfl rfl rfl rfl
theorem x106_2 : XX X d 106 (2, [l0, l1, some (.int x), l3], st, M) Q = XX X d 106 (3, [l0, l1, some (.int x), l3], .int x :: st, M) Q := H_ld rfl rfl rfl rfl rfl
theorem x106_3 : XX X d 106 (3, [l0, l1, l2, some (.int x)], st, M) Q = XX X d 106 (4, [l0, l1, l2, some (.int x)], .int x :: st, M) Q := H_ld rfl rfl rfl rfl rfl
theorem x106_4 {v1 v2 v3 : Value} (hd : 0 < d) (hs : stB st = true) : XX X d 106 (4, L, v3 :: v2 :: v1 :: .ref a :: st, M) Q = (mcl M a = some 8 ∧ CC X (d - 1) 132 [.ref a, v1, v2, v3] M (XC X d 106 4 7 L st Q)) := H_virt [v1, v2, v3] rfl (by decide) rfl rfl rfl rfl rfl hd hs
theorem x106_7 : XX X d 106 (7, [some (.ref a), l1, l2, l3], st, M) Q = XX X d 106 (8, [some (.ref a), l1, l2, l3], .ref a :: st, M) Q := H_ld rfl rfl rfl rfl rfl
theorem x106_7n : XX X d 106 (7, [some (.null), l1, l2, l3], st, M) Q = XX X d 106 (8, [some (.null), l1, l2, l3], .null :: st, M) Q := H_ld rfl rfl rfl rfl rfl
theorem x106_8 : XX X d 106 (8, [l0, l1, l2, some (.int x)], st, M) Q = XX X d 106 (9, [l0, l1, l2, some (.int x)], .int x :: st, M) Q := H_ld rfl rfl rfl rfl rfl
theorem x106_9 {v1 : Value} (hd : 0 < d) (hs : stB st = true) : XX X d 106 (9, L, v1 :: .ref a :: st, M) Q = (mcl M a = some 8 ∧ CC X (d - 1) 133 [.ref a, v1] M (XC X d 106 9 12 L st Q)) := H_virt [v1] rfl (by decide) rfl rfl rfl rfl rfl hd hs
theorem x106_12 : XX X d 106 (12, [some (.ref a), l1, l2, l3], st, M) Q = XX X d 106 (13, [some (.ref a), l1, l2, l3], .ref a :: st, M) Q := H_ld rfl rfl rfl rfl rfl
theorem x106_12n : XX X d 106 (12, [some (.null), l1, l2, l3], st, M) Q = XX X d 106 (13, [some (.null), l1, l2, l3], .null :: st, M) Q := H_ld rfl rfl rfl rfl rfl
theorem x106_13 : XX X d 106 (13, L, .ref a :: st, M) Q = yg (M.2.2 a) 8 9 X d 106 16 L st M Q := G_getf rfl (by decide) rfl rfl rfl
theorem x106_16 : XX X d 106 (16, [l0, l1, l2, some (.int x)], st, M) Q = XX X d 106 (17, [l0, l1, l2, some (.int x)], .int x :: st, M) Q := H_ld rfl rfl rfl rfl rfl
theorem x106_17 {v1 : Value} (hd : 0 < d) (hs : stB st = true) : XX X d 106 (17, L, v1 :: .ref a :: st, M) Q = (mcl M a = some 0 ∧ CC X (d - 1) 6 [.ref a, v1] M (XC X d 106 17 20 L st Q)) := H_virt [v1] rfl (by decide) rfl rfl rfl rfl rfl hd hs
theorem x106_20 : XX X d 106 (20, L, [.int (ii p)], M) Q = Q (.inl (some (.int (ii p)))) M := G_ret rfl ⟨⟨⟨rfl, rfl, rfl, by decide⟩, rfl, rfl⟩, rfl, rfl⟩ rfl
theorem e106 : CC X d 106 [.ref a, .int x, .int x2, .int x3] M Q = XX X d 106 (0, [some (.ref a), some (.int x), some (.int x2), some (.int x3)], [], M) Q := H_ent rfl rfl
-- 107 X8_matchCount (I)I
theorem x107_0 : XX X d 107 (0, [some (.ref a), l1], st, M) Q = XX X d 107 (1, [some (.ref a), l1], .ref a :: st, M) Q := H_ld rfl rfl rfl rfl rfl
theorem x107_0n : XX X d 107 (0, [some (.null), l1], st, M) Q = XX X d 107 (1, [some (.null), l1], .null :: st, M) Q := H_ld rfl rfl rfl rfl rfl
theorem x107_1 : XX X d 107 (1, [some (.ref a), l1], st, M) Q = XX X d 107 (2, [some (.ref a), l1], .ref a :: st, M) Q := H_ld rfl rfl rfl rfl rfl
theorem x107_1n : XX X d 107 (1, [some (.null), l1], st, M) Q = XX X d 107 (2, [some (.null), l1], .null :: st, M) Q := H_ld rfl rfl rfl rfl rfl
theorem x107_2 : XX X d 107 (2, [l0, some (.int x)], st, M) Q = XX X d 107 (3, [l0, some (.int x)], .int x :: st, M) Q := H_ld rfl rfl rfl rfl rfl
theorem x107_3 {v1 : Value} (hd : 0 < d) (hs : stB st = true) : XX X d 107 (3, L, v1 :: .ref a :: st, M) Q = (mcl M a = some 8 ∧ CC X (d - 1) 123 [.ref a, v1] M (XC X d 107 3 6 L st Q)) := H_virt [v1] rfl (by decide) rfl rfl rfl rfl rfl hd hs
theorem x107_6 {v1 : Value} (hd : 0 < d) (hs : stB st = true) : XX X d 107 (6, L, v1 :: .ref a :: st, M) Q = (mcl M a = some 8 ∧ CC X (d - 1) 135 [.ref a, v1] M (XC X d 107 6 9 L st Q)) := H_virt [v1] rfl (by decide) rfl rfl rfl rfl rfl hd hs
theorem x107_9 : XX X d 107 (9, [some (.ref a), l1], st, M) Q = XX X d 107 (10, [some (.ref a), l1], .ref a :: st, M) Q := H_ld rfl rfl rfl rfl rfl
theorem x107_9n : XX X d 107 (9, [some (.null), l1], st, M) Q = XX X d 107 (10, [some (.null), l1], .null :: st, M) Q := H_ld rfl rfl rfl rfl rfl
theorem x107_10 : XX X d 107 (10, L, .ref a :: st, M) Q = yg (M.2.2 a) 8 11 X d 107 13 L st M Q := G_getf rfl (by decide) rfl rfl rfl
theorem x107_13 (hd : 0 < d) (hs : stB st = true) : XX X d 107 (13, L, .ref a :: st, M) Q = (mcl M a = some 6 ∧ CC X (d - 1) 58 [.ref a] M (XC X d 107 13 16 L st Q)) := H_virt [] rfl (by decide) rfl rfl rfl rfl rfl hd hs
theorem x107_16 : XX X d 107 (16, L, [.int (ii p)], M) Q = Q (.inl (some (.int (ii p)))) M := G_ret rfl ⟨⟨⟨rfl, rfl, rfl, by decide⟩, rfl, rfl⟩, rfl, rfl⟩ rfl
theorem e107 : CC X d 107 [.ref a, .int x] M Q = XX X d 107 (0, [some (.ref a), some (.int x)], [], M) Q := H_ent rfl rfl
-- 108 X8_matchStart (II)I
theorem x108_0 : XX X d 108 (0, [some (.ref a), l1, l2], st, M) Q = XX X d 108 (1, [some (.ref a), l1, l2], .ref a :: st, M) Q := H_ld rfl rfl rfl rfl rfl
theorem x108_0n : XX X d 108 (0, [some (.null), l1, l2], st, M) Q = XX X d 108 (1, [some (.null), l1, l2], .null :: st, M) Q := H_ld rfl rfl rfl rfl rfl
theorem x108_1 : XX X d 108 (1, [some (.ref a), l1, l2], st, M) Q = XX X d 108 (2, [some (.ref a), l1, l2], .ref a :: st, M) Q := H_ld rfl rfl rfl rfl rfl
theorem x108_1n : XX X d 108 (1, [some (.null), l1, l2], st, M) Q = XX X d 108 (2, [some (.null), l1, l2], .null :: st, M) Q := H_ld rfl rfl rfl rfl rfl
theorem x108_2 : XX X d 108 (2, [l0, some (.int x), l2], st, M) Q = XX X d 108 (3, [l0, some (.int x), l2], .int x :: st, M) Q := H_ld rfl rfl rfl rfl rfl
theorem x108_3 {v1 : Value} (hd : 0 < d) (hs : stB st = true) : XX X d 108 (3, L, v1 :: .ref a :: st, M) Q = (mcl M a = some 8 ∧ CC X (d - 1) 123 [.ref a, v1] M (XC X d 108 3 6 L st Q)) := H_virt [v1] rfl (by decide) rfl rfl rfl rfl rfl hd hs
theorem x108_6 {v1 : Value} (hd : 0 < d) (hs : stB st = true) : XX X d 108 (6, L, v1 :: .ref a :: st, M) Q = (mcl M a = some 8 ∧ CC X (d - 1) 135 [.ref a, v1] M (XC X d 108 6 9 L st Q)) := H_virt [v1] rfl (by decide) rfl rfl rfl rfl rfl hd hs
theorem x108_9 : XX X d 108 (9, [some (.ref a), l1, l2], st, M) Q = XX X d 108 (10, [some (.ref a), l1, l2], .ref a :: st, M) Q := H_ld rfl rfl rfl rfl rfl
theorem x108_9n : XX X d 108 (9, [some (.null), l1, l2], st, M) Q = XX X d 108 (10, [some (.null), l1, l2], .null :: st, M) Q := H_ld rfl rfl rfl rfl rfl
theorem x108_10 : XX X d 108 (10, [l0, l1, some (.int x)], st, M) Q = XX X d 108 (11, [l0, l1, some (.int x)], .int x :: st, M) Q := H_ld rfl rfl rfl rfl rfl
theorem x108_11 {v1 : Value} (hd : 0 < d) (hs : stB st = true) : XX X d 108 (11, L, v1 :: .ref a :: st, M) Q = (mcl M a = some 8 ∧ CC X (d - 1) 127 [.ref a, v1] M (XC X d 108 11 14 L st Q)) := H_virt [v1] rfl (by decide) rfl rfl rfl rfl rfl hd hs
theorem x108_14 : XX X d 108 (14, [some (.ref a), l1, l2], st, M) Q = XX X d 108 (15, [some (.ref a), l1, l2], .ref a :: st, M) Q := H_ld rfl rfl rfl rfl rfl
theorem x108_14n : XX X d 108 (14, [some (.null), l1, l2], st, M) Q = XX X d 108 (15, [some (.null), l1, l2], .null :: st, M) Q := H_ld rfl rfl rfl rfl rfl
theorem x108_15 : XX X d 108 (15, L, .ref a :: st, M) Q = yg (M.2.2 a) 8 11 X d 108 18 L st M Q := G_getf rfl (by decide) rfl rfl rfl
theorem x108_18 : XX X d 108 (18, [l0, l1, some (.int x)], st, M) Q = XX X d 108 (19, [l0, l1, some (.int x)], .int x :: st, M) Q := H_ld rfl rfl rfl rfl rfl
theorem x108_19 {v1 : Value} (hd : 0 < d) (hs : stB st = true) : XX X d 108 (19, L, v1 :: .ref a :: st, M) Q = (mcl M a = some 6 ∧ CC X (d - 1) 61 [.ref a, v1] M (XC X d 108 19 22 L st Q)) := H_virt [v1] rfl (by decide) rfl rfl rfl rfl rfl hd hs
theorem x108_22 : XX X d 108 (22, L, [.int (ii p)], M) Q = Q (.inl (some (.int (ii p)))) M := G_ret rfl ⟨⟨⟨rfl, rfl, rfl, by decide⟩, rfl, rfl⟩, rfl, rfl⟩ rfl
theorem e108 : CC X d 108 [.ref a, .int x, .int x2] M Q = XX X d 108 (0, [some (.ref a), some (.int x), some (.int x2)], [], M) Q := H_ent rfl rfl
-- 109 X8_matchLength (II)I
theorem x109_0 : XX X d 109 (0, [some (.ref a), l1, l2], st, M) Q = XX X d 109 (1, [some (.ref a), l1, l2], .ref a :: st, M) Q := H_ld rfl rfl rfl rfl rfl
theorem x109_0n : XX X d 109 (0, [some (.null), l1, l2], st, M) Q = XX X d 109 (1, [some (.null), l1, l2], .null :: st, M) Q := H_ld rfl rfl rfl rfl rfl
theorem x109_1 : XX X d 109 (1, [some (.ref a), l1, l2], st, M) Q = XX X d 109 (2, [some (.ref a), l1, l2], .ref a :: st, M) Q := H_ld rfl rfl rfl rfl rfl
theorem x109_1n : XX X d 109 (1, [some (.null), l1, l2], st, M) Q = XX X d 109 (2, [some (.null), l1, l2], .null :: st, M) Q := H_ld rfl rfl rfl rfl rfl
theorem x109_2 : XX X d 109 (2, [l0, some (.int x), l2], st, M) Q = XX X d 109 (3, [l0, some (.int x), l2], .int x :: st, M) Q := H_ld rfl rfl rfl rfl rfl
theorem x109_3 {v1 : Value} (hd : 0 < d) (hs : stB st = true) : XX X d 109 (3, L, v1 :: .ref a :: st, M) Q = (mcl M a = some 8 ∧ CC X (d - 1) 123 [.ref a, v1] M (XC X d 109 3 6 L st Q)) := H_virt [v1] rfl (by decide) rfl rfl rfl rfl rfl hd hs
theorem x109_6 {v1 : Value} (hd : 0 < d) (hs : stB st = true) : XX X d 109 (6, L, v1 :: .ref a :: st, M) Q = (mcl M a = some 8 ∧ CC X (d - 1) 135 [.ref a, v1] M (XC X d 109 6 9 L st Q)) := H_virt [v1] rfl (by decide) rfl rfl rfl rfl rfl hd hs
theorem x109_9 : XX X d 109 (9, [some (.ref a), l1, l2], st, M) Q = XX X d 109 (10, [some (.ref a), l1, l2], .ref a :: st, M) Q := H_ld rfl rfl rfl rfl rfl
theorem x109_9n : XX X d 109 (9, [some (.null), l1, l2], st, M) Q = XX X d 109 (10, [some (.null), l1, l2], .null :: st, M) Q := H_ld rfl rfl rfl rfl rfl
theorem x109_10 : XX X d 109 (10, [l0, l1, some (.int x)], st, M) Q = XX X d 109 (11, [l0, l1, some (.int x)], .int x :: st, M) Q := H_ld rfl rfl rfl rfl rfl
theorem x109_11 {v1 : Value} (hd : 0 < d) (hs : stB st = true) : XX X d 109 (11, L, v1 :: .ref a :: st, M) Q = (mcl M a = some 8 ∧ CC X (d - 1) 127 [.ref a, v1] M (XC X d 109 11 14 L st Q)) := H_virt [v1] rfl (by decide) rfl rfl rfl rfl rfl hd hs
theorem x109_14 : XX X d 109 (14, [some (.ref a), l1, l2], st, M) Q = XX X d 109 (15, [some (.ref a), l1, l2], .ref a :: st, M) Q := H_ld rfl rfl rfl rfl rfl
theorem x109_14n : XX X d 109 (14, [some (.null), l1, l2], st, M) Q = XX X d 109 (15, [some (.null), l1, l2], .null :: st, M) Q := H_ld rfl rfl rfl rfl rfl
theorem x109_15 : XX X d 109 (15, [l0, l1, some (.int x)], st, M) Q = XX X d 109 (16, [l0, l1, some (.int x)], .int x :: st, M) Q := H_ld rfl rfl rfl rfl rfl
theorem x109_16 {v1 : Value} (hd : 0 < d) (hs : stB st = true) : XX X d 109 (16, L, v1 :: .ref a :: st, M) Q = (mcl M a = some 8 ∧ CC X (d - 1) 136 [.ref a, v1] M (XC X d 109 16 19 L st Q)) := H_virt [v1] rfl (by decide) rfl rfl rfl rfl rfl hd hs
theorem x109_19 : XX X d 109 (19, L, [.int (ii p)], M) Q = Q (.inl (some (.int (ii p)))) M := G_ret rfl ⟨⟨⟨rfl, rfl, rfl, by decide⟩, rfl, rfl⟩, rfl, rfl⟩ rfl
theorem e109 : CC X d 109 [.ref a, .int x, .int x2] M Q = XX X d 109 (0, [some (.ref a), some (.int x), some (.int x2)], [], M) Q := H_ent rfl rfl
-- 110 X8_longestMatch (I)I
theorem x110_0 : XX X d 110 (0, [some (.ref a), l1, l2, l3], st, M) Q = XX X d 110 (1, [some (.ref a), l1, l2, l3], .ref a :: st, M) Q := H_ld rfl rfl rfl rfl rfl
theorem x110_0n : XX X d 110 (0, [some (.null), l1, l2, l3], st, M) Q = XX X d 110 (1, [some (.null), l1, l2, l3], .null :: st, M) Q := H_ld rfl rfl rfl rfl rfl
theorem x110_1 : XX X d 110 (1, [some (.ref a), l1, l2, l3], st, M) Q = XX X d 110 (2, [some (.ref a), l1, l2, l3], .ref a :: st, M) Q := H_ld rfl rfl rfl rfl rfl
theorem x110_1n : XX X d 110 (1, [some (.null), l1, l2, l3], st, M) Q = XX X d 110 (2, [some (.null), l1, l2, l3], .null :: st, M) Q := H_ld rfl rfl rfl rfl rfl
theorem x110_2 : XX X d 110 (2, [l0, some (.int x), l2, l3], st, M) Q = XX X d 110 (3, [l0, some (.int x), l2, l3], .int x :: st, M) Q := H_ld rfl rfl rfl rfl rfl
theorem x110_3 {v1 : Value} (hd : 0 < d) (hs : stB st = true) : XX X d 110 (3, L, v1 :: .ref a :: st, M) Q = (mcl M a = some 8 ∧ CC X (d - 1) 123 [.ref a, v1] M (XC X d 110 3 6 L st Q)) := H_virt [v1] rfl (by decide) rfl rfl rfl rfl rfl hd hs
theorem x110_6 {v1 : Value} (hd : 0 < d) (hs : stB st = true) : XX X d 110 (6, L, v1 :: .ref a :: st, M) Q = (mcl M a = some 8 ∧ CC X (d - 1) 135 [.ref a, v1] M (XC X d 110 6 9 L st Q)) := H_virt [v1] rfl (by decide) rfl rfl rfl rfl rfl hd hs
theorem x110_9 : XX X d 110 (9, [some (.ref a), l1, l2, l3], st, M) Q = XX X d 110 (10, [some (.ref a), l1, l2, l3], .ref a :: st, M) Q := H_ld rfl rfl rfl rfl rfl
theorem x110_9n : XX X d 110 (9, [some (.null), l1, l2, l3], st, M) Q = XX X d 110 (10, [some (.null), l1, l2, l3], .null :: st, M) Q := H_ld rfl rfl rfl rfl rfl
theorem x110_10 : XX X d 110 (10, L, st, M) Q = XX X d 110 (11, L, .int (ii 0) :: st, M) Q := G_cst rfl rfl rfl rfl rfl
theorem x110_11 {v1 : Value} (hd : 0 < d) (hs : stB st = true) : XX X d 110 (11, L, v1 :: .ref a :: st, M) Q = (mcl M a = some 8 ∧ CC X (d - 1) 127 [.ref a, v1] M (XC X d 110 11 14 L st Q)) := H_virt [v1] rfl (by decide) rfl rfl rfl rfl rfl hd hs
theorem x110_14 : XX X d 110 (14, L, st, M) Q = XX X d 110 (15, L, .int (ii 0) :: st, M) Q := G_cst rfl rfl rfl rfl rfl
theorem x110_15 (h : wide (some l1) = false) : XX X d 110 (15, [l0, l1, l2, l3], .int x :: st, M) Q = XX X d 110 (16, [l0, l1, some (.int x), l3], st, M) Q := H_st rfl rfl rfl rfl rfl rfl rfl rfl (Or.inr h)
theorem x110_16 : XX X d 110 (16, L, st, M) Q = XX X d 110 (17, L, .int (ii 1) :: st, M) Q := G_cst rfl rfl rfl rfl rfl
theorem x110_17 (h : wide (some l2) = false) : XX X d 110 (17, [l0, l1, l2, l3], .int x :: st, M) Q = XX X d 110 (18, [l0, l1, l2, some (.int x)], st, M) Q := H_st rfl rfl rfl rfl rfl rfl rfl rfl (Or.inr h)
theorem x110_18 : XX X d 110 (18, [l0, l1, l2, some (.int x)], st, M) Q = XX X d 110 (19, [l0, l1, l2, some (.int x)], .int x :: st, M) Q := H_ld rfl rfl rfl rfl rfl
theorem x110_19 : XX X d 110 (19, [some (.ref a), l1, l2, l3], st, M) Q = XX X d 110 (20, [some (.ref a), l1, l2, l3], .ref a :: st, M) Q := H_ld rfl rfl rfl rfl rfl
theorem x110_19n : XX X d 110 (19, [some (.null), l1, l2, l3], st, M) Q = XX X d 110 (20, [some (.null), l1, l2, l3], .null :: st, M) Q := H_ld rfl rfl rfl rfl rfl
theorem x110_20 : XX X d 110 (20, L, .ref a :: st, M) Q = yg (M.2.2 a) 8 11 X d 110 23 L st M Q := G_getf rfl (by decide) rfl rfl rfl
theorem x110_23 (hd : 0 < d) (hs : stB st = true) : XX X d 110 (23, L, .ref a :: st, M) Q = (mcl M a = some 6 ∧ CC X (d - 1) 58 [.ref a] M (XC X d 110 23 26 L st Q)) := H_virt [] rfl (by decide) rfl rfl rfl rfl rfl hd hs
theorem x110_26 (h : -2147483648 ≤ p ∧ p ≤ 2147483647 ∧ -2147483648 ≤ q ∧ q ≤ 2147483647) : XX X d 110 (26, L, .int (ii q) :: .int (ii p) :: st, M) Q = bq (q ≤ p) X d 110 50 29 L st M Q := H_if2 rfl ⟨rfl, rfl, rfl, by decide⟩ rfl rfl rfl rfl (D_le h)
theorem x110_29 : XX X d 110 (29, [some (.ref a), l1, l2, l3], st, M) Q = XX X d 110 (30, [some (.ref a), l1, l2, l3], .ref a :: st, M) Q := H_ld rfl rfl rfl rfl rfl
theorem x110_29n : XX X d 110 (29, [some (.null), l1, l2, l3], st, M) Q = XX X d 110 (30, [some (.null), l1, l2, l3], .null :: st, M) Q := H_ld rfl rfl rfl rfl rfl
theorem x110_30 : XX X d 110 (30, [l0, l1, l2, some (.int x)], st, M) Q = XX X d 110 (31, [l0, l1, l2, some (.int x)], .int x :: st, M) Q := H_ld rfl rfl rfl rfl rfl
theorem x110_31 {v1 : Value} (hd : 0 < d) (hs : stB st = true) : XX X d 110 (31, L, v1 :: .ref a :: st, M) Q = (mcl M a = some 8 ∧ CC X (d - 1) 136 [.ref a, v1] M (XC X d 110 31 34 L st Q)) := H_virt [v1] rfl (by decide) rfl rfl rfl rfl rfl hd hs
theorem x110_34 : XX X d 110 (34, [some (.ref a), l1, l2, l3], st, M) Q = XX X d 110 (35, [some (.ref a), l1, l2, l3], .ref a :: st, M) Q := H_ld rfl rfl rfl rfl rfl
theorem x110_34n : XX X d 110 (34, [some (.null), l1, l2, l3], st, M) Q = XX X d 110 (35, [some (.null), l1, l2, l3], .null :: st, M) Q := H_ld rfl rfl rfl rfl rfl
theorem x110_35 : XX X d 110 (35, [l0, l1, some (.int x), l3], st, M) Q = XX X d 110 (36, [l0, l1, some (.int x), l3], .int x :: st, M) Q := H_ld rfl rfl rfl rfl rfl
theorem x110_36 {v1 : Value} (hd : 0 < d) (hs : stB st = true) : XX X d 110 (36, L, v1 :: .ref a :: st, M) Q = (mcl M a = some 8 ∧ CC X (d - 1) 136 [.ref a, v1] M (XC X d 110 36 39 L st Q)) := H_virt [v1] rfl (by decide) rfl rfl rfl rfl rfl hd hs
theorem x110_39 (h : -2147483648 ≤ p ∧ p ≤ 2147483647 ∧ -2147483648 ≤ q ∧ q ≤ 2147483647) : XX X d 110 (39, L, .int (ii q) :: .int (ii p) :: st, M) Q = bq (p ≤ q) X d 110 44 42 L st M Q := H_if2 rfl ⟨rfl, rfl, rfl, by decide⟩ rfl rfl rfl rfl (D_ge h)
theorem x110_42 : XX X d 110 (42, [l0, l1, l2, some (.int x)], st, M) Q = XX X d 110 (43, [l0, l1, l2, some (.int x)], .int x :: st, M) Q := H_ld rfl rfl rfl rfl rfl
theorem x110_43 (h : wide (some l1) = false) : XX X d 110 (43, [l0, l1, l2, l3], .int x :: st, M) Q = XX X d 110 (44, [l0, l1, some (.int x), l3], st, M) Q := H_st rfl rfl rfl rfl rfl rfl rfl rfl (Or.inr h)
theorem x110_44 (h : wide (some l2) = false) : XX X d 110 (44, [l0, l1, l2, some (.int (ii p))], st, M) Q = XX X d 110 (47, [l0, l1, l2, some (.int (ii (p + 1)))], st, M) Q := H_inc rfl (by decide) rfl rfl rfl (Or.inr h)
theorem x110_47 : XX X d 110 (47, L, st, M) Q = XX X d 110 (18, L, st, M) Q := H_jmp rfl (by decide) rfl
theorem x110_50 : XX X d 110 (50, [l0, l1, some (.int x), l3], st, M) Q = XX X d 110 (51, [l0, l1, some (.int x), l3], .int x :: st, M) Q := H_ld rfl rfl rfl rfl rfl
theorem x110_51 : XX X d 110 (51, L, [.int (ii p)], M) Q = Q (.inl (some (.int (ii p)))) M := G_ret rfl ⟨⟨⟨rfl, rfl, rfl, by decide⟩, rfl, rfl⟩, rfl, rfl⟩ rfl
theorem e110 : CC X d 110 [.ref a, .int x] M Q = XX X d 110 (0, [some (.ref a), some (.int x), none, none], [], M) Q := H_ent rfl rfl
-- 111 X8_matchedCharacters (I)I
theorem x111_0 : XX X d 111 (0, [some (.ref a), l1], st, M) Q = XX X d 111 (1, [some (.ref a), l1], .ref a :: st, M) Q := H_ld rfl rfl rfl rfl rfl
theorem x111_0n : XX X d 111 (0, [some (.null), l1], st, M) Q = XX X d 111 (1, [some (.null), l1], .null :: st, M) Q := H_ld rfl rfl rfl rfl rfl
theorem x111_1 : XX X d 111 (1, [some (.ref a), l1], st, M) Q = XX X d 111 (2, [some (.ref a), l1], .ref a :: st, M) Q := H_ld rfl rfl rfl rfl rfl
theorem x111_1n : XX X d 111 (1, [some (.null), l1], st, M) Q = XX X d 111 (2, [some (.null), l1], .null :: st, M) Q := H_ld rfl rfl rfl rfl rfl
theorem x111_2 : XX X d 111 (2, [l0, some (.int x)], st, M) Q = XX X d 111 (3, [l0, some (.int x)], .int x :: st, M) Q := H_ld rfl rfl rfl rfl rfl
theorem x111_3 {v1 : Value} (hd : 0 < d) (hs : stB st = true) : XX X d 111 (3, L, v1 :: .ref a :: st, M) Q = (mcl M a = some 8 ∧ CC X (d - 1) 123 [.ref a, v1] M (XC X d 111 3 6 L st Q)) := H_virt [v1] rfl (by decide) rfl rfl rfl rfl rfl hd hs
theorem x111_6 {v1 : Value} (hd : 0 < d) (hs : stB st = true) : XX X d 111 (6, L, v1 :: .ref a :: st, M) Q = (mcl M a = some 8 ∧ CC X (d - 1) 135 [.ref a, v1] M (XC X d 111 6 9 L st Q)) := H_virt [v1] rfl (by decide) rfl rfl rfl rfl rfl hd hs
theorem x111_9 : XX X d 111 (9, [some (.ref a), l1], st, M) Q = XX X d 111 (10, [some (.ref a), l1], .ref a :: st, M) Q := H_ld rfl rfl rfl rfl rfl
theorem x111_9n : XX X d 111 (9, [some (.null), l1], st, M) Q = XX X d 111 (10, [some (.null), l1], .null :: st, M) Q := H_ld rfl rfl rfl rfl rfl
theorem x111_10 (hd : 0 < d) (hs : stB st = true) : XX X d 111 (10, L, .ref a :: st, M) Q = (mcl M a = some 8 ∧ CC X (d - 1) 137 [.ref a] M (XC X d 111 10 13 L st Q)) := H_virt [] rfl (by decide) rfl rfl rfl rfl rfl hd hs
theorem x111_13 : XX X d 111 (13, L, [.int (ii p)], M) Q = Q (.inl (some (.int (ii p)))) M := G_ret rfl ⟨⟨⟨rfl, rfl, rfl, by decide⟩, rfl, rfl⟩, rfl, rfl⟩ rfl
theorem e111 : CC X d 111 [.ref a, .int x] M Q = XX X d 111 (0, [some (.ref a), some (.int x)], [], M) Q := H_ent rfl rfl
-- 112 X8_patternByMatches (I)I
theorem x112_0 : XX X d 112 (0, [some (.ref a), l1, l2], st, M) Q = XX X d 112 (1, [some (.ref a), l1, l2], .ref a :: st, M) Q := H_ld rfl rfl rfl rfl rfl
theorem x112_0n : XX X d 112 (0, [some (.null), l1, l2], st, M) Q = XX X d 112 (1, [some (.null), l1, l2], .null :: st, M) Q := H_ld rfl rfl rfl rfl rfl
theorem x112_1 : XX X d 112 (1, L, .ref a :: st, M) Q = yg (M.2.2 a) 8 13 X d 112 4 L st M Q := G_getf rfl (by decide) rfl rfl rfl
theorem x112_4 (hd : 0 < d) (hs : stB st = true) : XX X d 112 (4, L, .ref a :: st, M) Q = (mcl M a = some 6 ∧ CC X (d - 1) 67 [.ref a] M (XC X d 112 4 7 L st Q)) := H_virt [] rfl (by decide) rfl rfl rfl rfl rfl hd hs
theorem x112_7 : XX X d 112 (7, L, st, M) Q = XX X d 112 (8, L, .int (ii 0) :: st, M) Q := G_cst rfl rfl rfl rfl rfl
theorem x112_8 (h : wide (some l1) = false) : XX X d 112 (8, [l0, l1, l2], .int x :: st, M) Q = XX X d 112 (9, [l0, l1, some (.int x)], st, M) Q := H_st rfl rfl rfl rfl rfl rfl rfl rfl (Or.inr h)
theorem x112_9 : XX X d 112 (9, [l0, l1, some (.int x)], st, M) Q = XX X d 112 (10, [l0, l1, some (.int x)], .int x :: st, M) Q := H_ld rfl rfl rfl rfl rfl
theorem x112_10 : XX X d 112 (10, [some (.ref a), l1, l2], st, M) Q = XX X d 112 (11, [some (.ref a), l1, l2], .ref a :: st, M) Q := H_ld rfl rfl rfl rfl rfl
theorem x112_10n : XX X d 112 (10, [some (.null), l1, l2], st, M) Q = XX X d 112 (11, [some (.null), l1, l2], .null :: st, M) Q := H_ld rfl rfl rfl rfl rfl
theorem x112_11 : XX X d 112 (11, L, .ref a :: st, M) Q = yg (M.2.2 a) 8 2 X d 112 14 L st M Q := G_getf rfl (by decide) rfl rfl rfl
theorem x112_14 (hd : 0 < d) (hs : stB st = true) : XX X d 112 (14, L, .ref a :: st, M) Q = (mcl M a = some 1 ∧ CC X (d - 1) 16 [.ref a] M (XC X d 112 14 17 L st Q)) := H_virt [] rfl (by decide) rfl rfl rfl rfl rfl hd hs
theorem x112_17 (h : -2147483648 ≤ p ∧ p ≤ 2147483647 ∧ -2147483648 ≤ q ∧ q ≤ 2147483647) : XX X d 112 (17, L, .int (ii q) :: .int (ii p) :: st, M) Q = bq (q ≤ p) X d 112 49 20 L st M Q := H_if2 rfl ⟨rfl, rfl, rfl, by decide⟩ rfl rfl rfl rfl (D_le h)
theorem x112_20 : XX X d 112 (20, [some (.ref a), l1, l2], st, M) Q = XX X d 112 (21, [some (.ref a), l1, l2], .ref a :: st, M) Q := H_ld rfl rfl rfl rfl rfl
theorem x112_20n : XX X d 112 (20, [some (.null), l1, l2], st, M) Q = XX X d 112 (21, [some (.null), l1, l2], .null :: st, M) Q := H_ld rfl rfl rfl rfl rfl
theorem x112_21 : XX X d 112 (21, [some (.ref a), l1, l2], st, M) Q = XX X d 112 (22, [some (.ref a), l1, l2], .ref a :: st, M) Q := H_ld rfl rfl rfl rfl rfl
theorem x112_21n : XX X d 112 (21, [some (.null), l1, l2], st, M) Q = XX X d 112 (22, [some (.null), l1, l2], .null :: st, M) Q := H_ld rfl rfl rfl rfl rfl
theorem x112_22 : XX X d 112 (22, [l0, l1, some (.int x)], st, M) Q = XX X d 112 (23, [l0, l1, some (.int x)], .int x :: st, M) Q := H_ld rfl rfl rfl rfl rfl
theorem x112_23 {v1 : Value} (hd : 0 < d) (hs : stB st = true) : XX X d 112 (23, L, v1 :: .ref a :: st, M) Q = (mcl M a = some 8 ∧ CC X (d - 1) 123 [.ref a, v1] M (XC X d 112 23 26 L st Q)) := H_virt [v1] rfl (by decide) rfl rfl rfl rfl rfl hd hs
theorem x112_26 {v1 : Value} (hd : 0 < d) (hs : stB st = true) : XX X d 112 (26, L, v1 :: .ref a :: st, M) Q = (mcl M a = some 8 ∧ CC X (d - 1) 135 [.ref a, v1] M (XC X d 112 26 29 L st Q)) := H_virt [v1] rfl (by decide) rfl rfl rfl rfl rfl hd hs
theorem x112_29 : XX X d 112 (29, [some (.ref a), l1, l2], st, M) Q = XX X d 112 (30, [some (.ref a), l1, l2], .ref a :: st, M) Q := H_ld rfl rfl rfl rfl rfl
theorem x112_29n : XX X d 112 (29, [some (.null), l1, l2], st, M) Q = XX X d 112 (30, [some (.null), l1, l2], .null :: st, M) Q := H_ld rfl rfl rfl rfl rfl
theorem x112_30 : XX X d 112 (30, L, .ref a :: st, M) Q = yg (M.2.2 a) 8 13 X d 112 33 L st M Q := G_getf rfl (by decide) rfl rfl rfl
theorem x112_33 : XX X d 112 (33, [some (.ref a), l1, l2], st, M) Q = XX X d 112 (34, [some (.ref a), l1, l2], .ref a :: st, M) Q := H_ld rfl rfl rfl rfl rfl
theorem x112_33n : XX X d 112 (33, [some (.null), l1, l2], st, M) Q = XX X d 112 (34, [some (.null), l1, l2], .null :: st, M) Q := H_ld rfl rfl rfl rfl rfl
theorem x112_34 : XX X d 112 (34, L, .ref a :: st, M) Q = yg (M.2.2 a) 8 11 X d 112 37 L st M Q := G_getf rfl (by decide) rfl rfl rfl
theorem x112_37 (hd : 0 < d) (hs : stB st = true) : XX X d 112 (37, L, .ref a :: st, M) Q = (mcl M a = some 6 ∧ CC X (d - 1) 58 [.ref a] M (XC X d 112 37 40 L st Q)) := H_virt [] rfl (by decide) rfl rfl rfl rfl rfl hd hs
theorem x112_40 {v1 : Value} (hd : 0 < d) (hs : stB st = true) : XX X d 112 (40, L, v1 :: .ref a :: st, M) Q = (mcl M a = some 6 ∧ CC X (d - 1) 63 [.ref a, v1] M (XC X d 112 40 43 L st Q)) := H_virt [v1] rfl (by decide) rfl rfl rfl rfl rfl hd hs
theorem x112_43 (h : wide (some l1) = false) : XX X d 112 (43, [l0, l1, some (.int (ii p))], st, M) Q = XX X d 112 (46, [l0, l1, some (.int (ii (p + 1)))], st, M) Q := H_inc rfl (by decide) rfl rfl rfl (Or.inr h)
theorem x112_46 : XX X d 112 (46, L, st, M) Q = XX X d 112 (9, L, st, M) Q := H_jmp rfl (by decide) rfl
theorem x112_49 : XX X d 112 (49, L, st, M) Q = XX X d 112 (50, L, .int (ii 0) :: st, M) Q := G_cst rfl rfl rfl rfl rfl
theorem x112_50 (h : wide (some l1) = false) : XX X d 112 (50, [l0, l1, l2], .int x :: st, M) Q = XX X d 112 (51, [l0, l1, some (.int x)], st, M) Q := H_st rfl rfl rfl rfl rfl rfl rfl rfl (Or.inr h)
theorem x112_51 : XX X d 112 (51, [l0, l1, some (.int x)], st, M) Q = XX X d 112 (52, [l0, l1, some (.int x)], .int x :: st, M) Q := H_ld rfl rfl rfl rfl rfl
theorem x112_52 : XX X d 112 (52, [some (.ref a), l1, l2], st, M) Q = XX X d 112 (53, [some (.ref a), l1, l2], .ref a :: st, M) Q := H_ld rfl rfl rfl rfl rfl
theorem x112_52n : XX X d 112 (52, [some (.null), l1, l2], st, M) Q = XX X d 112 (53, [some (.null), l1, l2], .null :: st, M) Q := H_ld rfl rfl rfl rfl rfl
theorem x112_53 : XX X d 112 (53, L, .ref a :: st, M) Q = yg (M.2.2 a) 8 13 X d 112 56 L st M Q := G_getf rfl (by decide) rfl rfl rfl
theorem x112_56 (hd : 0 < d) (hs : stB st = true) : XX X d 112 (56, L, .ref a :: st, M) Q = (mcl M a = some 6 ∧ CC X (d - 1) 58 [.ref a] M (XC X d 112 56 59 L st Q)) := H_virt [] rfl (by decide) rfl rfl rfl rfl rfl hd hs
theorem x112_59 (h : -2147483648 ≤ p ∧ p ≤ 2147483647 ∧ -2147483648 ≤ q ∧ q ≤ 2147483647) : XX X d 112 (59, L, .int (ii q) :: .int (ii p) :: st, M) Q = bq (q ≤ p) X d 112 79 62 L st M Q := H_if2 rfl ⟨rfl, rfl, rfl, by decide⟩ rfl rfl rfl rfl (D_le h)
theorem x112_62 : XX X d 112 (62, [some (.ref a), l1, l2], st, M) Q = XX X d 112 (63, [some (.ref a), l1, l2], .ref a :: st, M) Q := H_ld rfl rfl rfl rfl rfl
theorem x112_62n : XX X d 112 (62, [some (.null), l1, l2], st, M) Q = XX X d 112 (63, [some (.null), l1, l2], .null :: st, M) Q := H_ld rfl rfl rfl rfl rfl
theorem x112_63 : XX X d 112 (63, [l0, l1, some (.int x)], st, M) Q = XX X d 112 (64, [l0, l1, some (.int x)], .int x :: st, M) Q := H_ld rfl rfl rfl rfl rfl
theorem x112_64 {v1 : Value} (hd : 0 < d) (hs : stB st = true) : XX X d 112 (64, L, v1 :: .ref a :: st, M) Q = (mcl M a = some 8 ∧ CC X (d - 1) 138 [.ref a, v1] M (XC X d 112 64 67 L st Q)) := H_virt [v1] rfl (by decide) rfl rfl rfl rfl rfl hd hs
theorem x112_67 : XX X d 112 (67, [l0, some (.int x), l2], st, M) Q = XX X d 112 (68, [l0, some (.int x), l2], .int x :: st, M) Q := H_ld rfl rfl rfl rfl rfl
theorem x112_68 (h : -2147483648 ≤ p ∧ p ≤ 2147483647 ∧ -2147483648 ≤ q ∧ q ≤ 2147483647) : XX X d 112 (68, L, .int (ii q) :: .int (ii p) :: st, M) Q = bq (p ≠ q) X d 112 73 71 L st M Q := H_if2 rfl ⟨rfl, rfl, rfl, by decide⟩ rfl rfl rfl rfl (D_ne h)
theorem x112_71 : XX X d 112 (71, [l0, l1, some (.int x)], st, M) Q = XX X d 112 (72, [l0, l1, some (.int x)], .int x :: st, M) Q := H_ld rfl rfl rfl rfl rfl
theorem x112_72 : XX X d 112 (72, L, [.int (ii p)], M) Q = Q (.inl (some (.int (ii p)))) M := G_ret rfl ⟨⟨⟨rfl, rfl, rfl, by decide⟩, rfl, rfl⟩, rfl, rfl⟩ rfl
theorem x112_73 (h : wide (some l1) = false) : XX X d 112 (73, [l0, l1, some (.int (ii p))], st, M) Q = XX X d 112 (76, [l0, l1, some (.int (ii (p + 1)))], st, M) Q := H_inc rfl (by decide) rfl rfl rfl (Or.inr h)
theorem x112_76 : XX X d 112 (76, L, st, M) Q = XX X d 112 (51, L, st, M) Q := H_jmp rfl (by decide) rfl
theorem x112_79 (hs : stB st = true) : XX X d 112 (79, L, st, M) Q = Q (.inr 3) (mthr M) := H_thr rfl (by decide) rfl hs
theorem e112 : CC X d 112 [.ref a, .int x] M Q = XX X d 112 (0, [some (.ref a), some (.int x), none], [], M) Q := H_ent rfl rfl
-- 113 X8_meanMatchLength (I)D
theorem x113_0 : XX X d 113 (0, [some (.ref a), l1, l2], st, M) Q = XX X d 113 (1, [some (.ref a), l1, l2], .ref a :: st, M) Q := H_ld rfl rfl rfl rfl rfl
theorem x113_0n : XX X d 113 (0, [some (.null), l1, l2], st, M) Q = XX X d 113 (1, [some (.null), l1, l2], .null :: st, M) Q := H_ld rfl rfl rfl rfl rfl
theorem x113_1 : XX X d 113 (1, [some (.ref a), l1, l2], st, M) Q = XX X d 113 (2, [some (.ref a), l1, l2], .ref a :: st, M) Q := H_ld rfl rfl rfl rfl rfl
theorem x113_1n : XX X d 113 (1, [some (.null), l1, l2], st, M) Q = XX X d 113 (2, [some (.null), l1, l2], .null :: st, M) Q := H_ld rfl rfl rfl rfl rfl
theorem x113_2 : XX X d 113 (2, [l0, some (.int x), l2], st, M) Q = XX X d 113 (3, [l0, some (.int x), l2], .int x :: st, M) Q := H_ld rfl rfl rfl rfl rfl
theorem x113_3 {v1 : Value} (hd : 0 < d) (hs : stB st = true) : XX X d 113 (3, L, v1 :: .ref a :: st, M) Q = (mcl M a = some 8 ∧ CC X (d - 1) 123 [.ref a, v1] M (XC X d 113 3 6 L st Q)) := H_virt [v1] rfl (by decide) rfl rfl rfl rfl rfl hd hs
theorem x113_6 {v1 : Value} (hd : 0 < d) (hs : stB st = true) : XX X d 113 (6, L, v1 :: .ref a :: st, M) Q = (mcl M a = some 8 ∧ CC X (d - 1) 135 [.ref a, v1] M (XC X d 113 6 9 L st Q)) := H_virt [v1] rfl (by decide) rfl rfl rfl rfl rfl hd hs
theorem x113_9 : XX X d 113 (9, [some (.ref a), l1, l2], st, M) Q = XX X d 113 (10, [some (.ref a), l1, l2], .ref a :: st, M) Q := H_ld rfl rfl rfl rfl rfl
theorem x113_9n : XX X d 113 (9, [some (.null), l1, l2], st, M) Q = XX X d 113 (10, [some (.null), l1, l2], .null :: st, M) Q := H_ld rfl rfl rfl rfl rfl
theorem x113_10 : XX X d 113 (10, L, .ref a :: st, M) Q = yg (M.2.2 a) 8 11 X d 113 13 L st M Q := G_getf rfl (by decide) rfl rfl rfl
theorem x113_13 (hd : 0 < d) (hs : stB st = true) : XX X d 113 (13, L, .ref a :: st, M) Q = (mcl M a = some 6 ∧ CC X (d - 1) 58 [.ref a] M (XC X d 113 13 16 L st Q)) := H_virt [] rfl (by decide) rfl rfl rfl rfl rfl hd hs
theorem x113_16 (h : wide (some l1) = false) : XX X d 113 (16, [l0, l1, l2], .int x :: st, M) Q = XX X d 113 (17, [l0, l1, some (.int x)], st, M) Q := H_st rfl rfl rfl rfl rfl rfl rfl rfl (Or.inr h)
theorem x113_17 : XX X d 113 (17, [l0, l1, some (.int x)], st, M) Q = XX X d 113 (18, [l0, l1, some (.int x)], .int x :: st, M) Q := H_ld rfl rfl rfl rfl rfl
theorem x113_18 (h : -2147483648 ≤ p ∧ p ≤ 2147483647) : XX X d 113 (18, L, .int (ii p) :: st, M) Q = bq (p ≠ 0) X d 113 32 21 L st M Q := H_if rfl ⟨rfl, rfl, rfl, by decide⟩ rfl rfl rfl rfl (D_ne (b := 0) (by omega))
theorem x113_18b : XX X d 113 (18, L, .int (ii (b2i b)) :: st, M) Q = bq (b = true) X d 113 32 21 L st M Q := (x113_18 (b2i_r b)).trans (by rw [b2i_n0])
theorem x113_21 (hs : stB st = true) : XX X d 113 (21, L, st, M) Q = Q (.inr 4) (mthr M) := H_thr rfl (by decide) rfl hs
theorem x113_32 : XX X d 113 (32, [some (.ref a), l1, l2], st, M) Q = XX X d 113 (33, [some (.ref a), l1, l2], .ref a :: st, M) Q := H_ld rfl rfl rfl rfl rfl
theorem x113_32n : XX X d 113 (32, [some (.null), l1, l2], st, M) Q = XX X d 113 (33, [some (.null), l1, l2], .null :: st, M) Q := H_ld rfl rfl rfl rfl rfl
theorem x113_33 (hd : 0 < d) (hs : stB st = true) : XX X d 113 (33, L, .ref a :: st, M) Q = (mcl M a = some 8 ∧ CC X (d - 1) 137 [.ref a] M (XC X d 113 33 36 L st Q)) := H_virt [] rfl (by decide) rfl rfl rfl rfl rfl hd hs
theorem x113_36 : XX X d 113 (36, L, .int x :: st, M) Q = XX X d 113 (37, L, .double (FP.i2d x) :: st, M) Q := G_sop rfl ⟨rfl, rfl, rfl, by decide⟩ rfl rfl
theorem x113_37 : XX X d 113 (37, [l0, l1, some (.int x)], st, M) Q = XX X d 113 (38, [l0, l1, some (.int x)], .int x :: st, M) Q := H_ld rfl rfl rfl rfl rfl
theorem x113_38 : XX X d 113 (38, L, .int x :: st, M) Q = XX X d 113 (39, L, .double (FP.i2d x) :: st, M) Q := G_sop rfl ⟨rfl, rfl, rfl, by decide⟩ rfl rfl
theorem x113_39 (h : nn64 (FP.ddiv w w2) = true) : XX X d 113 (39, L, .double w2 :: .double w :: st, M) Q = XX X d 113 (40, L, .double (FP.ddiv w w2) :: st, M) Q := G_sop rfl ⟨rfl, rfl, rfl, by decide⟩ (if_pos h) rfl
theorem x113_40 : XX X d 113 (40, L, [.double w], M) Q = Q (.inl (some (.double w))) M := G_ret rfl ⟨⟨⟨rfl, rfl, rfl, by decide⟩, rfl, rfl⟩, rfl, rfl⟩ rfl
theorem e113 : CC X d 113 [.ref a, .int x] M Q = XX X d 113 (0, [some (.ref a), some (.int x), none], [], M) Q := H_ent rfl rfl
-- 114 X8_coverage (I)F
theorem x114_0 : XX X d 114 (0, [some (.ref a), l1, l2, l3], st, M) Q = XX X d 114 (1, [some (.ref a), l1, l2, l3], .ref a :: st, M) Q := H_ld rfl rfl rfl rfl rfl
theorem x114_0n : XX X d 114 (0, [some (.null), l1, l2, l3], st, M) Q = XX X d 114 (1, [some (.null), l1, l2, l3], .null :: st, M) Q := H_ld rfl rfl rfl rfl rfl
theorem x114_1 : XX X d 114 (1, [l0, some (.int x), l2, l3], st, M) Q = XX X d 114 (2, [l0, some (.int x), l2, l3], .int x :: st, M) Q := H_ld rfl rfl rfl rfl rfl
theorem x114_2 {v1 : Value} (hd : 0 < d) (hs : stB st = true) : XX X d 114 (2, L, v1 :: .ref a :: st, M) Q = (mcl M a = some 8 ∧ CC X (d - 1) 123 [.ref a, v1] M (XC X d 114 2 5 L st Q)) := H_virt [v1] rfl (by decide) rfl rfl rfl rfl rfl hd hs
theorem x114_5 (h : wide (some l1) = false) : XX X d 114 (5, [l0, l1, l2, l3], .ref a :: st, M) Q = XX X d 114 (6, [l0, l1, some (.ref a), l3], st, M) Q := H_st rfl rfl rfl rfl rfl rfl rfl rfl (Or.inr h)
theorem x114_5n (h : wide (some l1) = false) : XX X d 114 (5, [l0, l1, l2, l3], .null :: st, M) Q = XX X d 114 (6, [l0, l1, some (.null), l3], st, M) Q := H_st rfl rfl rfl rfl rfl rfl rfl rfl (Or.inr h)
theorem x114_6 : XX X d 114 (6, [some (.ref a), l1, l2, l3], st, M) Q = XX X d 114 (7, [some (.ref a), l1, l2, l3], .ref a :: st, M) Q := H_ld rfl rfl rfl rfl rfl
theorem x114_6n : XX X d 114 (6, [some (.null), l1, l2, l3], st, M) Q = XX X d 114 (7, [some (.null), l1, l2, l3], .null :: st, M) Q := H_ld rfl rfl rfl rfl rfl
theorem x114_7 : XX X d 114 (7, L, .ref a :: st, M) Q = yg (M.2.2 a) 8 2 X d 114 10 L st M Q := G_getf rfl (by decide) rfl rfl rfl
theorem x114_10 : XX X d 114 (10, L, .ref a :: st, M) Q = yg (M.2.2 a) 1 2 X d 114 13 L st M Q := G_getf rfl (by decide) rfl rfl rfl
theorem x114_13 (hd : 0 < d) (hs : stB st = true) : XX X d 114 (13, L, .ref a :: st, M) Q = (mcl M a = some 6 ∧ CC X (d - 1) 58 [.ref a] M (XC X d 114 13 16 L st Q)) := H_virt [] rfl (by decide) rfl rfl rfl rfl rfl hd hs
theorem x114_16 (h : wide (some l2) = false) : XX X d 114 (16, [l0, l1, l2, l3], .int x :: st, M) Q = XX X d 114 (17, [l0, l1, l2, some (.int x)], st, M) Q := H_st rfl rfl rfl rfl rfl rfl rfl rfl (Or.inr h)
theorem x114_17 : XX X d 114 (17, [l0, l1, l2, some (.int x)], st, M) Q = XX X d 114 (18, [l0, l1, l2, some (.int x)], .int x :: st, M) Q := H_ld rfl rfl rfl rfl rfl
theorem x114_18 (h : -2147483648 ≤ p ∧ p ≤ 2147483647) : XX X d 114 (18, L, .int (ii p) :: st, M) Q = bq (p ≠ 0) X d 114 32 21 L st M Q := H_if rfl ⟨rfl, rfl, rfl, by decide⟩ rfl rfl rfl rfl (D_ne (b := 0) (by omega))
theorem x114_18b : XX X d 114 (18, L, .int (ii (b2i b)) :: st, M) Q = bq (b = true) X d 114 32 21 L st M Q := (x114_18 (b2i_r b)).trans (by rw [b2i_n0])
theorem x114_21 (hs : stB st = true) : XX X d 114 (21, L, st, M) Q = Q (.inr 4) (mthr M) := H_thr rfl (by decide) rfl hs
theorem x114_32 : XX X d 114 (32, [some (.ref a), l1, l2, l3], st, M) Q = XX X d 114 (33, [some (.ref a), l1, l2, l3], .ref a :: st, M) Q := H_ld rfl rfl rfl rfl rfl
theorem x114_32n : XX X d 114 (32, [some (.null), l1, l2, l3], st, M) Q = XX X d 114 (33, [some (.null), l1, l2, l3], .null :: st, M) Q := H_ld rfl rfl rfl rfl rfl
theorem x114_33 : XX X d 114 (33, [l0, l1, some (.ref a), l3], st, M) Q = XX X d 114 (34, [l0, l1, some (.ref a), l3], .ref a :: st, M) Q := H_ld rfl rfl rfl rfl rfl
theorem x114_33n : XX X d 114 (33, [l0, l1, some (.null), l3], st, M) Q = XX X d 114 (34, [l0, l1, some (.null), l3], .null :: st, M) Q := H_ld rfl rfl rfl rfl rfl
theorem x114_34 {v1 : Value} (hd : 0 < d) (hs : stB st = true) : XX X d 114 (34, L, v1 :: .ref a :: st, M) Q = (mcl M a = some 8 ∧ CC X (d - 1) 135 [.ref a, v1] M (XC X d 114 34 37 L st Q)) := H_virt [v1] rfl (by decide) rfl rfl rfl rfl rfl hd hs
theorem x114_37 : XX X d 114 (37, [some (.ref a), l1, l2, l3], st, M) Q = XX X d 114 (38, [some (.ref a), l1, l2, l3], .ref a :: st, M) Q := H_ld rfl rfl rfl rfl rfl
theorem x114_37n : XX X d 114 (37, [some (.null), l1, l2, l3], st, M) Q = XX X d 114 (38, [some (.null), l1, l2, l3], .null :: st, M) Q := H_ld rfl rfl rfl rfl rfl
theorem x114_38 (hd : 0 < d) (hs : stB st = true) : XX X d 114 (38, L, .ref a :: st, M) Q = (mcl M a = some 8 ∧ CC X (d - 1) 137 [.ref a] M (XC X d 114 38 41 L st Q)) := H_virt [] rfl (by decide) rfl rfl rfl rfl rfl hd hs
theorem x114_41 : XX X d 114 (41, L, .int x :: st, M) Q = XX X d 114 (42, L, .float (FP.i2f x) :: st, M) Q := G_sop rfl ⟨rfl, rfl, rfl, by decide⟩ rfl rfl
theorem x114_42 : XX X d 114 (42, [l0, l1, l2, some (.int x)], st, M) Q = XX X d 114 (43, [l0, l1, l2, some (.int x)], .int x :: st, M) Q := H_ld rfl rfl rfl rfl rfl
theorem x114_43 : XX X d 114 (43, L, .int x :: st, M) Q = XX X d 114 (44, L, .float (FP.i2f x) :: st, M) Q := G_sop rfl ⟨rfl, rfl, rfl, by decide⟩ rfl rfl
theorem x114_44 (h : nn32 (FP.fdiv z z2) = true) : XX X d 114 (44, L, .float z2 :: .float z :: st, M) Q = XX X d 114 (45, L, .float (FP.fdiv z z2) :: st, M) Q := G_sop rfl ⟨rfl, rfl, rfl, by decide⟩ (if_pos h) rfl
theorem x114_45 : XX X d 114 (45, L, [.float z], M) Q = Q (.inl (some (.float z))) M := G_ret rfl ⟨⟨⟨rfl, rfl, rfl, by decide⟩, rfl, rfl⟩, rfl, rfl⟩ rfl
theorem e114 : CC X d 114 [.ref a, .int x] M Q = XX X d 114 (0, [some (.ref a), some (.int x), none, none], [], M) Q := H_ent rfl rfl
-- 115 X8_isConsistent ()Z
theorem x115_0 : XX X d 115 (0, L, st, M) Q = XX X d 115 (1, L, .int (ii 0) :: st, M) Q := G_cst rfl rfl rfl rfl rfl
theorem x115_1 (h : wide (some l0) = false) : XX X d 115 (1, [l0, l1, l2, l3], .int x :: st, M) Q = XX X d 115 (2, [l0, some (.int x), l2, l3], st, M) Q := H_st rfl rfl rfl rfl rfl rfl rfl rfl (Or.inr h)
theorem x115_2 : XX X d 115 (2, [l0, some (.int x), l2, l3], st, M) Q = XX X d 115 (3, [l0, some (.int x), l2, l3], .int x :: st, M) Q := H_ld rfl rfl rfl rfl rfl
theorem x115_3 : XX X d 115 (3, [some (.ref a), l1, l2, l3], st, M) Q = XX X d 115 (4, [some (.ref a), l1, l2, l3], .ref a :: st, M) Q := H_ld rfl rfl rfl rfl rfl
theorem x115_3n : XX X d 115 (3, [some (.null), l1, l2, l3], st, M) Q = XX X d 115 (4, [some (.null), l1, l2, l3], .null :: st, M) Q := H_ld rfl rfl rfl rfl rfl
theorem x115_4 : XX X d 115 (4, L, .ref a :: st, M) Q = yg (M.2.2 a) 8 2 X d 115 7 L st M Q := G_getf rfl (by decide) rfl rfl rfl
theorem x115_7 (hd : 0 < d) (hs : stB st = true) : XX X d 115 (7, L, .ref a :: st, M) Q = (mcl M a = some 1 ∧ CC X (d - 1) 16 [.ref a] M (XC X d 115 7 10 L st Q)) := H_virt [] rfl (by decide) rfl rfl rfl rfl rfl hd hs
theorem x115_10 (h : -2147483648 ≤ p ∧ p ≤ 2147483647 ∧ -2147483648 ≤ q ∧ q ≤ 2147483647) : XX X d 115 (10, L, .int (ii q) :: .int (ii p) :: st, M) Q = bq (q ≤ p) X d 115 58 13 L st M Q := H_if2 rfl ⟨rfl, rfl, rfl, by decide⟩ rfl rfl rfl rfl (D_le h)
theorem x115_13 : XX X d 115 (13, [some (.ref a), l1, l2, l3], st, M) Q = XX X d 115 (14, [some (.ref a), l1, l2, l3], .ref a :: st, M) Q := H_ld rfl rfl rfl rfl rfl
theorem x115_13n : XX X d 115 (13, [some (.null), l1, l2, l3], st, M) Q = XX X d 115 (14, [some (.null), l1, l2, l3], .null :: st, M) Q := H_ld rfl rfl rfl rfl rfl
theorem x115_14 : XX X d 115 (14, [l0, some (.int x), l2, l3], st, M) Q = XX X d 115 (15, [l0, some (.int x), l2, l3], .int x :: st, M) Q := H_ld rfl rfl rfl rfl rfl
theorem x115_15 {v1 : Value} (hd : 0 < d) (hs : stB st = true) : XX X d 115 (15, L, v1 :: .ref a :: st, M) Q = (mcl M a = some 8 ∧ CC X (d - 1) 123 [.ref a, v1] M (XC X d 115 15 18 L st Q)) := H_virt [v1] rfl (by decide) rfl rfl rfl rfl rfl hd hs
theorem x115_18 (h : wide (some l1) = false) : XX X d 115 (18, [l0, l1, l2, l3], .ref a :: st, M) Q = XX X d 115 (19, [l0, l1, some (.ref a), l3], st, M) Q := H_st rfl rfl rfl rfl rfl rfl rfl rfl (Or.inr h)
theorem x115_18n (h : wide (some l1) = false) : XX X d 115 (18, [l0, l1, l2, l3], .null :: st, M) Q = XX X d 115 (19, [l0, l1, some (.null), l3], st, M) Q := H_st rfl rfl rfl rfl rfl rfl rfl rfl (Or.inr h)
theorem x115_19 : XX X d 115 (19, L, st, M) Q = XX X d 115 (20, L, .int (ii 0) :: st, M) Q := G_cst rfl rfl rfl rfl rfl
theorem x115_20 (h : wide (some l2) = false) : XX X d 115 (20, [l0, l1, l2, l3], .int x :: st, M) Q = XX X d 115 (21, [l0, l1, l2, some (.int x)], st, M) Q := H_st rfl rfl rfl rfl rfl rfl rfl rfl (Or.inr h)
theorem x115_21 : XX X d 115 (21, [l0, l1, l2, some (.int x)], st, M) Q = XX X d 115 (22, [l0, l1, l2, some (.int x)], .int x :: st, M) Q := H_ld rfl rfl rfl rfl rfl
theorem x115_22 : XX X d 115 (22, [some (.ref a), l1, l2, l3], st, M) Q = XX X d 115 (23, [some (.ref a), l1, l2, l3], .ref a :: st, M) Q := H_ld rfl rfl rfl rfl rfl
theorem x115_22n : XX X d 115 (22, [some (.null), l1, l2, l3], st, M) Q = XX X d 115 (23, [some (.null), l1, l2, l3], .null :: st, M) Q := H_ld rfl rfl rfl rfl rfl
theorem x115_23 : XX X d 115 (23, L, .ref a :: st, M) Q = yg (M.2.2 a) 8 2 X d 115 26 L st M Q := G_getf rfl (by decide) rfl rfl rfl
theorem x115_26 : XX X d 115 (26, L, .ref a :: st, M) Q = yg (M.2.2 a) 1 2 X d 115 29 L st M Q := G_getf rfl (by decide) rfl rfl rfl
theorem x115_29 (hd : 0 < d) (hs : stB st = true) : XX X d 115 (29, L, .ref a :: st, M) Q = (mcl M a = some 6 ∧ CC X (d - 1) 58 [.ref a] M (XC X d 115 29 32 L st Q)) := H_virt [] rfl (by decide) rfl rfl rfl rfl rfl hd hs
theorem x115_32 (h : -2147483648 ≤ p ∧ p ≤ 2147483647 ∧ -2147483648 ≤ q ∧ q ≤ 2147483647) : XX X d 115 (32, L, .int (ii q) :: .int (ii p) :: st, M) Q = bq (q < p) X d 115 52 35 L st M Q := H_if2 rfl ⟨rfl, rfl, rfl, by decide⟩ rfl rfl rfl rfl (D_gt h)
theorem x115_35 : XX X d 115 (35, [some (.ref a), l1, l2, l3], st, M) Q = XX X d 115 (36, [some (.ref a), l1, l2, l3], .ref a :: st, M) Q := H_ld rfl rfl rfl rfl rfl
theorem x115_35n : XX X d 115 (35, [some (.null), l1, l2, l3], st, M) Q = XX X d 115 (36, [some (.null), l1, l2, l3], .null :: st, M) Q := H_ld rfl rfl rfl rfl rfl
theorem x115_36 : XX X d 115 (36, [l0, l1, some (.ref a), l3], st, M) Q = XX X d 115 (37, [l0, l1, some (.ref a), l3], .ref a :: st, M) Q := H_ld rfl rfl rfl rfl rfl
theorem x115_36n : XX X d 115 (36, [l0, l1, some (.null), l3], st, M) Q = XX X d 115 (37, [l0, l1, some (.null), l3], .null :: st, M) Q := H_ld rfl rfl rfl rfl rfl
theorem x115_37 : XX X d 115 (37, [l0, l1, l2, some (.int x)], st, M) Q = XX X d 115 (38, [l0, l1, l2, some (.int x)], .int x :: st, M) Q := H_ld rfl rfl rfl rfl rfl
theorem x115_38 {v1 v2 : Value} (hd : 0 < d) (hs : stB st = true) : XX X d 115 (38, L, v2 :: v1 :: .ref a :: st, M) Q = (mcl M a = some 8 ∧ CC X (d - 1) 134 [.ref a, v1, v2] M (XC X d 115 38 41 L st Q)) := H_virt [v1, v2] rfl (by decide) rfl rfl rfl rfl rfl hd hs
theorem x115_41 (h : -2147483648 ≤ p ∧ p ≤ 2147483647) : XX X d 115 (41, L, .int (ii p) :: st, M) Q = bq (p ≠ 0) X d 115 46 44 L st M Q := H_if rfl ⟨rfl, rfl, rfl, by decide⟩ rfl rfl rfl rfl (D_ne (b := 0) (by omega))
theorem x115_41b : XX X d 115 (41, L, .int (ii (b2i b)) :: st, M) Q = bq (b = true) X d 115 46 44 L st M Q := (x115_41 (b2i_r b)).trans (by rw [b2i_n0])
theorem x115_44 : XX X d 115 (44, L, st, M) Q = XX X d 115 (45, L, .int (ii 0) :: st, M) Q := G_cst rfl rfl rfl rfl rfl
theorem x115_45 (h : p = 0 ∨ p = 1) : XX X d 115 (45, L, [.int (ii p)], M) Q = Q (.inl (some (.int (ii p)))) M := G_ret rfl ⟨⟨⟨rfl, rfl, rfl, by decide⟩, rfl, rfl⟩, rfl, rfl⟩ (bz_ok h)
theorem x115_46 (h : wide (some l2) = false) : XX X d 115 (46, [l0, l1, l2, some (.int (ii p))], st, M) Q = XX X d 115 (49, [l0, l1, l2, some (.int (ii (p + 1)))], st, M) Q := H_inc rfl (by decide) rfl rfl rfl (Or.inr h)
theorem x115_49 : XX X d 115 (49, L, st, M) Q = XX X d 115 (21, L, st, M) Q := H_jmp rfl (by decide) rfl
theorem x115_52 (h : wide (some l0) = false) : XX X d 115 (52, [l0, some (.int (ii p)), l2, l3], st, M) Q = XX X d 115 (55, [l0, some (.int (ii (p + 1))), l2, l3], st, M) Q := H_inc rfl (by decide) rfl rfl rfl (Or.inr h)
theorem x115_55 : XX X d 115 (55, L, st, M) Q = XX X d 115 (2, L, st, M) Q := H_jmp rfl (by decide) rfl
theorem x115_58 : XX X d 115 (58, L, st, M) Q = XX X d 115 (59, L, .int (ii 1) :: st, M) Q := G_cst rfl rfl rfl rfl rfl
theorem x115_59 (h : p = 0 ∨ p = 1) : XX X d 115 (59, L, [.int (ii p)], M) Q = Q (.inl (some (.int (ii p)))) M := G_ret rfl ⟨⟨⟨rfl, rfl, rfl, by decide⟩, rfl, rfl⟩, rfl, rfl⟩ (bz_ok h)
theorem e115 : CC X d 115 [.ref a] M Q = XX X d 115 (0, [some (.ref a), none, none, none], [], M) Q := H_ent rfl rfl
-- 116 X8_writeMatch (II)I
theorem x116_0 : XX X d 116 (0, [some (.ref a), l1, l2, l3, l4], st, M) Q = XX X d 116 (1, [some (.ref a), l1, l2, l3, l4], .ref a :: st, M) Q := H_ld rfl rfl rfl rfl rfl
theorem x116_0n : XX X d 116 (0, [some (.null), l1, l2, l3, l4], st, M) Q = XX X d 116 (1, [some (.null), l1, l2, l3, l4], .null :: st, M) Q := H_ld rfl rfl rfl rfl rfl
theorem x116_1 : XX X d 116 (1, [l0, some (.int x), l2, l3, l4], st, M) Q = XX X d 116 (2, [l0, some (.int x), l2, l3, l4], .int x :: st, M) Q := H_ld rfl rfl rfl rfl rfl
theorem x116_2 : XX X d 116 (2, [l0, l1, some (.int x), l3, l4], st, M) Q = XX X d 116 (3, [l0, l1, some (.int x), l3, l4], .int x :: st, M) Q := H_ld rfl rfl rfl rfl rfl
theorem x116_3 {v1 v2 : Value} (hd : 0 < d) (hs : stB st = true) : XX X d 116 (3, L, v2 :: v1 :: .ref a :: st, M) Q = (mcl M a = some 8 ∧ CC X (d - 1) 130 [.ref a, v1, v2] M (XC X d 116 3 6 L st Q)) := H_virt [v1, v2] rfl (by decide) rfl rfl rfl rfl rfl hd hs
theorem x116_6 : XX X d 116 (6, [some (.ref a), l1, l2, l3, l4], st, M) Q = XX X d 116 (7, [some (.ref a), l1, l2, l3, l4], .ref a :: st, M) Q := H_ld rfl rfl rfl rfl rfl
theorem x116_6n : XX X d 116 (6, [some (.null), l1, l2, l3, l4], st, M) Q = XX X d 116 (7, [some (.null), l1, l2, l3, l4], .null :: st, M) Q := H_ld rfl rfl rfl rfl rfl
theorem x116_7 : XX X d 116 (7, L, .ref a :: st, M) Q = yg (M.2.2 a) 8 15 X d 116 10 L st M Q := G_getf rfl (by decide) rfl rfl rfl
theorem x116_10 (hd : 0 < d) (hs : stB st = true) : XX X d 116 (10, L, .ref a :: st, M) Q = (mcl M a = some 6 ∧ CC X (d - 1) 67 [.ref a] M (XC X d 116 10 13 L st Q)) := H_virt [] rfl (by decide) rfl rfl rfl rfl rfl hd hs
theorem x116_13 : XX X d 116 (13, [some (.ref a), l1, l2, l3, l4], st, M) Q = XX X d 116 (14, [some (.ref a), l1, l2, l3, l4], .ref a :: st, M) Q := H_ld rfl rfl rfl rfl rfl
theorem x116_13n : XX X d 116 (13, [some (.null), l1, l2, l3, l4], st, M) Q = XX X d 116 (14, [some (.null), l1, l2, l3, l4], .null :: st, M) Q := H_ld rfl rfl rfl rfl rfl
theorem x116_14 : XX X d 116 (14, [some (.ref a), l1, l2, l3, l4], st, M) Q = XX X d 116 (15, [some (.ref a), l1, l2, l3, l4], .ref a :: st, M) Q := H_ld rfl rfl rfl rfl rfl
theorem x116_14n : XX X d 116 (14, [some (.null), l1, l2, l3, l4], st, M) Q = XX X d 116 (15, [some (.null), l1, l2, l3, l4], .null :: st, M) Q := H_ld rfl rfl rfl rfl rfl
theorem x116_15 : XX X d 116 (15, L, .ref a :: st, M) Q = yg (M.2.2 a) 8 9 X d 116 18 L st M Q := G_getf rfl (by decide) rfl rfl rfl
theorem x116_18 (hd : 0 < d) (hs : stB st = true) : XX X d 116 (18, L, .ref a :: st, M) Q = (mcl M a = some 0 ∧ CC X (d - 1) 2 [.ref a] M (XC X d 116 18 21 L st Q)) := H_virt [] rfl (by decide) rfl rfl rfl rfl rfl hd hs
theorem x116_21 : XX X d 116 (21, [some (.ref a), l1, l2, l3, l4], st, M) Q = XX X d 116 (22, [some (.ref a), l1, l2, l3, l4], .ref a :: st, M) Q := H_ld rfl rfl rfl rfl rfl
theorem x116_21n : XX X d 116 (21, [some (.null), l1, l2, l3, l4], st, M) Q = XX X d 116 (22, [some (.null), l1, l2, l3, l4], .null :: st, M) Q := H_ld rfl rfl rfl rfl rfl
theorem x116_22 : XX X d 116 (22, L, .ref a :: st, M) Q = yg (M.2.2 a) 8 9 X d 116 25 L st M Q := G_getf rfl (by decide) rfl rfl rfl
theorem x116_25 (hd : 0 < d) (hs : stB st = true) : XX X d 116 (25, L, .ref a :: st, M) Q = (mcl M a = some 0 ∧ CC X (d - 1) 3 [.ref a] M (XC X d 116 25 28 L st Q)) := H_virt [] rfl (by decide) rfl rfl rfl rfl rfl hd hs
theorem x116_28 {v1 v2 : Value} (hd : 0 < d) (hs : stB st = true) : XX X d 116 (28, L, v2 :: v1 :: .ref a :: st, M) Q = (mcl M a = some 8 ∧ CC X (d - 1) 140 [.ref a, v1, v2] M (XC X d 116 28 31 L st Q)) := H_virt [v1, v2] rfl (by decide) rfl rfl rfl rfl rfl hd hs
theorem x116_31 : XX X d 116 (31, [some (.ref a), l1, l2, l3, l4], st, M) Q = XX X d 116 (32, [some (.ref a), l1, l2, l3, l4], .ref a :: st, M) Q := H_ld rfl rfl rfl rfl rfl
theorem x116_31n : XX X d 116 (31, [some (.null), l1, l2, l3, l4], st, M) Q = XX X d 116 (32, [some (.null), l1, l2, l3, l4], .null :: st, M) Q := H_ld rfl rfl rfl rfl rfl
theorem x116_32 : XX X d 116 (32, [l0, some (.int x), l2, l3, l4], st, M) Q = XX X d 116 (33, [l0, some (.int x), l2, l3, l4], .int x :: st, M) Q := H_ld rfl rfl rfl rfl rfl
theorem x116_33 {v1 : Value} (hd : 0 < d) (hs : stB st = true) : XX X d 116 (33, L, v1 :: .ref a :: st, M) Q = (mcl M a = some 8 ∧ CC X (d - 1) 123 [.ref a, v1] M (XC X d 116 33 36 L st Q)) := H_virt [v1] rfl (by decide) rfl rfl rfl rfl rfl hd hs
theorem x116_36 : XX X d 116 (36, L, .ref a :: st, M) Q = yg (M.2.2 a) 4 4 X d 116 39 L st M Q := G_getf rfl (by decide) rfl rfl rfl
theorem x116_39 (h : wide (some l2) = false) : XX X d 116 (39, [l0, l1, l2, l3, l4], .int x :: st, M) Q = XX X d 116 (40, [l0, l1, l2, some (.int x), l4], st, M) Q := H_st rfl rfl rfl rfl rfl rfl rfl rfl (Or.inr h)
theorem x116_40 : XX X d 116 (40, L, st, M) Q = XX X d 116 (41, L, .int (ii 1) :: st, M) Q := G_cst rfl rfl rfl rfl rfl
theorem x116_41 (h : wide (some l3) = false) : XX X d 116 (41, [l0, l1, l2, l3, l4], .int x :: st, M) Q = XX X d 116 (43, [l0, l1, l2, l3, some (.int x)], st, M) Q := H_st rfl rfl rfl rfl rfl rfl rfl rfl (Or.inr h)
theorem x116_43 : XX X d 116 (43, [l0, l1, l2, l3, some (.int x)], st, M) Q = XX X d 116 (45, [l0, l1, l2, l3, some (.int x)], .int x :: st, M) Q := H_ld rfl rfl rfl rfl rfl
theorem x116_45 : XX X d 116 (45, [l0, l1, l2, some (.int x), l4], st, M) Q = XX X d 116 (46, [l0, l1, l2, some (.int x), l4], .int x :: st, M) Q := H_ld rfl rfl rfl rfl rfl
theorem x116_46 (h : -2147483648 ≤ p ∧ p ≤ 2147483647 ∧ -2147483648 ≤ q ∧ q ≤ 2147483647) : XX X d 116 (46, L, .int (ii q) :: .int (ii p) :: st, M) Q = bq (q < p) X d 116 113 49 L st M Q := H_if2 rfl ⟨rfl, rfl, rfl, by decide⟩ rfl rfl rfl rfl (D_gt h)
theorem x116_49 : XX X d 116 (49, [some (.ref a), l1, l2, l3, l4], st, M) Q = XX X d 116 (50, [some (.ref a), l1, l2, l3, l4], .ref a :: st, M) Q := H_ld rfl rfl rfl rfl rfl
theorem x116_49n : XX X d 116 (49, [some (.null), l1, l2, l3, l4], st, M) Q = XX X d 116 (50, [some (.null), l1, l2, l3, l4], .null :: st, M) Q := H_ld rfl rfl rfl rfl rfl
theorem x116_50 : XX X d 116 (50, L, .ref a :: st, M) Q = yg (M.2.2 a) 8 15 X d 116 53 L st M Q := G_getf rfl (by decide) rfl rfl rfl
theorem x116_53 : XX X d 116 (53, L, st, M) Q = XX X d 116 (55, L, .int (ii 59) :: st, M) Q := G_cst rfl rfl rfl rfl rfl
theorem x116_55 {v1 : Value} (hd : 0 < d) (hs : stB st = true) : XX X d 116 (55, L, v1 :: .ref a :: st, M) Q = (mcl M a = some 6 ∧ CC X (d - 1) 63 [.ref a, v1] M (XC X d 116 55 58 L st Q)) := H_virt [v1] rfl (by decide) rfl rfl rfl rfl rfl hd hs
theorem x116_58 : XX X d 116 (58, [some (.ref a), l1, l2, l3, l4], st, M) Q = XX X d 116 (59, [some (.ref a), l1, l2, l3, l4], .ref a :: st, M) Q := H_ld rfl rfl rfl rfl rfl
theorem x116_58n : XX X d 116 (58, [some (.null), l1, l2, l3, l4], st, M) Q = XX X d 116 (59, [some (.null), l1, l2, l3, l4], .null :: st, M) Q := H_ld rfl rfl rfl rfl rfl
theorem x116_59 : XX X d 116 (59, [l0, l1, l2, l3, some (.int x)], st, M) Q = XX X d 116 (61, [l0, l1, l2, l3, some (.int x)], .int x :: st, M) Q := H_ld rfl rfl rfl rfl rfl
theorem x116_61 {v1 : Value} (hd : 0 < d) (hs : stB st = true) : XX X d 116 (61, L, v1 :: .ref a :: st, M) Q = (mcl M a = some 8 ∧ CC X (d - 1) 141 [.ref a, v1] M (XC X d 116 61 64 L st Q)) := H_virt [v1] rfl (by decide) rfl rfl rfl rfl rfl hd hs
theorem x116_64 : XX X d 116 (64, [some (.ref a), l1, l2, l3, l4], st, M) Q = XX X d 116 (65, [some (.ref a), l1, l2, l3, l4], .ref a :: st, M) Q := H_ld rfl rfl rfl rfl rfl
theorem x116_64n : XX X d 116 (64, [some (.null), l1, l2, l3, l4], st, M) Q = XX X d 116 (65, [some (.null), l1, l2, l3, l4], .null :: st, M) Q := H_ld rfl rfl rfl rfl rfl
theorem x116_65 : XX X d 116 (65, L, .ref a :: st, M) Q = yg (M.2.2 a) 8 15 X d 116 68 L st M Q := G_getf rfl (by decide) rfl rfl rfl
theorem x116_68 : XX X d 116 (68, L, st, M) Q = XX X d 116 (70, L, .int (ii 58) :: st, M) Q := G_cst rfl rfl rfl rfl rfl
theorem x116_70 {v1 : Value} (hd : 0 < d) (hs : stB st = true) : XX X d 116 (70, L, v1 :: .ref a :: st, M) Q = (mcl M a = some 6 ∧ CC X (d - 1) 63 [.ref a, v1] M (XC X d 116 70 73 L st Q)) := H_virt [v1] rfl (by decide) rfl rfl rfl rfl rfl hd hs
theorem x116_73 : XX X d 116 (73, [some (.ref a), l1, l2, l3, l4], st, M) Q = XX X d 116 (74, [some (.ref a), l1, l2, l3, l4], .ref a :: st, M) Q := H_ld rfl rfl rfl rfl rfl
theorem x116_73n : XX X d 116 (73, [some (.null), l1, l2, l3, l4], st, M) Q = XX X d 116 (74, [some (.null), l1, l2, l3, l4], .null :: st, M) Q := H_ld rfl rfl rfl rfl rfl
theorem x116_74 : XX X d 116 (74, L, .ref a :: st, M) Q = yg (M.2.2 a) 8 9 X d 116 77 L st M Q := G_getf rfl (by decide) rfl rfl rfl
theorem x116_77 : XX X d 116 (77, [l0, l1, l2, l3, some (.int x)], st, M) Q = XX X d 116 (79, [l0, l1, l2, l3, some (.int x)], .int x :: st, M) Q := H_ld rfl rfl rfl rfl rfl
theorem x116_79 {v1 : Value} (hd : 0 < d) (hs : stB st = true) : XX X d 116 (79, L, v1 :: .ref a :: st, M) Q = (mcl M a = some 0 ∧ CC X (d - 1) 4 [.ref a, v1] M (XC X d 116 79 82 L st Q)) := H_virt [v1] rfl (by decide) rfl rfl rfl rfl rfl hd hs
theorem x116_82 (h : -2147483648 ≤ p ∧ p ≤ 2147483647) : XX X d 116 (82, L, .int (ii p) :: st, M) Q = bq (p = 0) X d 116 107 85 L st M Q := H_if rfl ⟨rfl, rfl, rfl, by decide⟩ rfl rfl rfl rfl (D_eq (b := 0) (by omega))
theorem x116_82b : XX X d 116 (82, L, .int (ii (b2i b)) :: st, M) Q = bq (b = false) X d 116 107 85 L st M Q := (x116_82 (b2i_r b)).trans (by rw [b2i_0])
theorem x116_85 : XX X d 116 (85, [some (.ref a), l1, l2, l3, l4], st, M) Q = XX X d 116 (86, [some (.ref a), l1, l2, l3, l4], .ref a :: st, M) Q := H_ld rfl rfl rfl rfl rfl
theorem x116_85n : XX X d 116 (85, [some (.null), l1, l2, l3, l4], st, M) Q = XX X d 116 (86, [some (.null), l1, l2, l3, l4], .null :: st, M) Q := H_ld rfl rfl rfl rfl rfl
theorem x116_86 : XX X d 116 (86, [some (.ref a), l1, l2, l3, l4], st, M) Q = XX X d 116 (87, [some (.ref a), l1, l2, l3, l4], .ref a :: st, M) Q := H_ld rfl rfl rfl rfl rfl
theorem x116_86n : XX X d 116 (86, [some (.null), l1, l2, l3, l4], st, M) Q = XX X d 116 (87, [some (.null), l1, l2, l3, l4], .null :: st, M) Q := H_ld rfl rfl rfl rfl rfl
theorem x116_87 : XX X d 116 (87, L, .ref a :: st, M) Q = yg (M.2.2 a) 8 9 X d 116 90 L st M Q := G_getf rfl (by decide) rfl rfl rfl
theorem x116_90 : XX X d 116 (90, [l0, l1, l2, l3, some (.int x)], st, M) Q = XX X d 116 (92, [l0, l1, l2, l3, some (.int x)], .int x :: st, M) Q := H_ld rfl rfl rfl rfl rfl
theorem x116_92 {v1 : Value} (hd : 0 < d) (hs : stB st = true) : XX X d 116 (92, L, v1 :: .ref a :: st, M) Q = (mcl M a = some 0 ∧ CC X (d - 1) 5 [.ref a, v1] M (XC X d 116 92 95 L st Q)) := H_virt [v1] rfl (by decide) rfl rfl rfl rfl rfl hd hs
theorem x116_95 : XX X d 116 (95, [some (.ref a), l1, l2, l3, l4], st, M) Q = XX X d 116 (96, [some (.ref a), l1, l2, l3, l4], .ref a :: st, M) Q := H_ld rfl rfl rfl rfl rfl
theorem x116_95n : XX X d 116 (95, [some (.null), l1, l2, l3, l4], st, M) Q = XX X d 116 (96, [some (.null), l1, l2, l3, l4], .null :: st, M) Q := H_ld rfl rfl rfl rfl rfl
theorem x116_96 : XX X d 116 (96, L, .ref a :: st, M) Q = yg (M.2.2 a) 8 9 X d 116 99 L st M Q := G_getf rfl (by decide) rfl rfl rfl
theorem x116_99 : XX X d 116 (99, [l0, l1, l2, l3, some (.int x)], st, M) Q = XX X d 116 (101, [l0, l1, l2, l3, some (.int x)], .int x :: st, M) Q := H_ld rfl rfl rfl rfl rfl
theorem x116_101 {v1 : Value} (hd : 0 < d) (hs : stB st = true) : XX X d 116 (101, L, v1 :: .ref a :: st, M) Q = (mcl M a = some 0 ∧ CC X (d - 1) 6 [.ref a, v1] M (XC X d 116 101 104 L st Q)) := H_virt [v1] rfl (by decide) rfl rfl rfl rfl rfl hd hs
theorem x116_104 {v1 v2 : Value} (hd : 0 < d) (hs : stB st = true) : XX X d 116 (104, L, v2 :: v1 :: .ref a :: st, M) Q = (mcl M a = some 8 ∧ CC X (d - 1) 140 [.ref a, v1, v2] M (XC X d 116 104 107 L st Q)) := H_virt [v1, v2] rfl (by decide) rfl rfl rfl rfl rfl hd hs
theorem x116_107 (h : wide (some l3) = false) : XX X d 116 (107, [l0, l1, l2, l3, some (.int (ii p))], st, M) Q = XX X d 116 (110, [l0, l1, l2, l3, some (.int (ii (p + 1)))], st, M) Q := H_inc rfl (by decide) rfl rfl rfl (Or.inr h)
theorem x116_110 : XX X d 116 (110, L, st, M) Q = XX X d 116 (43, L, st, M) Q := H_jmp rfl (by decide) rfl
theorem x116_113 : XX X d 116 (113, [some (.ref a), l1, l2, l3, l4], st, M) Q = XX X d 116 (114, [some (.ref a), l1, l2, l3, l4], .ref a :: st, M) Q := H_ld rfl rfl rfl rfl rfl
theorem x116_113n : XX X d 116 (113, [some (.null), l1, l2, l3, l4], st, M) Q = XX X d 116 (114, [some (.null), l1, l2, l3, l4], .null :: st, M) Q := H_ld rfl rfl rfl rfl rfl
theorem x116_114 : XX X d 116 (114, L, .ref a :: st, M) Q = yg (M.2.2 a) 8 15 X d 116 117 L st M Q := G_getf rfl (by decide) rfl rfl rfl
theorem x116_117 (hd : 0 < d) (hs : stB st = true) : XX X d 116 (117, L, .ref a :: st, M) Q = (mcl M a = some 6 ∧ CC X (d - 1) 58 [.ref a] M (XC X d 116 117 120 L st Q)) := H_virt [] rfl (by decide) rfl rfl rfl rfl rfl hd hs
theorem x116_120 : XX X d 116 (120, L, [.int (ii p)], M) Q = Q (.inl (some (.int (ii p)))) M := G_ret rfl ⟨⟨⟨rfl, rfl, rfl, by decide⟩, rfl, rfl⟩, rfl, rfl⟩ rfl
theorem e116 : CC X d 116 [.ref a, .int x, .int x2] M Q = XX X d 116 (0, [some (.ref a), some (.int x), some (.int x2), none, none], [], M) Q := H_ent rfl rfl
-- 117 X8_writeMarked (I)I
theorem x117_0 : XX X d 117 (0, [some (.ref a), l1, l2, l3, l4, l5], st, M) Q = XX X d 117 (1, [some (.ref a), l1, l2, l3, l4, l5], .ref a :: st, M) Q := H_ld rfl rfl rfl rfl rfl
theorem x117_0n : XX X d 117 (0, [some (.null), l1, l2, l3, l4, l5], st, M) Q = XX X d 117 (1, [some (.null), l1, l2, l3, l4, l5], .null :: st, M) Q := H_ld rfl rfl rfl rfl rfl
theorem x117_1 : XX X d 117 (1, [some (.ref a), l1, l2, l3, l4, l5], st, M) Q = XX X d 117 (2, [some (.ref a), l1, l2, l3, l4, l5], .ref a :: st, M) Q := H_ld rfl rfl rfl rfl rfl
theorem x117_1n : XX X d 117 (1, [some (.null), l1, l2, l3, l4, l5], st, M) Q = XX X d 117 (2, [some (.null), l1, l2, l3, l4, l5], .null :: st, M) Q := H_ld rfl rfl rfl rfl rfl
theorem x117_2 : XX X d 117 (2, [l0, some (.int x), l2, l3, l4, l5], st, M) Q = XX X d 117 (3, [l0, some (.int x), l2, l3, l4, l5], .int x :: st, M) Q := H_ld rfl rfl rfl rfl rfl
theorem x117_3 {v1 : Value} (hd : 0 < d) (hs : stB st = true) : XX X d 117 (3, L, v1 :: .ref a :: st, M) Q = (mcl M a = some 8 ∧ CC X (d - 1) 123 [.ref a, v1] M (XC X d 117 3 6 L st Q)) := H_virt [v1] rfl (by decide) rfl rfl rfl rfl rfl hd hs
theorem x117_6 {v1 : Value} (hd : 0 < d) (hs : stB st = true) : XX X d 117 (6, L, v1 :: .ref a :: st, M) Q = (mcl M a = some 8 ∧ CC X (d - 1) 135 [.ref a, v1] M (XC X d 117 6 9 L st Q)) := H_virt [v1] rfl (by decide) rfl rfl rfl rfl rfl hd hs
theorem x117_9 : XX X d 117 (9, [some (.ref a), l1, l2, l3, l4, l5], st, M) Q = XX X d 117 (10, [some (.ref a), l1, l2, l3, l4, l5], .ref a :: st, M) Q := H_ld rfl rfl rfl rfl rfl
theorem x117_9n : XX X d 117 (9, [some (.null), l1, l2, l3, l4, l5], st, M) Q = XX X d 117 (10, [some (.null), l1, l2, l3, l4, l5], .null :: st, M) Q := H_ld rfl rfl rfl rfl rfl
theorem x117_10 : XX X d 117 (10, L, .ref a :: st, M) Q = yg (M.2.2 a) 8 15 X d 117 13 L st M Q := G_getf rfl (by decide) rfl rfl rfl
theorem x117_13 (hd : 0 < d) (hs : stB st = true) : XX X d 117 (13, L, .ref a :: st, M) Q = (mcl M a = some 6 ∧ CC X (d - 1) 67 [.ref a] M (XC X d 117 13 16 L st Q)) := H_virt [] rfl (by decide) rfl rfl rfl rfl rfl hd hs
theorem x117_16 : XX X d 117 (16, L, st, M) Q = XX X d 117 (17, L, .int (ii 0) :: st, M) Q := G_cst rfl rfl rfl rfl rfl
theorem x117_17 (h : wide (some l1) = false) : XX X d 117 (17, [l0, l1, l2, l3, l4, l5], .int x :: st, M) Q = XX X d 117 (18, [l0, l1, some (.int x), l3, l4, l5], st, M) Q := H_st rfl rfl rfl rfl rfl rfl rfl rfl (Or.inr h)
theorem x117_18 : XX X d 117 (18, L, st, M) Q = XX X d 117 (19, L, .int (ii 0) :: st, M) Q := G_cst rfl rfl rfl rfl rfl
theorem x117_19 (h : wide (some l2) = false) : XX X d 117 (19, [l0, l1, l2, l3, l4, l5], .int x :: st, M) Q = XX X d 117 (20, [l0, l1, l2, some (.int x), l4, l5], st, M) Q := H_st rfl rfl rfl rfl rfl rfl rfl rfl (Or.inr h)
theorem x117_20 : XX X d 117 (20, [l0, l1, l2, some (.int x), l4, l5], st, M) Q = XX X d 117 (21, [l0, l1, l2, some (.int x), l4, l5], .int x :: st, M) Q := H_ld rfl rfl rfl rfl rfl
theorem x117_21 : XX X d 117 (21, [some (.ref a), l1, l2, l3, l4, l5], st, M) Q = XX X d 117 (22, [some (.ref a), l1, l2, l3, l4, l5], .ref a :: st, M) Q := H_ld rfl rfl rfl rfl rfl
theorem x117_21n : XX X d 117 (21, [some (.null), l1, l2, l3, l4, l5], st, M) Q = XX X d 117 (22, [some (.null), l1, l2, l3, l4, l5], .null :: st, M) Q := H_ld rfl rfl rfl rfl rfl
theorem x117_22 : XX X d 117 (22, L, .ref a :: st, M) Q = yg (M.2.2 a) 8 11 X d 117 25 L st M Q := G_getf rfl (by decide) rfl rfl rfl
theorem x117_25 (hd : 0 < d) (hs : stB st = true) : XX X d 117 (25, L, .ref a :: st, M) Q = (mcl M a = some 6 ∧ CC X (d - 1) 58 [.ref a] M (XC X d 117 25 28 L st Q)) := H_virt [] rfl (by decide) rfl rfl rfl rfl rfl hd hs
theorem x117_28 (h : -2147483648 ≤ p ∧ p ≤ 2147483647 ∧ -2147483648 ≤ q ∧ q ≤ 2147483647) : XX X d 117 (28, L, .int (ii q) :: .int (ii p) :: st, M) Q = bq (q ≤ p) X d 117 113 31 L st M Q := H_if2 rfl ⟨rfl, rfl, rfl, by decide⟩ rfl rfl rfl rfl (D_le h)
theorem x117_31 : XX X d 117 (31, [some (.ref a), l1, l2, l3, l4, l5], st, M) Q = XX X d 117 (32, [some (.ref a), l1, l2, l3, l4, l5], .ref a :: st, M) Q := H_ld rfl rfl rfl rfl rfl
theorem x117_31n : XX X d 117 (31, [some (.null), l1, l2, l3, l4, l5], st, M) Q = XX X d 117 (32, [some (.null), l1, l2, l3, l4, l5], .null :: st, M) Q := H_ld rfl rfl rfl rfl rfl
theorem x117_32 : XX X d 117 (32, L, .ref a :: st, M) Q = yg (M.2.2 a) 8 11 X d 117 35 L st M Q := G_getf rfl (by decide) rfl rfl rfl
theorem x117_35 : XX X d 117 (35, [l0, l1, l2, some (.int x), l4, l5], st, M) Q = XX X d 117 (36, [l0, l1, l2, some (.int x), l4, l5], .int x :: st, M) Q := H_ld rfl rfl rfl rfl rfl
theorem x117_36 {v1 : Value} (hd : 0 < d) (hs : stB st = true) : XX X d 117 (36, L, v1 :: .ref a :: st, M) Q = (mcl M a = some 6 ∧ CC X (d - 1) 61 [.ref a, v1] M (XC X d 117 36 39 L st Q)) := H_virt [v1] rfl (by decide) rfl rfl rfl rfl rfl hd hs
theorem x117_39 (h : wide (some l3) = false) : XX X d 117 (39, [l0, l1, l2, l3, l4, l5], .int x :: st, M) Q = XX X d 117 (41, [l0, l1, l2, l3, some (.int x), l5], st, M) Q := H_st rfl rfl rfl rfl rfl rfl rfl rfl (Or.inr h)
theorem x117_41 : XX X d 117 (41, [some (.ref a), l1, l2, l3, l4, l5], st, M) Q = XX X d 117 (42, [some (.ref a), l1, l2, l3, l4, l5], .ref a :: st, M) Q := H_ld rfl rfl rfl rfl rfl
theorem x117_41n : XX X d 117 (41, [some (.null), l1, l2, l3, l4, l5], st, M) Q = XX X d 117 (42, [some (.null), l1, l2, l3, l4, l5], .null :: st, M) Q := H_ld rfl rfl rfl rfl rfl
theorem x117_42 : XX X d 117 (42, L, .ref a :: st, M) Q = yg (M.2.2 a) 8 12 X d 117 45 L st M Q := G_getf rfl (by decide) rfl rfl rfl
theorem x117_45 : XX X d 117 (45, [l0, l1, l2, some (.int x), l4, l5], st, M) Q = XX X d 117 (46, [l0, l1, l2, some (.int x), l4, l5], .int x :: st, M) Q := H_ld rfl rfl rfl rfl rfl
theorem x117_46 {v1 : Value} (hd : 0 < d) (hs : stB st = true) : XX X d 117 (46, L, v1 :: .ref a :: st, M) Q = (mcl M a = some 6 ∧ CC X (d - 1) 61 [.ref a, v1] M (XC X d 117 46 49 L st Q)) := H_virt [v1] rfl (by decide) rfl rfl rfl rfl rfl hd hs
theorem x117_49 (h : wide (some l4) = false) : XX X d 117 (49, [l0, l1, l2, l3, l4, l5], .int x :: st, M) Q = XX X d 117 (51, [l0, l1, l2, l3, l4, some (.int x)], st, M) Q := H_st rfl rfl rfl rfl rfl rfl rfl rfl (Or.inr h)
theorem x117_51 : XX X d 117 (51, [some (.ref a), l1, l2, l3, l4, l5], st, M) Q = XX X d 117 (52, [some (.ref a), l1, l2, l3, l4, l5], .ref a :: st, M) Q := H_ld rfl rfl rfl rfl rfl
theorem x117_51n : XX X d 117 (51, [some (.null), l1, l2, l3, l4, l5], st, M) Q = XX X d 117 (52, [some (.null), l1, l2, l3, l4, l5], .null :: st, M) Q := H_ld rfl rfl rfl rfl rfl
theorem x117_52 : XX X d 117 (52, L, .ref a :: st, M) Q = yg (M.2.2 a) 8 15 X d 117 55 L st M Q := G_getf rfl (by decide) rfl rfl rfl
theorem x117_55 : XX X d 117 (55, [some (.ref a), l1, l2, l3, l4, l5], st, M) Q = XX X d 117 (56, [some (.ref a), l1, l2, l3, l4, l5], .ref a :: st, M) Q := H_ld rfl rfl rfl rfl rfl
theorem x117_55n : XX X d 117 (55, [some (.null), l1, l2, l3, l4, l5], st, M) Q = XX X d 117 (56, [some (.null), l1, l2, l3, l4, l5], .null :: st, M) Q := H_ld rfl rfl rfl rfl rfl
theorem x117_56 : XX X d 117 (56, L, .ref a :: st, M) Q = yg (M.2.2 a) 8 2 X d 117 59 L st M Q := G_getf rfl (by decide) rfl rfl rfl
theorem x117_59 : XX X d 117 (59, L, .ref a :: st, M) Q = yg (M.2.2 a) 1 2 X d 117 62 L st M Q := G_getf rfl (by decide) rfl rfl rfl
theorem x117_62 : XX X d 117 (62, [l0, l1, some (.int x), l3, l4, l5], st, M) Q = XX X d 117 (63, [l0, l1, some (.int x), l3, l4, l5], .int x :: st, M) Q := H_ld rfl rfl rfl rfl rfl
theorem x117_63 : XX X d 117 (63, [l0, l1, l2, l3, some (.int x), l5], st, M) Q = XX X d 117 (65, [l0, l1, l2, l3, some (.int x), l5], .int x :: st, M) Q := H_ld rfl rfl rfl rfl rfl
theorem x117_65 {v1 v2 v3 : Value} (hd : 0 < d) (hs : stB st = true) : XX X d 117 (65, L, v3 :: v2 :: v1 :: .ref a :: st, M) Q = (mcl M a = some 6 ∧ CC X (d - 1) 68 [.ref a, v1, v2, v3] M (XC X d 117 65 68 L st Q)) := H_virt [v1, v2, v3] rfl (by decide) rfl rfl rfl rfl rfl hd hs
theorem x117_68 : XX X d 117 (68, [some (.ref a), l1, l2, l3, l4, l5], st, M) Q = XX X d 117 (69, [some (.ref a), l1, l2, l3, l4, l5], .ref a :: st, M) Q := H_ld rfl rfl rfl rfl rfl
theorem x117_68n : XX X d 117 (68, [some (.null), l1, l2, l3, l4, l5], st, M) Q = XX X d 117 (69, [some (.null), l1, l2, l3, l4, l5], .null :: st, M) Q := H_ld rfl rfl rfl rfl rfl
theorem x117_69 : XX X d 117 (69, L, .ref a :: st, M) Q = yg (M.2.2 a) 8 15 X d 117 72 L st M Q := G_getf rfl (by decide) rfl rfl rfl
theorem x117_72 : XX X d 117 (72, L, st, M) Q = XX X d 117 (74, L, .int (ii 60) :: st, M) Q := G_cst rfl rfl rfl rfl rfl
theorem x117_74 {v1 : Value} (hd : 0 < d) (hs : stB st = true) : XX X d 117 (74, L, v1 :: .ref a :: st, M) Q = (mcl M a = some 6 ∧ CC X (d - 1) 63 [.ref a, v1] M (XC X d 117 74 77 L st Q)) := H_virt [v1] rfl (by decide) rfl rfl rfl rfl rfl hd hs
theorem x117_77 : XX X d 117 (77, [some (.ref a), l1, l2, l3, l4, l5], st, M) Q = XX X d 117 (78, [some (.ref a), l1, l2, l3, l4, l5], .ref a :: st, M) Q := H_ld rfl rfl rfl rfl rfl
theorem x117_77n : XX X d 117 (77, [some (.null), l1, l2, l3, l4, l5], st, M) Q = XX X d 117 (78, [some (.null), l1, l2, l3, l4, l5], .null :: st, M) Q := H_ld rfl rfl rfl rfl rfl
theorem x117_78 : XX X d 117 (78, L, .ref a :: st, M) Q = yg (M.2.2 a) 8 15 X d 117 81 L st M Q := G_getf rfl (by decide) rfl rfl rfl
theorem x117_81 : XX X d 117 (81, [some (.ref a), l1, l2, l3, l4, l5], st, M) Q = XX X d 117 (82, [some (.ref a), l1, l2, l3, l4, l5], .ref a :: st, M) Q := H_ld rfl rfl rfl rfl rfl
theorem x117_81n : XX X d 117 (81, [some (.null), l1, l2, l3, l4, l5], st, M) Q = XX X d 117 (82, [some (.null), l1, l2, l3, l4, l5], .null :: st, M) Q := H_ld rfl rfl rfl rfl rfl
theorem x117_82 : XX X d 117 (82, L, .ref a :: st, M) Q = yg (M.2.2 a) 8 2 X d 117 85 L st M Q := G_getf rfl (by decide) rfl rfl rfl
theorem x117_85 : XX X d 117 (85, L, .ref a :: st, M) Q = yg (M.2.2 a) 1 2 X d 117 88 L st M Q := G_getf rfl (by decide) rfl rfl rfl
theorem x117_88 : XX X d 117 (88, [l0, l1, l2, l3, some (.int x), l5], st, M) Q = XX X d 117 (90, [l0, l1, l2, l3, some (.int x), l5], .int x :: st, M) Q := H_ld rfl rfl rfl rfl rfl
theorem x117_90 : XX X d 117 (90, [l0, l1, l2, l3, l4, some (.int x)], st, M) Q = XX X d 117 (92, [l0, l1, l2, l3, l4, some (.int x)], .int x :: st, M) Q := H_ld rfl rfl rfl rfl rfl
theorem x117_92 {v1 v2 v3 : Value} (hd : 0 < d) (hs : stB st = true) : XX X d 117 (92, L, v3 :: v2 :: v1 :: .ref a :: st, M) Q = (mcl M a = some 6 ∧ CC X (d - 1) 68 [.ref a, v1, v2, v3] M (XC X d 117 92 95 L st Q)) := H_virt [v1, v2, v3] rfl (by decide) rfl rfl rfl rfl rfl hd hs
theorem x117_95 : XX X d 117 (95, [some (.ref a), l1, l2, l3, l4, l5], st, M) Q = XX X d 117 (96, [some (.ref a), l1, l2, l3, l4, l5], .ref a :: st, M) Q := H_ld rfl rfl rfl rfl rfl
theorem x117_95n : XX X d 117 (95, [some (.null), l1, l2, l3, l4, l5], st, M) Q = XX X d 117 (96, [some (.null), l1, l2, l3, l4, l5], .null :: st, M) Q := H_ld rfl rfl rfl rfl rfl
theorem x117_96 : XX X d 117 (96, L, .ref a :: st, M) Q = yg (M.2.2 a) 8 15 X d 117 99 L st M Q := G_getf rfl (by decide) rfl rfl rfl
theorem x117_99 : XX X d 117 (99, L, st, M) Q = XX X d 117 (101, L, .int (ii 62) :: st, M) Q := G_cst rfl rfl rfl rfl rfl
theorem x117_101 {v1 : Value} (hd : 0 < d) (hs : stB st = true) : XX X d 117 (101, L, v1 :: .ref a :: st, M) Q = (mcl M a = some 6 ∧ CC X (d - 1) 63 [.ref a, v1] M (XC X d 117 101 104 L st Q)) := H_virt [v1] rfl (by decide) rfl rfl rfl rfl rfl hd hs
theorem x117_104 : XX X d 117 (104, [l0, l1, l2, l3, l4, some (.int x)], st, M) Q = XX X d 117 (106, [l0, l1, l2, l3, l4, some (.int x)], .int x :: st, M) Q := H_ld rfl rfl rfl rfl rfl
theorem x117_106 (h : wide (some l1) = false) : XX X d 117 (106, [l0, l1, l2, l3, l4, l5], .int x :: st, M) Q = XX X d 117 (107, [l0, l1, some (.int x), l3, l4, l5], st, M) Q := H_st rfl rfl rfl rfl rfl rfl rfl rfl (Or.inr h)
theorem x117_107 (h : wide (some l2) = false) : XX X d 117 (107, [l0, l1, l2, some (.int (ii p)), l4, l5], st, M) Q = XX X d 117 (110, [l0, l1, l2, some (.int (ii (p + 1))), l4, l5], st, M) Q := H_inc rfl (by decide) rfl rfl rfl (Or.inr h)
theorem x117_110 : XX X d 117 (110, L, st, M) Q = XX X d 117 (20, L, st, M) Q := H_jmp rfl (by decide) rfl
theorem x117_113 : XX X d 117 (113, [some (.ref a), l1, l2, l3, l4, l5], st, M) Q = XX X d 117 (114, [some (.ref a), l1, l2, l3, l4, l5], .ref a :: st, M) Q := H_ld rfl rfl rfl rfl rfl
theorem x117_113n : XX X d 117 (113, [some (.null), l1, l2, l3, l4, l5], st, M) Q = XX X d 117 (114, [some (.null), l1, l2, l3, l4, l5], .null :: st, M) Q := H_ld rfl rfl rfl rfl rfl
theorem x117_114 : XX X d 117 (114, L, .ref a :: st, M) Q = yg (M.2.2 a) 8 15 X d 117 117 L st M Q := G_getf rfl (by decide) rfl rfl rfl
theorem x117_117 : XX X d 117 (117, [some (.ref a), l1, l2, l3, l4, l5], st, M) Q = XX X d 117 (118, [some (.ref a), l1, l2, l3, l4, l5], .ref a :: st, M) Q := H_ld rfl rfl rfl rfl rfl
theorem x117_117n : XX X d 117 (117, [some (.null), l1, l2, l3, l4, l5], st, M) Q = XX X d 117 (118, [some (.null), l1, l2, l3, l4, l5], .null :: st, M) Q := H_ld rfl rfl rfl rfl rfl
theorem x117_118 : XX X d 117 (118, L, .ref a :: st, M) Q = yg (M.2.2 a) 8 2 X d 117 121 L st M Q := G_getf rfl (by decide) rfl rfl rfl
theorem x117_121 : XX X d 117 (121, L, .ref a :: st, M) Q = yg (M.2.2 a) 1 2 X d 117 124 L st M Q := G_getf rfl (by decide) rfl rfl rfl
theorem x117_124 : XX X d 117 (124, [l0, l1, some (.int x), l3, l4, l5], st, M) Q = XX X d 117 (125, [l0, l1, some (.int x), l3, l4, l5], .int x :: st, M) Q := H_ld rfl rfl rfl rfl rfl
theorem x117_125 : XX X d 117 (125, [some (.ref a), l1, l2, l3, l4, l5], st, M) Q = XX X d 117 (126, [some (.ref a), l1, l2, l3, l4, l5], .ref a :: st, M) Q := H_ld rfl rfl rfl rfl rfl
theorem x117_125n : XX X d 117 (125, [some (.null), l1, l2, l3, l4, l5], st, M) Q = XX X d 117 (126, [some (.null), l1, l2, l3, l4, l5], .null :: st, M) Q := H_ld rfl rfl rfl rfl rfl
theorem x117_126 : XX X d 117 (126, L, .ref a :: st, M) Q = yg (M.2.2 a) 8 2 X d 117 129 L st M Q := G_getf rfl (by decide) rfl rfl rfl
theorem x117_129 : XX X d 117 (129, L, .ref a :: st, M) Q = yg (M.2.2 a) 1 2 X d 117 132 L st M Q := G_getf rfl (by decide) rfl rfl rfl
theorem x117_132 (hd : 0 < d) (hs : stB st = true) : XX X d 117 (132, L, .ref a :: st, M) Q = (mcl M a = some 6 ∧ CC X (d - 1) 58 [.ref a] M (XC X d 117 132 135 L st Q)) := H_virt [] rfl (by decide) rfl rfl rfl rfl rfl hd hs
theorem x117_135 {v1 v2 v3 : Value} (hd : 0 < d) (hs : stB st = true) : XX X d 117 (135, L, v3 :: v2 :: v1 :: .ref a :: st, M) Q = (mcl M a = some 6 ∧ CC X (d - 1) 68 [.ref a, v1, v2, v3] M (XC X d 117 135 138 L st Q)) := H_virt [v1, v2, v3] rfl (by decide) rfl rfl rfl rfl rfl hd hs
theorem x117_138 : XX X d 117 (138, [some (.ref a), l1, l2, l3, l4, l5], st, M) Q = XX X d 117 (139, [some (.ref a), l1, l2, l3, l4, l5], .ref a :: st, M) Q := H_ld rfl rfl rfl rfl rfl
theorem x117_138n : XX X d 117 (138, [some (.null), l1, l2, l3, l4, l5], st, M) Q = XX X d 117 (139, [some (.null), l1, l2, l3, l4, l5], .null :: st, M) Q := H_ld rfl rfl rfl rfl rfl
theorem x117_139 : XX X d 117 (139, L, .ref a :: st, M) Q = yg (M.2.2 a) 8 15 X d 117 142 L st M Q := G_getf rfl (by decide) rfl rfl rfl
theorem x117_142 (hd : 0 < d) (hs : stB st = true) : XX X d 117 (142, L, .ref a :: st, M) Q = (mcl M a = some 6 ∧ CC X (d - 1) 58 [.ref a] M (XC X d 117 142 145 L st Q)) := H_virt [] rfl (by decide) rfl rfl rfl rfl rfl hd hs
theorem x117_145 : XX X d 117 (145, L, [.int (ii p)], M) Q = Q (.inl (some (.int (ii p)))) M := G_ret rfl ⟨⟨⟨rfl, rfl, rfl, by decide⟩, rfl, rfl⟩, rfl, rfl⟩ rfl
theorem e117 : CC X d 117 [.ref a, .int x] M Q = XX X d 117 (0, [some (.ref a), some (.int x), none, none, none, none], [], M) Q := H_ent rfl rfl
-- 118 X8_lineCharacter (I)C
theorem x118_0 : XX X d 118 (0, [some (.ref a), l1], st, M) Q = XX X d 118 (1, [some (.ref a), l1], .ref a :: st, M) Q := H_ld rfl rfl rfl rfl rfl
theorem x118_0n : XX X d 118 (0, [some (.null), l1], st, M) Q = XX X d 118 (1, [some (.null), l1], .null :: st, M) Q := H_ld rfl rfl rfl rfl rfl
theorem x118_1 : XX X d 118 (1, L, .ref a :: st, M) Q = yg (M.2.2 a) 8 15 X d 118 4 L st M Q := G_getf rfl (by decide) rfl rfl rfl
theorem x118_4 : XX X d 118 (4, [l0, some (.int x)], st, M) Q = XX X d 118 (5, [l0, some (.int x)], .int x :: st, M) Q := H_ld rfl rfl rfl rfl rfl
theorem x118_5 {v1 v2 : Value} (hd : 0 < d) (hs : stB st = true) : XX X d 118 (5, L, v2 :: v1 :: st, M) Q = CC X (d - 1) 124 [v1, v2] M (XC X d 118 5 8 L st Q) := H_static [v1, v2] rfl (by decide) rfl rfl (by decide) rfl rfl hd hs
theorem x118_8 (h : 0 ≤ p ∧ p ≤ 65535) : XX X d 118 (8, L, [.int (ii p)], M) Q = Q (.inl (some (.int (ii p)))) M := G_ret rfl ⟨⟨⟨rfl, rfl, rfl, by decide⟩, rfl, rfl⟩, rfl, rfl⟩ (cz_ok h)
theorem e118 : CC X d 118 [.ref a, .int x] M Q = XX X d 118 (0, [some (.ref a), some (.int x)], [], M) Q := H_ent rfl rfl
-- 119 X8_undo ()I
theorem x119_0 : XX X d 119 (0, [some (.ref a)], st, M) Q = XX X d 119 (1, [some (.ref a)], .ref a :: st, M) Q := H_ld rfl rfl rfl rfl rfl
theorem x119_0n : XX X d 119 (0, [some (.null)], st, M) Q = XX X d 119 (1, [some (.null)], .null :: st, M) Q := H_ld rfl rfl rfl rfl rfl
theorem x119_1 : XX X d 119 (1, L, .ref a :: st, M) Q = yg (M.2.2 a) 8 5 X d 119 4 L st M Q := G_getf rfl (by decide) rfl rfl rfl
theorem x119_4 (hd : 0 < d) (hs : stB st = true) : XX X d 119 (4, L, .ref a :: st, M) Q = (mcl M a = some 2 ∧ CC X (d - 1) 23 [.ref a] M (XC X d 119 4 7 L st Q)) := H_virt [] rfl (by decide) rfl rfl rfl rfl rfl hd hs
theorem x119_7 (h : -2147483648 ≤ p ∧ p ≤ 2147483647) : XX X d 119 (7, L, .int (ii p) :: st, M) Q = bq (p ≠ 0) X d 119 21 10 L st M Q := H_if rfl ⟨rfl, rfl, rfl, by decide⟩ rfl rfl rfl rfl (D_ne (b := 0) (by omega))
theorem x119_7b : XX X d 119 (7, L, .int (ii (b2i b)) :: st, M) Q = bq (b = true) X d 119 21 10 L st M Q := (x119_7 (b2i_r b)).trans (by rw [b2i_n0])
theorem x119_10 (hs : stB st = true) : XX X d 119 (10, L, st, M) Q = Q (.inr 0) (mthr M) := H_thr rfl (by decide) rfl hs
theorem x119_21 : XX X d 119 (21, [some (.ref a)], st, M) Q = XX X d 119 (22, [some (.ref a)], .ref a :: st, M) Q := H_ld rfl rfl rfl rfl rfl
theorem x119_21n : XX X d 119 (21, [some (.null)], st, M) Q = XX X d 119 (22, [some (.null)], .null :: st, M) Q := H_ld rfl rfl rfl rfl rfl
theorem x119_22 : XX X d 119 (22, L, .ref a :: st, M) Q = yg (M.2.2 a) 8 5 X d 119 25 L st M Q := G_getf rfl (by decide) rfl rfl rfl
theorem x119_25 : XX X d 119 (25, [some (.ref a)], st, M) Q = XX X d 119 (26, [some (.ref a)], .ref a :: st, M) Q := H_ld rfl rfl rfl rfl rfl
theorem x119_25n : XX X d 119 (25, [some (.null)], st, M) Q = XX X d 119 (26, [some (.null)], .null :: st, M) Q := H_ld rfl rfl rfl rfl rfl
theorem x119_26 : XX X d 119 (26, L, .ref a :: st, M) Q = yg (M.2.2 a) 8 2 X d 119 29 L st M Q := G_getf rfl (by decide) rfl rfl rfl
theorem x119_29 {v1 : Value} (hd : 0 < d) (hs : stB st = true) : XX X d 119 (29, L, v1 :: .ref a :: st, M) Q = (mcl M a = some 2 ∧ CC X (d - 1) 26 [.ref a, v1] M (XC X d 119 29 32 L st Q)) := H_virt [v1] rfl (by decide) rfl rfl rfl rfl rfl hd hs
theorem x119_32 : XX X d 119 (32, [some (.ref a)], st, M) Q = XX X d 119 (33, [some (.ref a)], .ref a :: st, M) Q := H_ld rfl rfl rfl rfl rfl
theorem x119_32n : XX X d 119 (32, [some (.null)], st, M) Q = XX X d 119 (33, [some (.null)], .null :: st, M) Q := H_ld rfl rfl rfl rfl rfl
theorem x119_33 : XX X d 119 (33, L, .ref a :: st, M) Q = yg (M.2.2 a) 8 5 X d 119 36 L st M Q := G_getf rfl (by decide) rfl rfl rfl
theorem x119_36 (hd : 0 < d) (hs : stB st = true) : XX X d 119 (36, L, .ref a :: st, M) Q = (mcl M a = some 2 ∧ CC X (d - 1) 23 [.ref a] M (XC X d 119 36 39 L st Q)) := H_virt [] rfl (by decide) rfl rfl rfl rfl rfl hd hs
theorem x119_39 : XX X d 119 (39, L, [.int (ii p)], M) Q = Q (.inl (some (.int (ii p)))) M := G_ret rfl ⟨⟨⟨rfl, rfl, rfl, by decide⟩, rfl, rfl⟩, rfl, rfl⟩ rfl
theorem e119 : CC X d 119 [.ref a] M Q = XX X d 119 (0, [some (.ref a)], [], M) Q := H_ent rfl rfl
-- 120 X8_undoCount ()I
theorem x120_0 : XX X d 120 (0, [some (.ref a)], st, M) Q = XX X d 120 (1, [some (.ref a)], .ref a :: st, M) Q := H_ld rfl rfl rfl rfl rfl
theorem x120_0n : XX X d 120 (0, [some (.null)], st, M) Q = XX X d 120 (1, [some (.null)], .null :: st, M) Q := H_ld rfl rfl rfl rfl rfl
theorem x120_1 : XX X d 120 (1, L, .ref a :: st, M) Q = yg (M.2.2 a) 8 5 X d 120 4 L st M Q := G_getf rfl (by decide) rfl rfl rfl
theorem x120_4 (hd : 0 < d) (hs : stB st = true) : XX X d 120 (4, L, .ref a :: st, M) Q = (mcl M a = some 2 ∧ CC X (d - 1) 23 [.ref a] M (XC X d 120 4 7 L st Q)) := H_virt [] rfl (by decide) rfl rfl rfl rfl rfl hd hs
theorem x120_7 : XX X d 120 (7, L, [.int (ii p)], M) Q = Q (.inl (some (.int (ii p)))) M := G_ret rfl ⟨⟨⟨rfl, rfl, rfl, by decide⟩, rfl, rfl⟩, rfl, rfl⟩ rfl
theorem e120 : CC X d 120 [.ref a] M Q = XX X d 120 (0, [some (.ref a)], [], M) Q := H_ent rfl rfl
-- 121 X8_saveSnapshot ()I
theorem x121_0 : XX X d 121 (0, [some (.ref a)], st, M) Q = XX X d 121 (1, [some (.ref a)], .ref a :: st, M) Q := H_ld rfl rfl rfl rfl rfl
theorem x121_0n : XX X d 121 (0, [some (.null)], st, M) Q = XX X d 121 (1, [some (.null)], .null :: st, M) Q := H_ld rfl rfl rfl rfl rfl
theorem x121_1 : XX X d 121 (1, L, .ref a :: st, M) Q = yg (M.2.2 a) 8 3 X d 121 4 L st M Q := G_getf rfl (by decide) rfl rfl rfl
theorem x121_4 : XX X d 121 (4, [some (.ref a)], st, M) Q = XX X d 121 (5, [some (.ref a)], .ref a :: st, M) Q := H_ld rfl rfl rfl rfl rfl
theorem x121_4n : XX X d 121 (4, [some (.null)], st, M) Q = XX X d 121 (5, [some (.null)], .null :: st, M) Q := H_ld rfl rfl rfl rfl rfl
theorem x121_5 : XX X d 121 (5, L, .ref a :: st, M) Q = yg (M.2.2 a) 8 2 X d 121 8 L st M Q := G_getf rfl (by decide) rfl rfl rfl
theorem x121_8 {v1 : Value} (hd : 0 < d) (hs : stB st = true) : XX X d 121 (8, L, v1 :: .ref a :: st, M) Q = (mcl M a = some 1 ∧ CC X (d - 1) 21 [.ref a, v1] M (XC X d 121 8 11 L st Q)) := H_virt [v1] rfl (by decide) rfl rfl rfl rfl rfl hd hs
theorem x121_11 : XX X d 121 (11, [some (.ref a)], st, M) Q = XX X d 121 (12, [some (.ref a)], .ref a :: st, M) Q := H_ld rfl rfl rfl rfl rfl
theorem x121_11n : XX X d 121 (11, [some (.null)], st, M) Q = XX X d 121 (12, [some (.null)], .null :: st, M) Q := H_ld rfl rfl rfl rfl rfl
theorem x121_12 : XX X d 121 (12, L, st, M) Q = XX X d 121 (13, L, .int (ii 1) :: st, M) Q := G_cst rfl rfl rfl rfl rfl
theorem x121_13 : XX X d 121 (13, L, v :: .ref a :: st, M) Q = yp (M.2.2 a) a 8 4 v X d 121 16 L st M Q := G_putf rfl (by decide) rfl rfl rfl
theorem x121_16 : XX X d 121 (16, [some (.ref a)], st, M) Q = XX X d 121 (17, [some (.ref a)], .ref a :: st, M) Q := H_ld rfl rfl rfl rfl rfl
theorem x121_16n : XX X d 121 (16, [some (.null)], st, M) Q = XX X d 121 (17, [some (.null)], .null :: st, M) Q := H_ld rfl rfl rfl rfl rfl
theorem x121_17 : XX X d 121 (17, L, .ref a :: st, M) Q = yg (M.2.2 a) 8 2 X d 121 20 L st M Q := G_getf rfl (by decide) rfl rfl rfl
theorem x121_20 (hd : 0 < d) (hs : stB st = true) : XX X d 121 (20, L, .ref a :: st, M) Q = (mcl M a = some 1 ∧ CC X (d - 1) 16 [.ref a] M (XC X d 121 20 23 L st Q)) := H_virt [] rfl (by decide) rfl rfl rfl rfl rfl hd hs
theorem x121_23 : XX X d 121 (23, L, [.int (ii p)], M) Q = Q (.inl (some (.int (ii p)))) M := G_ret rfl ⟨⟨⟨rfl, rfl, rfl, by decide⟩, rfl, rfl⟩, rfl, rfl⟩ rfl
theorem e121 : CC X d 121 [.ref a] M Q = XX X d 121 (0, [some (.ref a)], [], M) Q := H_ent rfl rfl
-- 122 X8_restoreSnapshot ()I
theorem x122_0 : XX X d 122 (0, [some (.ref a)], st, M) Q = XX X d 122 (1, [some (.ref a)], .ref a :: st, M) Q := H_ld rfl rfl rfl rfl rfl
theorem x122_0n : XX X d 122 (0, [some (.null)], st, M) Q = XX X d 122 (1, [some (.null)], .null :: st, M) Q := H_ld rfl rfl rfl rfl rfl
theorem x122_1 : XX X d 122 (1, L, .ref a :: st, M) Q = yg (M.2.2 a) 8 4 X d 122 4 L st M Q := G_getf rfl (by decide) rfl rfl rfl
theorem x122_4 (h : -2147483648 ≤ p ∧ p ≤ 2147483647) : XX X d 122 (4, L, .int (ii p) :: st, M) Q = bq (p ≠ 0) X d 122 18 7 L st M Q := H_if rfl ⟨rfl, rfl, rfl, by decide⟩ rfl rfl rfl rfl (D_ne (b := 0) (by omega))
theorem x122_4b : XX X d 122 (4, L, .int (ii (b2i b)) :: st, M) Q = bq (b = true) X d 122 18 7 L st M Q := (x122_4 (b2i_r b)).trans (by rw [b2i_n0])
theorem x122_7 (hs : stB st = true) : XX X d 122 (7, L, st, M) Q = Q (.inr 0) (mthr M) := H_thr rfl (by decide) rfl hs
theorem x122_18 : XX X d 122 (18, [some (.ref a)], st, M) Q = XX X d 122 (19, [some (.ref a)], .ref a :: st, M) Q := H_ld rfl rfl rfl rfl rfl
theorem x122_18n : XX X d 122 (18, [some (.null)], st, M) Q = XX X d 122 (19, [some (.null)], .null :: st, M) Q := H_ld rfl rfl rfl rfl rfl
theorem x122_19 : XX X d 122 (19, L, .ref a :: st, M) Q = yg (M.2.2 a) 8 2 X d 122 22 L st M Q := G_getf rfl (by decide) rfl rfl rfl
theorem x122_22 : XX X d 122 (22, [some (.ref a)], st, M) Q = XX X d 122 (23, [some (.ref a)], .ref a :: st, M) Q := H_ld rfl rfl rfl rfl rfl
theorem x122_22n : XX X d 122 (22, [some (.null)], st, M) Q = XX X d 122 (23, [some (.null)], .null :: st, M) Q := H_ld rfl rfl rfl rfl rfl
theorem x122_23 : XX X d 122 (23, L, .ref a :: st, M) Q = yg (M.2.2 a) 8 3 X d 122 26 L st M Q := G_getf rfl (by decide) rfl rfl rfl
theorem x122_26 {v1 : Value} (hd : 0 < d) (hs : stB st = true) : XX X d 122 (26, L, v1 :: .ref a :: st, M) Q = (mcl M a = some 1 ∧ CC X (d - 1) 21 [.ref a, v1] M (XC X d 122 26 29 L st Q)) := H_virt [v1] rfl (by decide) rfl rfl rfl rfl rfl hd hs
theorem x122_29 : XX X d 122 (29, [some (.ref a)], st, M) Q = XX X d 122 (30, [some (.ref a)], .ref a :: st, M) Q := H_ld rfl rfl rfl rfl rfl
theorem x122_29n : XX X d 122 (29, [some (.null)], st, M) Q = XX X d 122 (30, [some (.null)], .null :: st, M) Q := H_ld rfl rfl rfl rfl rfl
theorem x122_30 : XX X d 122 (30, L, .ref a :: st, M) Q = yg (M.2.2 a) 8 5 X d 122 33 L st M Q := G_getf rfl (by decide) rfl rfl rfl
theorem x122_33 (hd : 0 < d) (hs : stB st = true) : XX X d 122 (33, L, .ref a :: st, M) Q = (mcl M a = some 2 ∧ CC X (d - 1) 24 [.ref a] M (XC X d 122 33 36 L st Q)) := H_virt [] rfl (by decide) rfl rfl rfl rfl rfl hd hs
theorem x122_36 : XX X d 122 (36, [some (.ref a)], st, M) Q = XX X d 122 (37, [some (.ref a)], .ref a :: st, M) Q := H_ld rfl rfl rfl rfl rfl
theorem x122_36n : XX X d 122 (36, [some (.null)], st, M) Q = XX X d 122 (37, [some (.null)], .null :: st, M) Q := H_ld rfl rfl rfl rfl rfl
theorem x122_37 : XX X d 122 (37, L, .ref a :: st, M) Q = yg (M.2.2 a) 8 2 X d 122 40 L st M Q := G_getf rfl (by decide) rfl rfl rfl
theorem x122_40 (hd : 0 < d) (hs : stB st = true) : XX X d 122 (40, L, .ref a :: st, M) Q = (mcl M a = some 1 ∧ CC X (d - 1) 16 [.ref a] M (XC X d 122 40 43 L st Q)) := H_virt [] rfl (by decide) rfl rfl rfl rfl rfl hd hs
theorem x122_43 : XX X d 122 (43, L, [.int (ii p)], M) Q = Q (.inl (some (.int (ii p)))) M := G_ret rfl ⟨⟨⟨rfl, rfl, rfl, by decide⟩, rfl, rfl⟩, rfl, rfl⟩ rfl
theorem e122 : CC X d 122 [.ref a] M Q = XX X d 122 (0, [some (.ref a)], [], M) Q := H_ent rfl rfl
-- 123 X8_existing (I)LRegexTracer$Pattern;
theorem x123_0 : XX X d 123 (0, [some (.ref a), l1, l2], st, M) Q = XX X d 123 (1, [some (.ref a), l1, l2], .ref a :: st, M) Q := H_ld rfl rfl rfl rfl rfl
theorem x123_0n : XX X d 123 (0, [some (.null), l1, l2], st, M) Q = XX X d 123 (1, [some (.null), l1, l2], .null :: st, M) Q := H_ld rfl rfl rfl rfl rfl
theorem x123_1 : XX X d 123 (1, L, .ref a :: st, M) Q = yg (M.2.2 a) 8 2 X d 123 4 L st M Q := G_getf rfl (by decide) rfl rfl rfl
theorem x123_4 : XX X d 123 (4, [l0, some (.int x), l2], st, M) Q = XX X d 123 (5, [l0, some (.int x), l2], .int x :: st, M) Q := H_ld rfl rfl rfl rfl rfl
theorem x123_5 {v1 : Value} (hd : 0 < d) (hs : stB st = true) : XX X d 123 (5, L, v1 :: .ref a :: st, M) Q = (mcl M a = some 1 ∧ CC X (d - 1) 18 [.ref a, v1] M (XC X d 123 5 8 L st Q)) := H_virt [v1] rfl (by decide) rfl rfl rfl rfl rfl hd hs
theorem x123_8 (h : wide (some l1) = false) : XX X d 123 (8, [l0, l1, l2], .ref a :: st, M) Q = XX X d 123 (9, [l0, l1, some (.ref a)], st, M) Q := H_st rfl rfl rfl rfl rfl rfl rfl rfl (Or.inr h)
theorem x123_8n (h : wide (some l1) = false) : XX X d 123 (8, [l0, l1, l2], .null :: st, M) Q = XX X d 123 (9, [l0, l1, some (.null)], st, M) Q := H_st rfl rfl rfl rfl rfl rfl rfl rfl (Or.inr h)
theorem x123_9 : XX X d 123 (9, [l0, l1, some (.ref a)], st, M) Q = XX X d 123 (10, [l0, l1, some (.ref a)], .ref a :: st, M) Q := H_ld rfl rfl rfl rfl rfl
theorem x123_9n : XX X d 123 (9, [l0, l1, some (.null)], st, M) Q = XX X d 123 (10, [l0, l1, some (.null)], .null :: st, M) Q := H_ld rfl rfl rfl rfl rfl
theorem x123_10n : XX X d 123 (10, L, .null :: st, M) Q = XX X d 123 (13, L, st, M) Q := G_jmp rfl ⟨rfl, rfl, rfl, by decide⟩ rfl rfl rfl
theorem x123_10 : XX X d 123 (10, L, .ref a :: st, M) Q = XX X d 123 (24, L, st, M) Q := G_jmp rfl ⟨rfl, rfl, rfl, by decide⟩ rfl rfl rfl
theorem x123_13 (hs : stB st = true) : XX X d 123 (13, L, st, M) Q = Q (.inr 2) (mthr M) := H_thr rfl (by decide) rfl hs
theorem x123_24 : XX X d 123 (24, [l0, l1, some (.ref a)], st, M) Q = XX X d 123 (25, [l0, l1, some (.ref a)], .ref a :: st, M) Q := H_ld rfl rfl rfl rfl rfl
theorem x123_24n : XX X d 123 (24, [l0, l1, some (.null)], st, M) Q = XX X d 123 (25, [l0, l1, some (.null)], .null :: st, M) Q := H_ld rfl rfl rfl rfl rfl
theorem x123_25 : XX X d 123 (25, L, [.ref a], M) Q = Q (.inl (some (.ref a))) M := G_ret rfl ⟨⟨⟨rfl, rfl, rfl, by decide⟩, rfl, rfl⟩, rfl, rfl⟩ rfl
theorem x123_25n : XX X d 123 (25, L, [.null], M) Q = Q (.inl (some .null)) M := G_ret rfl ⟨⟨⟨rfl, rfl, rfl, by decide⟩, rfl, rfl⟩, rfl, rfl⟩ rfl
theorem e123 : CC X d 123 [.ref a, .int x] M Q = XX X d 123 (0, [some (.ref a), some (.int x), none], [], M) Q := H_ent rfl rfl
-- 124 X8_characterOf (LRegexTracer$Row;I)C
theorem x124_0 : XX X d 124 (0, [some (.ref a), l1], st, M) Q = XX X d 124 (1, [some (.ref a), l1], .ref a :: st, M) Q := H_ld rfl rfl rfl rfl rfl
theorem x124_0n : XX X d 124 (0, [some (.null), l1], st, M) Q = XX X d 124 (1, [some (.null), l1], .null :: st, M) Q := H_ld rfl rfl rfl rfl rfl
theorem x124_1 : XX X d 124 (1, [l0, some (.int x)], st, M) Q = XX X d 124 (2, [l0, some (.int x)], .int x :: st, M) Q := H_ld rfl rfl rfl rfl rfl
theorem x124_2 {v1 : Value} (hd : 0 < d) (hs : stB st = true) : XX X d 124 (2, L, v1 :: .ref a :: st, M) Q = (mcl M a = some 6 ∧ CC X (d - 1) 60 [.ref a, v1] M (XC X d 124 2 5 L st Q)) := H_virt [v1] rfl (by decide) rfl rfl rfl rfl rfl hd hs
theorem x124_5 (h : -2147483648 ≤ p ∧ p ≤ 2147483647) : XX X d 124 (5, L, .int (ii p) :: st, M) Q = bq (p ≠ 0) X d 124 19 8 L st M Q := H_if rfl ⟨rfl, rfl, rfl, by decide⟩ rfl rfl rfl rfl (D_ne (b := 0) (by omega))
theorem x124_5b : XX X d 124 (5, L, .int (ii (b2i b)) :: st, M) Q = bq (b = true) X d 124 19 8 L st M Q := (x124_5 (b2i_r b)).trans (by rw [b2i_n0])
theorem x124_8 (hs : stB st = true) : XX X d 124 (8, L, st, M) Q = Q (.inr 2) (mthr M) := H_thr rfl (by decide) rfl hs
theorem x124_19 : XX X d 124 (19, [some (.ref a), l1], st, M) Q = XX X d 124 (20, [some (.ref a), l1], .ref a :: st, M) Q := H_ld rfl rfl rfl rfl rfl
theorem x124_19n : XX X d 124 (19, [some (.null), l1], st, M) Q = XX X d 124 (20, [some (.null), l1], .null :: st, M) Q := H_ld rfl rfl rfl rfl rfl
theorem x124_20 : XX X d 124 (20, [l0, some (.int x)], st, M) Q = XX X d 124 (21, [l0, some (.int x)], .int x :: st, M) Q := H_ld rfl rfl rfl rfl rfl
theorem x124_21 {v1 : Value} (hd : 0 < d) (hs : stB st = true) : XX X d 124 (21, L, v1 :: .ref a :: st, M) Q = (mcl M a = some 6 ∧ CC X (d - 1) 61 [.ref a, v1] M (XC X d 124 21 24 L st Q)) := H_virt [v1] rfl (by decide) rfl rfl rfl rfl rfl hd hs
theorem x124_24 (h : 0 ≤ p ∧ p ≤ 65535) : XX X d 124 (24, L, .int (ii p) :: st, M) Q = XX X d 124 (25, L, .int (ii p) :: st, M) Q := H_i2c rfl (by decide) rfl h
theorem x124_25 (h : 0 ≤ p ∧ p ≤ 65535) : XX X d 124 (25, L, [.int (ii p)], M) Q = Q (.inl (some (.int (ii p)))) M := G_ret rfl ⟨⟨⟨rfl, rfl, rfl, by decide⟩, rfl, rfl⟩, rfl, rfl⟩ (cz_ok h)
theorem e124 : CC X d 124 [.ref a1, .int x] M Q = XX X d 124 (0, [some (.ref a1), some (.int x)], [], M) Q := H_ent rfl rfl
-- 125 X8_checkFault ()V
theorem x125_0 : XX X d 125 (0, [some (.ref a)], st, M) Q = XX X d 125 (1, [some (.ref a)], .ref a :: st, M) Q := H_ld rfl rfl rfl rfl rfl
theorem x125_0n : XX X d 125 (0, [some (.null)], st, M) Q = XX X d 125 (1, [some (.null)], .null :: st, M) Q := H_ld rfl rfl rfl rfl rfl
theorem x125_1 : XX X d 125 (1, L, .ref a :: st, M) Q = yg (M.2.2 a) 8 6 X d 125 4 L st M Q := G_getf rfl (by decide) rfl rfl rfl
theorem x125_4 : XX X d 125 (4, L, st, M) Q = XX X d 125 (5, L, .int (ii (-1)) :: st, M) Q := G_cst rfl rfl rfl rfl rfl
theorem x125_5 (h : -2147483648 ≤ p ∧ p ≤ 2147483647 ∧ -2147483648 ≤ q ∧ q ≤ 2147483647) : XX X d 125 (5, L, .int (ii q) :: .int (ii p) :: st, M) Q = bq (p ≠ q) X d 125 19 8 L st M Q := H_if2 rfl ⟨rfl, rfl, rfl, by decide⟩ rfl rfl rfl rfl (D_ne h)
theorem x125_8 (hs : stB st = true) : XX X d 125 (8, L, st, M) Q = Q (.inr 3) (mthr M) := H_thr rfl (by decide) rfl hs
theorem x125_19 : XX X d 125 (19, L, [], M) Q = Q (.inl none) M := G_retv rfl (by decide) rfl
theorem e125 : CC X d 125 [.ref a] M Q = XX X d 125 (0, [some (.ref a)], [], M) Q := H_ent rfl rfl
-- 126 X8_checkCode (C)V
theorem x126_0 : XX X d 126 (0, [some (.int x)], st, M) Q = XX X d 126 (1, [some (.int x)], .int x :: st, M) Q := H_ld rfl rfl rfl rfl rfl
theorem x126_1 : XX X d 126 (1, L, st, M) Q = XX X d 126 (3, L, .int (ii 32) :: st, M) Q := G_cst rfl rfl rfl rfl rfl
theorem x126_3 (h : -2147483648 ≤ p ∧ p ≤ 2147483647 ∧ -2147483648 ≤ q ∧ q ≤ 2147483647) : XX X d 126 (3, L, .int (ii q) :: .int (ii p) :: st, M) Q = bq (p < q) X d 126 12 6 L st M Q := H_if2 rfl ⟨rfl, rfl, rfl, by decide⟩ rfl rfl rfl rfl (D_lt h)
theorem x126_6 : XX X d 126 (6, [some (.int x)], st, M) Q = XX X d 126 (7, [some (.int x)], .int x :: st, M) Q := H_ld rfl rfl rfl rfl rfl
theorem x126_7 : XX X d 126 (7, L, st, M) Q = XX X d 126 (9, L, .int (ii 126) :: st, M) Q := G_cst rfl rfl rfl rfl rfl
theorem x126_9 (h : -2147483648 ≤ p ∧ p ≤ 2147483647 ∧ -2147483648 ≤ q ∧ q ≤ 2147483647) : XX X d 126 (9, L, .int (ii q) :: .int (ii p) :: st, M) Q = bq (p ≤ q) X d 126 23 12 L st M Q := H_if2 rfl ⟨rfl, rfl, rfl, by decide⟩ rfl rfl rfl rfl (D_ge h)
theorem x126_12 (hs : stB st = true) : XX X d 126 (12, L, st, M) Q = Q (.inr 1) (mthr M) := H_thr rfl (by decide) rfl hs
theorem x126_23 : XX X d 126 (23, L, [], M) Q = Q (.inl none) M := G_retv rfl (by decide) rfl
theorem e126 : CC X d 126 [.int x] M Q = XX X d 126 (0, [some (.int x)], [], M) Q := H_ent rfl rfl
-- 127 X8_checkMatch (I)V
theorem x127_0 : XX X d 127 (0, [some (.ref a), l1], st, M) Q = XX X d 127 (1, [some (.ref a), l1], .ref a :: st, M) Q := H_ld rfl rfl rfl rfl rfl
theorem x127_0n : XX X d 127 (0, [some (.null), l1], st, M) Q = XX X d 127 (1, [some (.null), l1], .null :: st, M) Q := H_ld rfl rfl rfl rfl rfl
theorem x127_1 : XX X d 127 (1, L, .ref a :: st, M) Q = yg (M.2.2 a) 8 11 X d 127 4 L st M Q := G_getf rfl (by decide) rfl rfl rfl
theorem x127_4 : XX X d 127 (4, [l0, some (.int x)], st, M) Q = XX X d 127 (5, [l0, some (.int x)], .int x :: st, M) Q := H_ld rfl rfl rfl rfl rfl
theorem x127_5 {v1 : Value} (hd : 0 < d) (hs : stB st = true) : XX X d 127 (5, L, v1 :: .ref a :: st, M) Q = (mcl M a = some 6 ∧ CC X (d - 1) 60 [.ref a, v1] M (XC X d 127 5 8 L st Q)) := H_virt [v1] rfl (by decide) rfl rfl rfl rfl rfl hd hs
theorem x127_8 (h : -2147483648 ≤ p ∧ p ≤ 2147483647) : XX X d 127 (8, L, .int (ii p) :: st, M) Q = bq (p ≠ 0) X d 127 22 11 L st M Q := H_if rfl ⟨rfl, rfl, rfl, by decide⟩ rfl rfl rfl rfl (D_ne (b := 0) (by omega))
theorem x127_8b : XX X d 127 (8, L, .int (ii (b2i b)) :: st, M) Q = bq (b = true) X d 127 22 11 L st M Q := (x127_8 (b2i_r b)).trans (by rw [b2i_n0])
theorem x127_11 (hs : stB st = true) : XX X d 127 (11, L, st, M) Q = Q (.inr 3) (mthr M) := H_thr rfl (by decide) rfl hs
theorem x127_22 : XX X d 127 (22, L, [], M) Q = Q (.inl none) M := G_retv rfl (by decide) rfl
theorem e127 : CC X d 127 [.ref a, .int x] M Q = XX X d 127 (0, [some (.ref a), some (.int x)], [], M) Q := H_ent rfl rfl
-- 128 X8_sortOfFault (LRegexTracer$Row;I)I
theorem x128_0 : XX X d 128 (0, [l0, some (.int x)], st, M) Q = XX X d 128 (1, [l0, some (.int x)], .int x :: st, M) Q := H_ld rfl rfl rfl rfl rfl
theorem x128_1 : XX X d 128 (1, [some (.ref a), l1], st, M) Q = XX X d 128 (2, [some (.ref a), l1], .ref a :: st, M) Q := H_ld rfl rfl rfl rfl rfl
theorem x128_1n : XX X d 128 (1, [some (.null), l1], st, M) Q = XX X d 128 (2, [some (.null), l1], .null :: st, M) Q := H_ld rfl rfl rfl rfl rfl
theorem x128_2 (hd : 0 < d) (hs : stB st = true) : XX X d 128 (2, L, .ref a :: st, M) Q = (mcl M a = some 6 ∧ CC X (d - 1) 58 [.ref a] M (XC X d 128 2 5 L st Q)) := H_virt [] rfl (by decide) rfl rfl rfl rfl rfl hd hs
theorem x128_5 (h : -2147483648 ≤ p ∧ p ≤ 2147483647 ∧ -2147483648 ≤ q ∧ q ≤ 2147483647) : XX X d 128 (5, L, .int (ii q) :: .int (ii p) :: st, M) Q = bq (p < q) X d 128 10 8 L st M Q := H_if2 rfl ⟨rfl, rfl, rfl, by decide⟩ rfl rfl rfl rfl (D_lt h)
theorem x128_8 : XX X d 128 (8, L, st, M) Q = XX X d 128 (9, L, .int (ii 5) :: st, M) Q := G_cst rfl rfl rfl rfl rfl
theorem x128_9 : XX X d 128 (9, L, [.int (ii p)], M) Q = Q (.inl (some (.int (ii p)))) M := G_ret rfl ⟨⟨⟨rfl, rfl, rfl, by decide⟩, rfl, rfl⟩, rfl, rfl⟩ rfl
theorem x128_10 : XX X d 128 (10, [some (.ref a), l1], st, M) Q = XX X d 128 (11, [some (.ref a), l1], .ref a :: st, M) Q := H_ld rfl rfl rfl rfl rfl
theorem x128_10n : XX X d 128 (10, [some (.null), l1], st, M) Q = XX X d 128 (11, [some (.null), l1], .null :: st, M) Q := H_ld rfl rfl rfl rfl rfl
theorem x128_11 : XX X d 128 (11, [l0, some (.int x)], st, M) Q = XX X d 128 (12, [l0, some (.int x)], .int x :: st, M) Q := H_ld rfl rfl rfl rfl rfl
theorem x128_12 {v1 : Value} (hd : 0 < d) (hs : stB st = true) : XX X d 128 (12, L, v1 :: .ref a :: st, M) Q = (mcl M a = some 6 ∧ CC X (d - 1) 61 [.ref a, v1] M (XC X d 128 12 15 L st Q)) := H_virt [v1] rfl (by decide) rfl rfl rfl rfl rfl hd hs
theorem x128_15 (h : -2147483648 ≤ p ∧ p ≤ 2147483647) : XX X d 128 (15, L, .int (ii p) :: st, M) Q = yt (swI [(40, 53), (41, 51), (42, 49), (43, 49), (63, 49)] [68, 66, 64, 64, 64] (some 70) p) X d 128 L st M Q := H_lsw rfl (by decide) rfl rfl h
theorem x128_64 : XX X d 128 (64, L, st, M) Q = XX X d 128 (65, L, .int (ii 1) :: st, M) Q := G_cst rfl rfl rfl rfl rfl
theorem x128_65 : XX X d 128 (65, L, [.int (ii p)], M) Q = Q (.inl (some (.int (ii p)))) M := G_ret rfl ⟨⟨⟨rfl, rfl, rfl, by decide⟩, rfl, rfl⟩, rfl, rfl⟩ rfl
theorem x128_66 : XX X d 128 (66, L, st, M) Q = XX X d 128 (67, L, .int (ii 2) :: st, M) Q := G_cst rfl rfl rfl rfl rfl
theorem x128_67 : XX X d 128 (67, L, [.int (ii p)], M) Q = Q (.inl (some (.int (ii p)))) M := G_ret rfl ⟨⟨⟨rfl, rfl, rfl, by decide⟩, rfl, rfl⟩, rfl, rfl⟩ rfl
theorem x128_68 : XX X d 128 (68, L, st, M) Q = XX X d 128 (69, L, .int (ii 3) :: st, M) Q := G_cst rfl rfl rfl rfl rfl
theorem x128_69 : XX X d 128 (69, L, [.int (ii p)], M) Q = Q (.inl (some (.int (ii p)))) M := G_ret rfl ⟨⟨⟨rfl, rfl, rfl, by decide⟩, rfl, rfl⟩, rfl, rfl⟩ rfl
theorem x128_70 : XX X d 128 (70, L, st, M) Q = XX X d 128 (71, L, .int (ii 4) :: st, M) Q := G_cst rfl rfl rfl rfl rfl
theorem x128_71 : XX X d 128 (71, L, [.int (ii p)], M) Q = Q (.inl (some (.int (ii p)))) M := G_ret rfl ⟨⟨⟨rfl, rfl, rfl, by decide⟩, rfl, rfl⟩, rfl, rfl⟩ rfl
theorem e128 : CC X d 128 [.ref a1, .int x] M Q = XX X d 128 (0, [some (.ref a1), some (.int x)], [], M) Q := H_ent rfl rfl
-- 129 X8_soughtFrom (II)LRegexTracer$Pattern;
theorem x129_0 : XX X d 129 (0, [some (.ref a), l1, l2, l3], st, M) Q = XX X d 129 (1, [some (.ref a), l1, l2, l3], .ref a :: st, M) Q := H_ld rfl rfl rfl rfl rfl
theorem x129_0n : XX X d 129 (0, [some (.null), l1, l2, l3], st, M) Q = XX X d 129 (1, [some (.null), l1, l2, l3], .null :: st, M) Q := H_ld rfl rfl rfl rfl rfl
theorem x129_1 : XX X d 129 (1, [l0, some (.int x), l2, l3], st, M) Q = XX X d 129 (2, [l0, some (.int x), l2, l3], .int x :: st, M) Q := H_ld rfl rfl rfl rfl rfl
theorem x129_2 {v1 : Value} (hd : 0 < d) (hs : stB st = true) : XX X d 129 (2, L, v1 :: .ref a :: st, M) Q = (mcl M a = some 8 ∧ CC X (d - 1) 123 [.ref a, v1] M (XC X d 129 2 5 L st Q)) := H_virt [v1] rfl (by decide) rfl rfl rfl rfl rfl hd hs
theorem x129_5 (h : wide (some l2) = false) : XX X d 129 (5, [l0, l1, l2, l3], .ref a :: st, M) Q = XX X d 129 (6, [l0, l1, l2, some (.ref a)], st, M) Q := H_st rfl rfl rfl rfl rfl rfl rfl rfl (Or.inr h)
theorem x129_5n (h : wide (some l2) = false) : XX X d 129 (5, [l0, l1, l2, l3], .null :: st, M) Q = XX X d 129 (6, [l0, l1, l2, some (.null)], st, M) Q := H_st rfl rfl rfl rfl rfl rfl rfl rfl (Or.inr h)
theorem x129_6 : XX X d 129 (6, [l0, l1, some (.int x), l3], st, M) Q = XX X d 129 (7, [l0, l1, some (.int x), l3], .int x :: st, M) Q := H_ld rfl rfl rfl rfl rfl
theorem x129_7 (h : -2147483648 ≤ p ∧ p ≤ 2147483647) : XX X d 129 (7, L, .int (ii p) :: st, M) Q = bq (p < 0) X d 129 24 10 L st M Q := H_if rfl ⟨rfl, rfl, rfl, by decide⟩ rfl rfl rfl rfl (D_lt (b := 0) (by omega))
theorem x129_10 : XX X d 129 (10, [l0, l1, some (.int x), l3], st, M) Q = XX X d 129 (11, [l0, l1, some (.int x), l3], .int x :: st, M) Q := H_ld rfl rfl rfl rfl rfl
theorem x129_11 : XX X d 129 (11, [some (.ref a), l1, l2, l3], st, M) Q = XX X d 129 (12, [some (.ref a), l1, l2, l3], .ref a :: st, M) Q := H_ld rfl rfl rfl rfl rfl
theorem x129_11n : XX X d 129 (11, [some (.null), l1, l2, l3], st, M) Q = XX X d 129 (12, [some (.null), l1, l2, l3], .null :: st, M) Q := H_ld rfl rfl rfl rfl rfl
theorem x129_12 : XX X d 129 (12, L, .ref a :: st, M) Q = yg (M.2.2 a) 8 2 X d 129 15 L st M Q := G_getf rfl (by decide) rfl rfl rfl
theorem x129_15 : XX X d 129 (15, L, .ref a :: st, M) Q = yg (M.2.2 a) 1 2 X d 129 18 L st M Q := G_getf rfl (by decide) rfl rfl rfl
theorem x129_18 (hd : 0 < d) (hs : stB st = true) : XX X d 129 (18, L, .ref a :: st, M) Q = (mcl M a = some 6 ∧ CC X (d - 1) 58 [.ref a] M (XC X d 129 18 21 L st Q)) := H_virt [] rfl (by decide) rfl rfl rfl rfl rfl hd hs
theorem x129_21 (h : -2147483648 ≤ p ∧ p ≤ 2147483647 ∧ -2147483648 ≤ q ∧ q ≤ 2147483647) : XX X d 129 (21, L, .int (ii q) :: .int (ii p) :: st, M) Q = bq (p ≤ q) X d 129 34 24 L st M Q := H_if2 rfl ⟨rfl, rfl, rfl, by decide⟩ rfl rfl rfl rfl (D_ge h)
theorem x129_24 (hs : stB st = true) : XX X d 129 (24, L, st, M) Q = Q (.inr 2) (mthr M) := H_thr rfl (by decide) rfl hs
theorem x129_34 : XX X d 129 (34, [l0, l1, l2, some (.ref a)], st, M) Q = XX X d 129 (35, [l0, l1, l2, some (.ref a)], .ref a :: st, M) Q := H_ld rfl rfl rfl rfl rfl
theorem x129_34n : XX X d 129 (34, [l0, l1, l2, some (.null)], st, M) Q = XX X d 129 (35, [l0, l1, l2, some (.null)], .null :: st, M) Q := H_ld rfl rfl rfl rfl rfl
theorem x129_35 : XX X d 129 (35, L, [.ref a], M) Q = Q (.inl (some (.ref a))) M := G_ret rfl ⟨⟨⟨rfl, rfl, rfl, by decide⟩, rfl, rfl⟩, rfl, rfl⟩ rfl
theorem x129_35n : XX X d 129 (35, L, [.null], M) Q = Q (.inl (some .null)) M := G_ret rfl ⟨⟨⟨rfl, rfl, rfl, by decide⟩, rfl, rfl⟩, rfl, rfl⟩ rfl
theorem e129 : CC X d 129 [.ref a, .int x, .int x2] M Q = XX X d 129 (0, [some (.ref a), some (.int x), some (.int x2), none], [], M) Q := H_ent rfl rfl
-- 130 X8_seek (II)V
theorem x130_0 : XX X d 130 (0, [some (.ref a), l1, l2], st, M) Q = XX X d 130 (1, [some (.ref a), l1, l2], .ref a :: st, M) Q := H_ld rfl rfl rfl rfl rfl
theorem x130_0n : XX X d 130 (0, [some (.null), l1, l2], st, M) Q = XX X d 130 (1, [some (.null), l1, l2], .null :: st, M) Q := H_ld rfl rfl rfl rfl rfl
theorem x130_1 : XX X d 130 (1, L, .ref a :: st, M) Q = yg (M.2.2 a) 8 9 X d 130 4 L st M Q := G_getf rfl (by decide) rfl rfl rfl
theorem x130_4 : XX X d 130 (4, [some (.ref a), l1, l2], st, M) Q = XX X d 130 (5, [some (.ref a), l1, l2], .ref a :: st, M) Q := H_ld rfl rfl rfl rfl rfl
theorem x130_4n : XX X d 130 (4, [some (.null), l1, l2], st, M) Q = XX X d 130 (5, [some (.null), l1, l2], .null :: st, M) Q := H_ld rfl rfl rfl rfl rfl
theorem x130_5 : XX X d 130 (5, [l0, some (.int x), l2], st, M) Q = XX X d 130 (6, [l0, some (.int x), l2], .int x :: st, M) Q := H_ld rfl rfl rfl rfl rfl
theorem x130_6 : XX X d 130 (6, [l0, l1, some (.int x)], st, M) Q = XX X d 130 (7, [l0, l1, some (.int x)], .int x :: st, M) Q := H_ld rfl rfl rfl rfl rfl
theorem x130_7 {v1 v2 : Value} (hd : 0 < d) (hs : stB st = true) : XX X d 130 (7, L, v2 :: v1 :: .ref a :: st, M) Q = (mcl M a = some 8 ∧ CC X (d - 1) 129 [.ref a, v1, v2] M (XC X d 130 7 10 L st Q)) := H_virt [v1, v2] rfl (by decide) rfl rfl rfl rfl rfl hd hs
theorem x130_10 : XX X d 130 (10, [some (.ref a), l1, l2], st, M) Q = XX X d 130 (11, [some (.ref a), l1, l2], .ref a :: st, M) Q := H_ld rfl rfl rfl rfl rfl
theorem x130_10n : XX X d 130 (10, [some (.null), l1, l2], st, M) Q = XX X d 130 (11, [some (.null), l1, l2], .null :: st, M) Q := H_ld rfl rfl rfl rfl rfl
theorem x130_11 : XX X d 130 (11, L, .ref a :: st, M) Q = yg (M.2.2 a) 8 2 X d 130 14 L st M Q := G_getf rfl (by decide) rfl rfl rfl
theorem x130_14 : XX X d 130 (14, L, .ref a :: st, M) Q = yg (M.2.2 a) 1 2 X d 130 17 L st M Q := G_getf rfl (by decide) rfl rfl rfl
theorem x130_17 : XX X d 130 (17, [l0, l1, some (.int x)], st, M) Q = XX X d 130 (18, [l0, l1, some (.int x)], .int x :: st, M) Q := H_ld rfl rfl rfl rfl rfl
theorem x130_18 {v1 v2 v3 : Value} (hd : 0 < d) (hs : stB st = true) : XX X d 130 (18, L, v3 :: v2 :: v1 :: .ref a :: st, M) Q = (mcl M a = some 0 ∧ CC X (d - 1) 7 [.ref a, v1, v2, v3] M (XC X d 130 18 21 L st Q)) := H_virt [v1, v2, v3] rfl (by decide) rfl rfl rfl rfl rfl hd hs
theorem x130_21 (h : -2147483648 ≤ p ∧ p ≤ 2147483647) : XX X d 130 (21, L, .int (ii p) :: st, M) Q = bq (p ≠ 0) X d 130 35 24 L st M Q := H_if rfl ⟨rfl, rfl, rfl, by decide⟩ rfl rfl rfl rfl (D_ne (b := 0) (by omega))
theorem x130_21b : XX X d 130 (21, L, .int (ii (b2i b)) :: st, M) Q = bq (b = true) X d 130 35 24 L st M Q := (x130_21 (b2i_r b)).trans (by rw [b2i_n0])
theorem x130_24 (hs : stB st = true) : XX X d 130 (24, L, st, M) Q = Q (.inr 3) (mthr M) := H_thr rfl (by decide) rfl hs
theorem x130_35 : XX X d 130 (35, L, [], M) Q = Q (.inl none) M := G_retv rfl (by decide) rfl
theorem e130 : CC X d 130 [.ref a, .int x, .int x2] M Q = XX X d 130 (0, [some (.ref a), some (.int x), some (.int x2)], [], M) Q := H_ent rfl rfl
-- 131 X8_seekByThreads (II)V
theorem x131_0 : XX X d 131 (0, [some (.ref a), l1, l2], st, M) Q = XX X d 131 (1, [some (.ref a), l1, l2], .ref a :: st, M) Q := H_ld rfl rfl rfl rfl rfl
theorem x131_0n : XX X d 131 (0, [some (.null), l1, l2], st, M) Q = XX X d 131 (1, [some (.null), l1, l2], .null :: st, M) Q := H_ld rfl rfl rfl rfl rfl
theorem x131_1 : XX X d 131 (1, L, .ref a :: st, M) Q = yg (M.2.2 a) 8 10 X d 131 4 L st M Q := G_getf rfl (by decide) rfl rfl rfl
theorem x131_4 : XX X d 131 (4, [some (.ref a), l1, l2], st, M) Q = XX X d 131 (5, [some (.ref a), l1, l2], .ref a :: st, M) Q := H_ld rfl rfl rfl rfl rfl
theorem x131_4n : XX X d 131 (4, [some (.null), l1, l2], st, M) Q = XX X d 131 (5, [some (.null), l1, l2], .null :: st, M) Q := H_ld rfl rfl rfl rfl rfl
theorem x131_5 : XX X d 131 (5, [l0, some (.int x), l2], st, M) Q = XX X d 131 (6, [l0, some (.int x), l2], .int x :: st, M) Q := H_ld rfl rfl rfl rfl rfl
theorem x131_6 : XX X d 131 (6, [l0, l1, some (.int x)], st, M) Q = XX X d 131 (7, [l0, l1, some (.int x)], .int x :: st, M) Q := H_ld rfl rfl rfl rfl rfl
theorem x131_7 {v1 v2 : Value} (hd : 0 < d) (hs : stB st = true) : XX X d 131 (7, L, v2 :: v1 :: .ref a :: st, M) Q = (mcl M a = some 8 ∧ CC X (d - 1) 129 [.ref a, v1, v2] M (XC X d 131 7 10 L st Q)) := H_virt [v1, v2] rfl (by decide) rfl rfl rfl rfl rfl hd hs
theorem x131_10 : XX X d 131 (10, [some (.ref a), l1, l2], st, M) Q = XX X d 131 (11, [some (.ref a), l1, l2], .ref a :: st, M) Q := H_ld rfl rfl rfl rfl rfl
theorem x131_10n : XX X d 131 (10, [some (.null), l1, l2], st, M) Q = XX X d 131 (11, [some (.null), l1, l2], .null :: st, M) Q := H_ld rfl rfl rfl rfl rfl
theorem x131_11 : XX X d 131 (11, L, .ref a :: st, M) Q = yg (M.2.2 a) 8 2 X d 131 14 L st M Q := G_getf rfl (by decide) rfl rfl rfl
theorem x131_14 : XX X d 131 (14, L, .ref a :: st, M) Q = yg (M.2.2 a) 1 2 X d 131 17 L st M Q := G_getf rfl (by decide) rfl rfl rfl
theorem x131_17 : XX X d 131 (17, [l0, l1, some (.int x)], st, M) Q = XX X d 131 (18, [l0, l1, some (.int x)], .int x :: st, M) Q := H_ld rfl rfl rfl rfl rfl
theorem x131_18 {v1 v2 v3 : Value} (hd : 0 < d) (hs : stB st = true) : XX X d 131 (18, L, v3 :: v2 :: v1 :: .ref a :: st, M) Q = (mcl M a = some 7 ∧ CC X (d - 1) 73 [.ref a, v1, v2, v3] M (XC X d 131 18 21 L st Q)) := H_virt [v1, v2, v3] rfl (by decide) rfl rfl rfl rfl rfl hd hs
theorem x131_21 (h : -2147483648 ≤ p ∧ p ≤ 2147483647) : XX X d 131 (21, L, .int (ii p) :: st, M) Q = bq (p ≠ 0) X d 131 35 24 L st M Q := H_if rfl ⟨rfl, rfl, rfl, by decide⟩ rfl rfl rfl rfl (D_ne (b := 0) (by omega))
theorem x131_21b : XX X d 131 (21, L, .int (ii (b2i b)) :: st, M) Q = bq (b = true) X d 131 35 24 L st M Q := (x131_21 (b2i_r b)).trans (by rw [b2i_n0])
theorem x131_24 (hs : stB st = true) : XX X d 131 (24, L, st, M) Q = Q (.inr 3) (mthr M) := H_thr rfl (by decide) rfl hs
theorem x131_35 : XX X d 131 (35, L, [], M) Q = Q (.inl none) M := G_retv rfl (by decide) rfl
theorem e131 : CC X d 131 [.ref a, .int x, .int x2] M Q = XX X d 131 (0, [some (.ref a), some (.int x), some (.int x2)], [], M) Q := H_ent rfl rfl
-- 132 X8_seekGroup (III)V
theorem x132_0 : XX X d 132 (0, [some (.ref a), l1, l2, l3, l4], st, M) Q = XX X d 132 (1, [some (.ref a), l1, l2, l3, l4], .ref a :: st, M) Q := H_ld rfl rfl rfl rfl rfl
theorem x132_0n : XX X d 132 (0, [some (.null), l1, l2, l3, l4], st, M) Q = XX X d 132 (1, [some (.null), l1, l2, l3, l4], .null :: st, M) Q := H_ld rfl rfl rfl rfl rfl
theorem x132_1 : XX X d 132 (1, [l0, some (.int x), l2, l3, l4], st, M) Q = XX X d 132 (2, [l0, some (.int x), l2, l3, l4], .int x :: st, M) Q := H_ld rfl rfl rfl rfl rfl
theorem x132_2 : XX X d 132 (2, [l0, l1, some (.int x), l3, l4], st, M) Q = XX X d 132 (3, [l0, l1, some (.int x), l3, l4], .int x :: st, M) Q := H_ld rfl rfl rfl rfl rfl
theorem x132_3 {v1 v2 : Value} (hd : 0 < d) (hs : stB st = true) : XX X d 132 (3, L, v2 :: v1 :: .ref a :: st, M) Q = (mcl M a = some 8 ∧ CC X (d - 1) 129 [.ref a, v1, v2] M (XC X d 132 3 6 L st Q)) := H_virt [v1, v2] rfl (by decide) rfl rfl rfl rfl rfl hd hs
theorem x132_6 (h : wide (some l3) = false) : XX X d 132 (6, [l0, l1, l2, l3, l4], .ref a :: st, M) Q = XX X d 132 (8, [l0, l1, l2, l3, some (.ref a)], st, M) Q := H_st rfl rfl rfl rfl rfl rfl rfl rfl (Or.inr h)
theorem x132_6n (h : wide (some l3) = false) : XX X d 132 (6, [l0, l1, l2, l3, l4], .null :: st, M) Q = XX X d 132 (8, [l0, l1, l2, l3, some (.null)], st, M) Q := H_st rfl rfl rfl rfl rfl rfl rfl rfl (Or.inr h)
theorem x132_8 : XX X d 132 (8, [l0, l1, l2, some (.int x), l4], st, M) Q = XX X d 132 (9, [l0, l1, l2, some (.int x), l4], .int x :: st, M) Q := H_ld rfl rfl rfl rfl rfl
theorem x132_9 : XX X d 132 (9, L, st, M) Q = XX X d 132 (10, L, .int (ii 1) :: st, M) Q := G_cst rfl rfl rfl rfl rfl
theorem x132_10 (h : -2147483648 ≤ p ∧ p ≤ 2147483647 ∧ -2147483648 ≤ q ∧ q ≤ 2147483647) : XX X d 132 (10, L, .int (ii q) :: .int (ii p) :: st, M) Q = bq (p < q) X d 132 22 13 L st M Q := H_if2 rfl ⟨rfl, rfl, rfl, by decide⟩ rfl rfl rfl rfl (D_lt h)
theorem x132_13 : XX X d 132 (13, [l0, l1, l2, some (.int x), l4], st, M) Q = XX X d 132 (14, [l0, l1, l2, some (.int x), l4], .int x :: st, M) Q := H_ld rfl rfl rfl rfl rfl
theorem x132_14 : XX X d 132 (14, [l0, l1, l2, l3, some (.ref a)], st, M) Q = XX X d 132 (16, [l0, l1, l2, l3, some (.ref a)], .ref a :: st, M) Q := H_ld rfl rfl rfl rfl rfl
theorem x132_14n : XX X d 132 (14, [l0, l1, l2, l3, some (.null)], st, M) Q = XX X d 132 (16, [l0, l1, l2, l3, some (.null)], .null :: st, M) Q := H_ld rfl rfl rfl rfl rfl
theorem x132_16 : XX X d 132 (16, L, .ref a :: st, M) Q = yg (M.2.2 a) 4 4 X d 132 19 L st M Q := G_getf rfl (by decide) rfl rfl rfl
theorem x132_19 (h : -2147483648 ≤ p ∧ p ≤ 2147483647 ∧ -2147483648 ≤ q ∧ q ≤ 2147483647) : XX X d 132 (19, L, .int (ii q) :: .int (ii p) :: st, M) Q = bq (p ≤ q) X d 132 33 22 L st M Q := H_if2 rfl ⟨rfl, rfl, rfl, by decide⟩ rfl rfl rfl rfl (D_ge h)
theorem x132_22 (hs : stB st = true) : XX X d 132 (22, L, st, M) Q = Q (.inr 2) (mthr M) := H_thr rfl (by decide) rfl hs
theorem x132_33 : XX X d 132 (33, [some (.ref a), l1, l2, l3, l4], st, M) Q = XX X d 132 (34, [some (.ref a), l1, l2, l3, l4], .ref a :: st, M) Q := H_ld rfl rfl rfl rfl rfl
theorem x132_33n : XX X d 132 (33, [some (.null), l1, l2, l3, l4], st, M) Q = XX X d 132 (34, [some (.null), l1, l2, l3, l4], .null :: st, M) Q := H_ld rfl rfl rfl rfl rfl
theorem x132_34 : XX X d 132 (34, L, .ref a :: st, M) Q = yg (M.2.2 a) 8 9 X d 132 37 L st M Q := G_getf rfl (by decide) rfl rfl rfl
theorem x132_37 : XX X d 132 (37, [l0, l1, l2, l3, some (.ref a)], st, M) Q = XX X d 132 (39, [l0, l1, l2, l3, some (.ref a)], .ref a :: st, M) Q := H_ld rfl rfl rfl rfl rfl
theorem x132_37n : XX X d 132 (37, [l0, l1, l2, l3, some (.null)], st, M) Q = XX X d 132 (39, [l0, l1, l2, l3, some (.null)], .null :: st, M) Q := H_ld rfl rfl rfl rfl rfl
theorem x132_39 : XX X d 132 (39, [some (.ref a), l1, l2, l3, l4], st, M) Q = XX X d 132 (40, [some (.ref a), l1, l2, l3, l4], .ref a :: st, M) Q := H_ld rfl rfl rfl rfl rfl
theorem x132_39n : XX X d 132 (39, [some (.null), l1, l2, l3, l4], st, M) Q = XX X d 132 (40, [some (.null), l1, l2, l3, l4], .null :: st, M) Q := H_ld rfl rfl rfl rfl rfl
theorem x132_40 : XX X d 132 (40, L, .ref a :: st, M) Q = yg (M.2.2 a) 8 2 X d 132 43 L st M Q := G_getf rfl (by decide) rfl rfl rfl
theorem x132_43 : XX X d 132 (43, L, .ref a :: st, M) Q = yg (M.2.2 a) 1 2 X d 132 46 L st M Q := G_getf rfl (by decide) rfl rfl rfl
theorem x132_46 : XX X d 132 (46, [l0, l1, some (.int x), l3, l4], st, M) Q = XX X d 132 (47, [l0, l1, some (.int x), l3, l4], .int x :: st, M) Q := H_ld rfl rfl rfl rfl rfl
theorem x132_47 {v1 v2 v3 : Value} (hd : 0 < d) (hs : stB st = true) : XX X d 132 (47, L, v3 :: v2 :: v1 :: .ref a :: st, M) Q = (mcl M a = some 0 ∧ CC X (d - 1) 7 [.ref a, v1, v2, v3] M (XC X d 132 47 50 L st Q)) := H_virt [v1, v2, v3] rfl (by decide) rfl rfl rfl rfl rfl hd hs
theorem x132_50 (h : -2147483648 ≤ p ∧ p ≤ 2147483647) : XX X d 132 (50, L, .int (ii p) :: st, M) Q = bq (p ≠ 0) X d 132 64 53 L st M Q := H_if rfl ⟨rfl, rfl, rfl, by decide⟩ rfl rfl rfl rfl (D_ne (b := 0) (by omega))
theorem x132_50b : XX X d 132 (50, L, .int (ii (b2i b)) :: st, M) Q = bq (b = true) X d 132 64 53 L st M Q := (x132_50 (b2i_r b)).trans (by rw [b2i_n0])
theorem x132_53 (hs : stB st = true) : XX X d 132 (53, L, st, M) Q = Q (.inr 3) (mthr M) := H_thr rfl (by decide) rfl hs
theorem x132_64 : XX X d 132 (64, L, [], M) Q = Q (.inl none) M := G_retv rfl (by decide) rfl
theorem e132 : CC X d 132 [.ref a, .int x, .int x2, .int x3] M Q = XX X d 132 (0, [some (.ref a), some (.int x), some (.int x2), some (.int x3), none], [], M) Q := H_ent rfl rfl
-- 133 X8_checkGroupSet (I)V
theorem x133_0 : XX X d 133 (0, [some (.ref a), l1], st, M) Q = XX X d 133 (1, [some (.ref a), l1], .ref a :: st, M) Q := H_ld rfl rfl rfl rfl rfl
theorem x133_0n : XX X d 133 (0, [some (.null), l1], st, M) Q = XX X d 133 (1, [some (.null), l1], .null :: st, M) Q := H_ld rfl rfl rfl rfl rfl
theorem x133_1 : XX X d 133 (1, L, .ref a :: st, M) Q = yg (M.2.2 a) 8 9 X d 133 4 L st M Q := G_getf rfl (by decide) rfl rfl rfl
theorem x133_4 : XX X d 133 (4, [l0, some (.int x)], st, M) Q = XX X d 133 (5, [l0, some (.int x)], .int x :: st, M) Q := H_ld rfl rfl rfl rfl rfl
theorem x133_5 {v1 : Value} (hd : 0 < d) (hs : stB st = true) : XX X d 133 (5, L, v1 :: .ref a :: st, M) Q = (mcl M a = some 0 ∧ CC X (d - 1) 4 [.ref a, v1] M (XC X d 133 5 8 L st Q)) := H_virt [v1] rfl (by decide) rfl rfl rfl rfl rfl hd hs
theorem x133_8 (h : -2147483648 ≤ p ∧ p ≤ 2147483647) : XX X d 133 (8, L, .int (ii p) :: st, M) Q = bq (p ≠ 0) X d 133 22 11 L st M Q := H_if rfl ⟨rfl, rfl, rfl, by decide⟩ rfl rfl rfl rfl (D_ne (b := 0) (by omega))
theorem x133_8b : XX X d 133 (8, L, .int (ii (b2i b)) :: st, M) Q = bq (b = true) X d 133 22 11 L st M Q := (x133_8 (b2i_r b)).trans (by rw [b2i_n0])
theorem x133_11 (hs : stB st = true) : XX X d 133 (11, L, st, M) Q = Q (.inr 3) (mthr M) := H_thr rfl (by decide) rfl hs
theorem x133_22 : XX X d 133 (22, L, [], M) Q = Q (.inl none) M := G_retv rfl (by decide) rfl
theorem e133 : CC X d 133 [.ref a, .int x] M Q = XX X d 133 (0, [some (.ref a), some (.int x)], [], M) Q := H_ent rfl rfl
-- 134 X8_searchesAgree (LRegexTracer$Pattern;I)Z
theorem x134_0 : XX X d 134 (0, [some (.ref a), l1, l2, l3, l4], st, M) Q = XX X d 134 (1, [some (.ref a), l1, l2, l3, l4], .ref a :: st, M) Q := H_ld rfl rfl rfl rfl rfl
theorem x134_0n : XX X d 134 (0, [some (.null), l1, l2, l3, l4], st, M) Q = XX X d 134 (1, [some (.null), l1, l2, l3, l4], .null :: st, M) Q := H_ld rfl rfl rfl rfl rfl
theorem x134_1 : XX X d 134 (1, L, .ref a :: st, M) Q = yg (M.2.2 a) 8 9 X d 134 4 L st M Q := G_getf rfl (by decide) rfl rfl rfl
theorem x134_4 : XX X d 134 (4, [l0, some (.ref a), l2, l3, l4], st, M) Q = XX X d 134 (5, [l0, some (.ref a), l2, l3, l4], .ref a :: st, M) Q := H_ld rfl rfl rfl rfl rfl
theorem x134_4n : XX X d 134 (4, [l0, some (.null), l2, l3, l4], st, M) Q = XX X d 134 (5, [l0, some (.null), l2, l3, l4], .null :: st, M) Q := H_ld rfl rfl rfl rfl rfl
theorem x134_5 : XX X d 134 (5, [some (.ref a), l1, l2, l3, l4], st, M) Q = XX X d 134 (6, [some (.ref a), l1, l2, l3, l4], .ref a :: st, M) Q := H_ld rfl rfl rfl rfl rfl
theorem x134_5n : XX X d 134 (5, [some (.null), l1, l2, l3, l4], st, M) Q = XX X d 134 (6, [some (.null), l1, l2, l3, l4], .null :: st, M) Q := H_ld rfl rfl rfl rfl rfl
theorem x134_6 : XX X d 134 (6, L, .ref a :: st, M) Q = yg (M.2.2 a) 8 2 X d 134 9 L st M Q := G_getf rfl (by decide) rfl rfl rfl
theorem x134_9 : XX X d 134 (9, L, .ref a :: st, M) Q = yg (M.2.2 a) 1 2 X d 134 12 L st M Q := G_getf rfl (by decide) rfl rfl rfl
theorem x134_12 : XX X d 134 (12, [l0, l1, some (.int x), l3, l4], st, M) Q = XX X d 134 (13, [l0, l1, some (.int x), l3, l4], .int x :: st, M) Q := H_ld rfl rfl rfl rfl rfl
theorem x134_13 {v1 v2 v3 : Value} (hd : 0 < d) (hs : stB st = true) : XX X d 134 (13, L, v3 :: v2 :: v1 :: .ref a :: st, M) Q = (mcl M a = some 0 ∧ CC X (d - 1) 7 [.ref a, v1, v2, v3] M (XC X d 134 13 16 L st Q)) := H_virt [v1, v2, v3] rfl (by decide) rfl rfl rfl rfl rfl hd hs
theorem x134_16 (h : wide (some l2) = false) : XX X d 134 (16, [l0, l1, l2, l3, l4], .int x :: st, M) Q = XX X d 134 (17, [l0, l1, l2, some (.int x), l4], st, M) Q := H_st rfl rfl rfl rfl rfl rfl rfl rfl (Or.inr h)
theorem x134_17 : XX X d 134 (17, [some (.ref a), l1, l2, l3, l4], st, M) Q = XX X d 134 (18, [some (.ref a), l1, l2, l3, l4], .ref a :: st, M) Q := H_ld rfl rfl rfl rfl rfl
theorem x134_17n : XX X d 134 (17, [some (.null), l1, l2, l3, l4], st, M) Q = XX X d 134 (18, [some (.null), l1, l2, l3, l4], .null :: st, M) Q := H_ld rfl rfl rfl rfl rfl
theorem x134_18 : XX X d 134 (18, L, .ref a :: st, M) Q = yg (M.2.2 a) 8 10 X d 134 21 L st M Q := G_getf rfl (by decide) rfl rfl rfl
theorem x134_21 : XX X d 134 (21, [l0, some (.ref a), l2, l3, l4], st, M) Q = XX X d 134 (22, [l0, some (.ref a), l2, l3, l4], .ref a :: st, M) Q := H_ld rfl rfl rfl rfl rfl
theorem x134_21n : XX X d 134 (21, [l0, some (.null), l2, l3, l4], st, M) Q = XX X d 134 (22, [l0, some (.null), l2, l3, l4], .null :: st, M) Q := H_ld rfl rfl rfl rfl rfl
theorem x134_22 : XX X d 134 (22, [some (.ref a), l1, l2, l3, l4], st, M) Q = XX X d 134 (23, [some (.ref a), l1, l2, l3, l4], .ref a :: st, M) Q := H_ld rfl rfl rfl rfl rfl
theorem x134_22n : XX X d 134 (22, [some (.null), l1, l2, l3, l4], st, M) Q = XX X d 134 (23, [some (.null), l1, l2, l3, l4], .null :: st, M) Q := H_ld rfl rfl rfl rfl rfl
theorem x134_23 : XX X d 134 (23, L, .ref a :: st, M) Q = yg (M.2.2 a) 8 2 X d 134 26 L st M Q := G_getf rfl (by decide) rfl rfl rfl
theorem x134_26 : XX X d 134 (26, L, .ref a :: st, M) Q = yg (M.2.2 a) 1 2 X d 134 29 L st M Q := G_getf rfl (by decide) rfl rfl rfl
theorem x134_29 : XX X d 134 (29, [l0, l1, some (.int x), l3, l4], st, M) Q = XX X d 134 (30, [l0, l1, some (.int x), l3, l4], .int x :: st, M) Q := H_ld rfl rfl rfl rfl rfl
theorem x134_30 {v1 v2 v3 : Value} (hd : 0 < d) (hs : stB st = true) : XX X d 134 (30, L, v3 :: v2 :: v1 :: .ref a :: st, M) Q = (mcl M a = some 7 ∧ CC X (d - 1) 73 [.ref a, v1, v2, v3] M (XC X d 134 30 33 L st Q)) := H_virt [v1, v2, v3] rfl (by decide) rfl rfl rfl rfl rfl hd hs
theorem x134_33 (h : wide (some l3) = false) : XX X d 134 (33, [l0, l1, l2, l3, l4], .int x :: st, M) Q = XX X d 134 (35, [l0, l1, l2, l3, some (.int x)], st, M) Q := H_st rfl rfl rfl rfl rfl rfl rfl rfl (Or.inr h)
theorem x134_35 : XX X d 134 (35, [l0, l1, l2, some (.int x), l4], st, M) Q = XX X d 134 (36, [l0, l1, l2, some (.int x), l4], .int x :: st, M) Q := H_ld rfl rfl rfl rfl rfl
theorem x134_36 (h : -2147483648 ≤ p ∧ p ≤ 2147483647) : XX X d 134 (36, L, .int (ii p) :: st, M) Q = bq (p = 0) X d 134 44 39 L st M Q := H_if rfl ⟨rfl, rfl, rfl, by decide⟩ rfl rfl rfl rfl (D_eq (b := 0) (by omega))
theorem x134_36b : XX X d 134 (36, L, .int (ii (b2i b)) :: st, M) Q = bq (b = false) X d 134 44 39 L st M Q := (x134_36 (b2i_r b)).trans (by rw [b2i_0])
theorem x134_39 : XX X d 134 (39, [l0, l1, l2, l3, some (.int x)], st, M) Q = XX X d 134 (41, [l0, l1, l2, l3, some (.int x)], .int x :: st, M) Q := H_ld rfl rfl rfl rfl rfl
theorem x134_41 (h : -2147483648 ≤ p ∧ p ≤ 2147483647) : XX X d 134 (41, L, .int (ii p) :: st, M) Q = bq (p ≠ 0) X d 134 56 44 L st M Q := H_if rfl ⟨rfl, rfl, rfl, by decide⟩ rfl rfl rfl rfl (D_ne (b := 0) (by omega))
theorem x134_41b : XX X d 134 (41, L, .int (ii (b2i b)) :: st, M) Q = bq (b = true) X d 134 56 44 L st M Q := (x134_41 (b2i_r b)).trans (by rw [b2i_n0])
theorem x134_44 : XX X d 134 (44, [l0, l1, l2, some (.int x), l4], st, M) Q = XX X d 134 (45, [l0, l1, l2, some (.int x), l4], .int x :: st, M) Q := H_ld rfl rfl rfl rfl rfl
theorem x134_45 : XX X d 134 (45, [l0, l1, l2, l3, some (.int x)], st, M) Q = XX X d 134 (47, [l0, l1, l2, l3, some (.int x)], .int x :: st, M) Q := H_ld rfl rfl rfl rfl rfl
theorem x134_47 (h : -2147483648 ≤ p ∧ p ≤ 2147483647 ∧ -2147483648 ≤ q ∧ q ≤ 2147483647) : XX X d 134 (47, L, .int (ii q) :: .int (ii p) :: st, M) Q = bq (p ≠ q) X d 134 54 50 L st M Q := H_if2 rfl ⟨rfl, rfl, rfl, by decide⟩ rfl rfl rfl rfl (D_ne h)
theorem x134_50 : XX X d 134 (50, L, st, M) Q = XX X d 134 (51, L, .int (ii 1) :: st, M) Q := G_cst rfl rfl rfl rfl rfl
theorem x134_51 : XX X d 134 (51, L, st, M) Q = XX X d 134 (55, L, st, M) Q := H_jmp rfl (by decide) rfl
theorem x134_54 : XX X d 134 (54, L, st, M) Q = XX X d 134 (55, L, .int (ii 0) :: st, M) Q := G_cst rfl rfl rfl rfl rfl
theorem x134_55 (h : p = 0 ∨ p = 1) : XX X d 134 (55, L, [.int (ii p)], M) Q = Q (.inl (some (.int (ii p)))) M := G_ret rfl ⟨⟨⟨rfl, rfl, rfl, by decide⟩, rfl, rfl⟩, rfl, rfl⟩ (bz_ok h)
theorem x134_56 : XX X d 134 (56, [some (.ref a), l1, l2, l3, l4], st, M) Q = XX X d 134 (57, [some (.ref a), l1, l2, l3, l4], .ref a :: st, M) Q := H_ld rfl rfl rfl rfl rfl
theorem x134_56n : XX X d 134 (56, [some (.null), l1, l2, l3, l4], st, M) Q = XX X d 134 (57, [some (.null), l1, l2, l3, l4], .null :: st, M) Q := H_ld rfl rfl rfl rfl rfl
theorem x134_57 : XX X d 134 (57, L, .ref a :: st, M) Q = yg (M.2.2 a) 8 9 X d 134 60 L st M Q := G_getf rfl (by decide) rfl rfl rfl
theorem x134_60 (hd : 0 < d) (hs : stB st = true) : XX X d 134 (60, L, .ref a :: st, M) Q = (mcl M a = some 0 ∧ CC X (d - 1) 2 [.ref a] M (XC X d 134 60 63 L st Q)) := H_virt [] rfl (by decide) rfl rfl rfl rfl rfl hd hs
theorem x134_63 : XX X d 134 (63, [some (.ref a), l1, l2, l3, l4], st, M) Q = XX X d 134 (64, [some (.ref a), l1, l2, l3, l4], .ref a :: st, M) Q := H_ld rfl rfl rfl rfl rfl
theorem x134_63n : XX X d 134 (63, [some (.null), l1, l2, l3, l4], st, M) Q = XX X d 134 (64, [some (.null), l1, l2, l3, l4], .null :: st, M) Q := H_ld rfl rfl rfl rfl rfl
theorem x134_64 : XX X d 134 (64, L, .ref a :: st, M) Q = yg (M.2.2 a) 8 10 X d 134 67 L st M Q := G_getf rfl (by decide) rfl rfl rfl
theorem x134_67 (hd : 0 < d) (hs : stB st = true) : XX X d 134 (67, L, .ref a :: st, M) Q = (mcl M a = some 7 ∧ CC X (d - 1) 71 [.ref a] M (XC X d 134 67 70 L st Q)) := H_virt [] rfl (by decide) rfl rfl rfl rfl rfl hd hs
theorem x134_70 (h : -2147483648 ≤ p ∧ p ≤ 2147483647 ∧ -2147483648 ≤ q ∧ q ≤ 2147483647) : XX X d 134 (70, L, .int (ii q) :: .int (ii p) :: st, M) Q = bq (p ≠ q) X d 134 94 73 L st M Q := H_if2 rfl ⟨rfl, rfl, rfl, by decide⟩ rfl rfl rfl rfl (D_ne h)
theorem x134_73 : XX X d 134 (73, [some (.ref a), l1, l2, l3, l4], st, M) Q = XX X d 134 (74, [some (.ref a), l1, l2, l3, l4], .ref a :: st, M) Q := H_ld rfl rfl rfl rfl rfl
theorem x134_73n : XX X d 134 (73, [some (.null), l1, l2, l3, l4], st, M) Q = XX X d 134 (74, [some (.null), l1, l2, l3, l4], .null :: st, M) Q := H_ld rfl rfl rfl rfl rfl
theorem x134_74 : XX X d 134 (74, L, .ref a :: st, M) Q = yg (M.2.2 a) 8 9 X d 134 77 L st M Q := G_getf rfl (by decide) rfl rfl rfl
theorem x134_77 (hd : 0 < d) (hs : stB st = true) : XX X d 134 (77, L, .ref a :: st, M) Q = (mcl M a = some 0 ∧ CC X (d - 1) 3 [.ref a] M (XC X d 134 77 80 L st Q)) := H_virt [] rfl (by decide) rfl rfl rfl rfl rfl hd hs
theorem x134_80 : XX X d 134 (80, [some (.ref a), l1, l2, l3, l4], st, M) Q = XX X d 134 (81, [some (.ref a), l1, l2, l3, l4], .ref a :: st, M) Q := H_ld rfl rfl rfl rfl rfl
theorem x134_80n : XX X d 134 (80, [some (.null), l1, l2, l3, l4], st, M) Q = XX X d 134 (81, [some (.null), l1, l2, l3, l4], .null :: st, M) Q := H_ld rfl rfl rfl rfl rfl
theorem x134_81 : XX X d 134 (81, L, .ref a :: st, M) Q = yg (M.2.2 a) 8 10 X d 134 84 L st M Q := G_getf rfl (by decide) rfl rfl rfl
theorem x134_84 (hd : 0 < d) (hs : stB st = true) : XX X d 134 (84, L, .ref a :: st, M) Q = (mcl M a = some 7 ∧ CC X (d - 1) 72 [.ref a] M (XC X d 134 84 87 L st Q)) := H_virt [] rfl (by decide) rfl rfl rfl rfl rfl hd hs
theorem x134_87 (h : -2147483648 ≤ p ∧ p ≤ 2147483647 ∧ -2147483648 ≤ q ∧ q ≤ 2147483647) : XX X d 134 (87, L, .int (ii q) :: .int (ii p) :: st, M) Q = bq (p ≠ q) X d 134 94 90 L st M Q := H_if2 rfl ⟨rfl, rfl, rfl, by decide⟩ rfl rfl rfl rfl (D_ne h)
theorem x134_90 : XX X d 134 (90, L, st, M) Q = XX X d 134 (91, L, .int (ii 1) :: st, M) Q := G_cst rfl rfl rfl rfl rfl
theorem x134_91 : XX X d 134 (91, L, st, M) Q = XX X d 134 (95, L, st, M) Q := H_jmp rfl (by decide) rfl
theorem x134_94 : XX X d 134 (94, L, st, M) Q = XX X d 134 (95, L, .int (ii 0) :: st, M) Q := G_cst rfl rfl rfl rfl rfl
theorem x134_95 (h : p = 0 ∨ p = 1) : XX X d 134 (95, L, [.int (ii p)], M) Q = Q (.inl (some (.int (ii p)))) M := G_ret rfl ⟨⟨⟨rfl, rfl, rfl, by decide⟩, rfl, rfl⟩, rfl, rfl⟩ (bz_ok h)
theorem e134 : CC X d 134 [.ref a, .ref a1, .int x] M Q = XX X d 134 (0, [some (.ref a), some (.ref a1), some (.int x), none, none], [], M) Q := H_ent rfl rfl
-- 135 X8_listMatches (LRegexTracer$Pattern;)V
theorem x135_0 : XX X d 135 (0, [some (.ref a), l1, l2, l3, l4, l5], st, M) Q = XX X d 135 (1, [some (.ref a), l1, l2, l3, l4, l5], .ref a :: st, M) Q := H_ld rfl rfl rfl rfl rfl
theorem x135_0n : XX X d 135 (0, [some (.null), l1, l2, l3, l4, l5], st, M) Q = XX X d 135 (1, [some (.null), l1, l2, l3, l4, l5], .null :: st, M) Q := H_ld rfl rfl rfl rfl rfl
theorem x135_1 : XX X d 135 (1, L, .ref a :: st, M) Q = yg (M.2.2 a) 8 11 X d 135 4 L st M Q := G_getf rfl (by decide) rfl rfl rfl
theorem x135_4 (hd : 0 < d) (hs : stB st = true) : XX X d 135 (4, L, .ref a :: st, M) Q = (mcl M a = some 6 ∧ CC X (d - 1) 67 [.ref a] M (XC X d 135 4 7 L st Q)) := H_virt [] rfl (by decide) rfl rfl rfl rfl rfl hd hs
theorem x135_7 : XX X d 135 (7, [some (.ref a), l1, l2, l3, l4, l5], st, M) Q = XX X d 135 (8, [some (.ref a), l1, l2, l3, l4, l5], .ref a :: st, M) Q := H_ld rfl rfl rfl rfl rfl
theorem x135_7n : XX X d 135 (7, [some (.null), l1, l2, l3, l4, l5], st, M) Q = XX X d 135 (8, [some (.null), l1, l2, l3, l4, l5], .null :: st, M) Q := H_ld rfl rfl rfl rfl rfl
theorem x135_8 : XX X d 135 (8, L, .ref a :: st, M) Q = yg (M.2.2 a) 8 12 X d 135 11 L st M Q := G_getf rfl (by decide) rfl rfl rfl
theorem x135_11 (hd : 0 < d) (hs : stB st = true) : XX X d 135 (11, L, .ref a :: st, M) Q = (mcl M a = some 6 ∧ CC X (d - 1) 67 [.ref a] M (XC X d 135 11 14 L st Q)) := H_virt [] rfl (by decide) rfl rfl rfl rfl rfl hd hs
theorem x135_14 : XX X d 135 (14, L, st, M) Q = XX X d 135 (15, L, .int (ii 0) :: st, M) Q := G_cst rfl rfl rfl rfl rfl
theorem x135_15 (h : wide (some l1) = false) : XX X d 135 (15, [l0, l1, l2, l3, l4, l5], .int x :: st, M) Q = XX X d 135 (16, [l0, l1, some (.int x), l3, l4, l5], st, M) Q := H_st rfl rfl rfl rfl rfl rfl rfl rfl (Or.inr h)
theorem x135_16 : XX X d 135 (16, L, st, M) Q = XX X d 135 (17, L, .int (ii 0) :: st, M) Q := G_cst rfl rfl rfl rfl rfl
theorem x135_17 (h : wide (some l2) = false) : XX X d 135 (17, [l0, l1, l2, l3, l4, l5], .int x :: st, M) Q = XX X d 135 (18, [l0, l1, l2, some (.int x), l4, l5], st, M) Q := H_st rfl rfl rfl rfl rfl rfl rfl rfl (Or.inr h)
theorem x135_18 : XX X d 135 (18, [l0, l1, l2, some (.int x), l4, l5], st, M) Q = XX X d 135 (19, [l0, l1, l2, some (.int x), l4, l5], .int x :: st, M) Q := H_ld rfl rfl rfl rfl rfl
theorem x135_19 : XX X d 135 (19, L, st, M) Q = XX X d 135 (21, L, .int (ii 40) :: st, M) Q := G_cst rfl rfl rfl rfl rfl
theorem x135_21 (h : -2147483648 ≤ p ∧ p ≤ 2147483647 ∧ -2147483648 ≤ q ∧ q ≤ 2147483647) : XX X d 135 (21, L, .int (ii q) :: .int (ii p) :: st, M) Q = bq (q < p) X d 135 117 24 L st M Q := H_if2 rfl ⟨rfl, rfl, rfl, by decide⟩ rfl rfl rfl rfl (D_gt h)
theorem x135_24 : XX X d 135 (24, [l0, l1, some (.int x), l3, l4, l5], st, M) Q = XX X d 135 (25, [l0, l1, some (.int x), l3, l4, l5], .int x :: st, M) Q := H_ld rfl rfl rfl rfl rfl
theorem x135_25 : XX X d 135 (25, [some (.ref a), l1, l2, l3, l4, l5], st, M) Q = XX X d 135 (26, [some (.ref a), l1, l2, l3, l4, l5], .ref a :: st, M) Q := H_ld rfl rfl rfl rfl rfl
theorem x135_25n : XX X d 135 (25, [some (.null), l1, l2, l3, l4, l5], st, M) Q = XX X d 135 (26, [some (.null), l1, l2, l3, l4, l5], .null :: st, M) Q := H_ld rfl rfl rfl rfl rfl
theorem x135_26 : XX X d 135 (26, L, .ref a :: st, M) Q = yg (M.2.2 a) 8 2 X d 135 29 L st M Q := G_getf rfl (by decide) rfl rfl rfl
theorem x135_29 : XX X d 135 (29, L, .ref a :: st, M) Q = yg (M.2.2 a) 1 2 X d 135 32 L st M Q := G_getf rfl (by decide) rfl rfl rfl
theorem x135_32 (hd : 0 < d) (hs : stB st = true) : XX X d 135 (32, L, .ref a :: st, M) Q = (mcl M a = some 6 ∧ CC X (d - 1) 58 [.ref a] M (XC X d 135 32 35 L st Q)) := H_virt [] rfl (by decide) rfl rfl rfl rfl rfl hd hs
theorem x135_35 (h : -2147483648 ≤ p ∧ p ≤ 2147483647 ∧ -2147483648 ≤ q ∧ q ≤ 2147483647) : XX X d 135 (35, L, .int (ii q) :: .int (ii p) :: st, M) Q = bq (q < p) X d 135 117 38 L st M Q := H_if2 rfl ⟨rfl, rfl, rfl, by decide⟩ rfl rfl rfl rfl (D_gt h)
theorem x135_38 : XX X d 135 (38, [some (.ref a), l1, l2, l3, l4, l5], st, M) Q = XX X d 135 (39, [some (.ref a), l1, l2, l3, l4, l5], .ref a :: st, M) Q := H_ld rfl rfl rfl rfl rfl
theorem x135_38n : XX X d 135 (38, [some (.null), l1, l2, l3, l4, l5], st, M) Q = XX X d 135 (39, [some (.null), l1, l2, l3, l4, l5], .null :: st, M) Q := H_ld rfl rfl rfl rfl rfl
theorem x135_39 : XX X d 135 (39, L, .ref a :: st, M) Q = yg (M.2.2 a) 8 9 X d 135 42 L st M Q := G_getf rfl (by decide) rfl rfl rfl
theorem x135_42 : XX X d 135 (42, [l0, some (.ref a), l2, l3, l4, l5], st, M) Q = XX X d 135 (43, [l0, some (.ref a), l2, l3, l4, l5], .ref a :: st, M) Q := H_ld rfl rfl rfl rfl rfl
theorem x135_42n : XX X d 135 (42, [l0, some (.null), l2, l3, l4, l5], st, M) Q = XX X d 135 (43, [l0, some (.null), l2, l3, l4, l5], .null :: st, M) Q := H_ld rfl rfl rfl rfl rfl
theorem x135_43 : XX X d 135 (43, [some (.ref a), l1, l2, l3, l4, l5], st, M) Q = XX X d 135 (44, [some (.ref a), l1, l2, l3, l4, l5], .ref a :: st, M) Q := H_ld rfl rfl rfl rfl rfl
theorem x135_43n : XX X d 135 (43, [some (.null), l1, l2, l3, l4, l5], st, M) Q = XX X d 135 (44, [some (.null), l1, l2, l3, l4, l5], .null :: st, M) Q := H_ld rfl rfl rfl rfl rfl
theorem x135_44 : XX X d 135 (44, L, .ref a :: st, M) Q = yg (M.2.2 a) 8 2 X d 135 47 L st M Q := G_getf rfl (by decide) rfl rfl rfl
theorem x135_47 : XX X d 135 (47, L, .ref a :: st, M) Q = yg (M.2.2 a) 1 2 X d 135 50 L st M Q := G_getf rfl (by decide) rfl rfl rfl
theorem x135_50 : XX X d 135 (50, [l0, l1, some (.int x), l3, l4, l5], st, M) Q = XX X d 135 (51, [l0, l1, some (.int x), l3, l4, l5], .int x :: st, M) Q := H_ld rfl rfl rfl rfl rfl
theorem x135_51 {v1 v2 v3 : Value} (hd : 0 < d) (hs : stB st = true) : XX X d 135 (51, L, v3 :: v2 :: v1 :: .ref a :: st, M) Q = (mcl M a = some 0 ∧ CC X (d - 1) 7 [.ref a, v1, v2, v3] M (XC X d 135 51 54 L st Q)) := H_virt [v1, v2, v3] rfl (by decide) rfl rfl rfl rfl rfl hd hs
theorem x135_54 (h : -2147483648 ≤ p ∧ p ≤ 2147483647) : XX X d 135 (54, L, .int (ii p) :: st, M) Q = bq (p ≠ 0) X d 135 58 57 L st M Q := H_if rfl ⟨rfl, rfl, rfl, by decide⟩ rfl rfl rfl rfl (D_ne (b := 0) (by omega))
theorem x135_54b : XX X d 135 (54, L, .int (ii (b2i b)) :: st, M) Q = bq (b = true) X d 135 58 57 L st M Q := (x135_54 (b2i_r b)).trans (by rw [b2i_n0])
theorem x135_57 : XX X d 135 (57, L, [], M) Q = Q (.inl none) M := G_retv rfl (by decide) rfl
theorem x135_58 : XX X d 135 (58, [some (.ref a), l1, l2, l3, l4, l5], st, M) Q = XX X d 135 (59, [some (.ref a), l1, l2, l3, l4, l5], .ref a :: st, M) Q := H_ld rfl rfl rfl rfl rfl
theorem x135_58n : XX X d 135 (58, [some (.null), l1, l2, l3, l4, l5], st, M) Q = XX X d 135 (59, [some (.null), l1, l2, l3, l4, l5], .null :: st, M) Q := H_ld rfl rfl rfl rfl rfl
theorem x135_59 : XX X d 135 (59, L, .ref a :: st, M) Q = yg (M.2.2 a) 8 9 X d 135 62 L st M Q := G_getf rfl (by decide) rfl rfl rfl
theorem x135_62 (hd : 0 < d) (hs : stB st = true) : XX X d 135 (62, L, .ref a :: st, M) Q = (mcl M a = some 0 ∧ CC X (d - 1) 2 [.ref a] M (XC X d 135 62 65 L st Q)) := H_virt [] rfl (by decide) rfl rfl rfl rfl rfl hd hs
theorem x135_65 (h : wide (some l3) = false) : XX X d 135 (65, [l0, l1, l2, l3, l4, l5], .int x :: st, M) Q = XX X d 135 (67, [l0, l1, l2, l3, some (.int x), l5], st, M) Q := H_st rfl rfl rfl rfl rfl rfl rfl rfl (Or.inr h)
theorem x135_67 : XX X d 135 (67, [some (.ref a), l1, l2, l3, l4, l5], st, M) Q = XX X d 135 (68, [some (.ref a), l1, l2, l3, l4, l5], .ref a :: st, M) Q := H_ld rfl rfl rfl rfl rfl
theorem x135_67n : XX X d 135 (67, [some (.null), l1, l2, l3, l4, l5], st, M) Q = XX X d 135 (68, [some (.null), l1, l2, l3, l4, l5], .null :: st, M) Q := H_ld rfl rfl rfl rfl rfl
theorem x135_68 : XX X d 135 (68, L, .ref a :: st, M) Q = yg (M.2.2 a) 8 9 X d 135 71 L st M Q := G_getf rfl (by decide) rfl rfl rfl
theorem x135_71 (hd : 0 < d) (hs : stB st = true) : XX X d 135 (71, L, .ref a :: st, M) Q = (mcl M a = some 0 ∧ CC X (d - 1) 3 [.ref a] M (XC X d 135 71 74 L st Q)) := H_virt [] rfl (by decide) rfl rfl rfl rfl rfl hd hs
theorem x135_74 (h : wide (some l4) = false) : XX X d 135 (74, [l0, l1, l2, l3, l4, l5], .int x :: st, M) Q = XX X d 135 (76, [l0, l1, l2, l3, l4, some (.int x)], st, M) Q := H_st rfl rfl rfl rfl rfl rfl rfl rfl (Or.inr h)
theorem x135_76 : XX X d 135 (76, [some (.ref a), l1, l2, l3, l4, l5], st, M) Q = XX X d 135 (77, [some (.ref a), l1, l2, l3, l4, l5], .ref a :: st, M) Q := H_ld rfl rfl rfl rfl rfl
theorem x135_76n : XX X d 135 (76, [some (.null), l1, l2, l3, l4, l5], st, M) Q = XX X d 135 (77, [some (.null), l1, l2, l3, l4, l5], .null :: st, M) Q := H_ld rfl rfl rfl rfl rfl
theorem x135_77 : XX X d 135 (77, L, .ref a :: st, M) Q = yg (M.2.2 a) 8 11 X d 135 80 L st M Q := G_getf rfl (by decide) rfl rfl rfl
theorem x135_80 : XX X d 135 (80, [l0, l1, l2, l3, some (.int x), l5], st, M) Q = XX X d 135 (82, [l0, l1, l2, l3, some (.int x), l5], .int x :: st, M) Q := H_ld rfl rfl rfl rfl rfl
theorem x135_82 {v1 : Value} (hd : 0 < d) (hs : stB st = true) : XX X d 135 (82, L, v1 :: .ref a :: st, M) Q = (mcl M a = some 6 ∧ CC X (d - 1) 63 [.ref a, v1] M (XC X d 135 82 85 L st Q)) := H_virt [v1] rfl (by decide) rfl rfl rfl rfl rfl hd hs
theorem x135_85 : XX X d 135 (85, [some (.ref a), l1, l2, l3, l4, l5], st, M) Q = XX X d 135 (86, [some (.ref a), l1, l2, l3, l4, l5], .ref a :: st, M) Q := H_ld rfl rfl rfl rfl rfl
theorem x135_85n : XX X d 135 (85, [some (.null), l1, l2, l3, l4, l5], st, M) Q = XX X d 135 (86, [some (.null), l1, l2, l3, l4, l5], .null :: st, M) Q := H_ld rfl rfl rfl rfl rfl
theorem x135_86 : XX X d 135 (86, L, .ref a :: st, M) Q = yg (M.2.2 a) 8 12 X d 135 89 L st M Q := G_getf rfl (by decide) rfl rfl rfl
theorem x135_89 : XX X d 135 (89, [l0, l1, l2, l3, l4, some (.int x)], st, M) Q = XX X d 135 (91, [l0, l1, l2, l3, l4, some (.int x)], .int x :: st, M) Q := H_ld rfl rfl rfl rfl rfl
theorem x135_91 {v1 : Value} (hd : 0 < d) (hs : stB st = true) : XX X d 135 (91, L, v1 :: .ref a :: st, M) Q = (mcl M a = some 6 ∧ CC X (d - 1) 63 [.ref a, v1] M (XC X d 135 91 94 L st Q)) := H_virt [v1] rfl (by decide) rfl rfl rfl rfl rfl hd hs
theorem x135_94 : XX X d 135 (94, [l0, l1, l2, l3, l4, some (.int x)], st, M) Q = XX X d 135 (96, [l0, l1, l2, l3, l4, some (.int x)], .int x :: st, M) Q := H_ld rfl rfl rfl rfl rfl
theorem x135_96 : XX X d 135 (96, [l0, l1, l2, l3, some (.int x), l5], st, M) Q = XX X d 135 (98, [l0, l1, l2, l3, some (.int x), l5], .int x :: st, M) Q := H_ld rfl rfl rfl rfl rfl
theorem x135_98 (h : -2147483648 ≤ p ∧ p ≤ 2147483647 ∧ -2147483648 ≤ q ∧ q ≤ 2147483647) : XX X d 135 (98, L, .int (ii q) :: .int (ii p) :: st, M) Q = bq (p ≤ q) X d 135 106 101 L st M Q := H_if2 rfl ⟨rfl, rfl, rfl, by decide⟩ rfl rfl rfl rfl (D_ge h)
theorem x135_101 : XX X d 135 (101, [l0, l1, l2, l3, l4, some (.int x)], st, M) Q = XX X d 135 (103, [l0, l1, l2, l3, l4, some (.int x)], .int x :: st, M) Q := H_ld rfl rfl rfl rfl rfl
theorem x135_103 : XX X d 135 (103, L, st, M) Q = XX X d 135 (110, L, st, M) Q := H_jmp rfl (by decide) rfl
theorem x135_106 : XX X d 135 (106, [l0, l1, l2, l3, l4, some (.int x)], st, M) Q = XX X d 135 (108, [l0, l1, l2, l3, l4, some (.int x)], .int x :: st, M) Q := H_ld rfl rfl rfl rfl rfl
theorem x135_108 : XX X d 135 (108, L, st, M) Q = XX X d 135 (109, L, .int (ii 1) :: st, M) Q := G_cst rfl rfl rfl rfl rfl
theorem x135_109 : XX X d 135 (109, L, .int (ii q) :: .int (ii p) :: st, M) Q = XX X d 135 (110, L, .int (ii (p + q)) :: st, M) Q := H_add rfl (by decide) rfl
theorem x135_110 (h : wide (some l1) = false) : XX X d 135 (110, [l0, l1, l2, l3, l4, l5], .int x :: st, M) Q = XX X d 135 (111, [l0, l1, some (.int x), l3, l4, l5], st, M) Q := H_st rfl rfl rfl rfl rfl rfl rfl rfl (Or.inr h)
theorem x135_111 (h : wide (some l2) = false) : XX X d 135 (111, [l0, l1, l2, some (.int (ii p)), l4, l5], st, M) Q = XX X d 135 (114, [l0, l1, l2, some (.int (ii (p + 1))), l4, l5], st, M) Q := H_inc rfl (by decide) rfl rfl rfl (Or.inr h)
theorem x135_114 : XX X d 135 (114, L, st, M) Q = XX X d 135 (18, L, st, M) Q := H_jmp rfl (by decide) rfl
theorem x135_117 : XX X d 135 (117, L, [], M) Q = Q (.inl none) M := G_retv rfl (by decide) rfl
theorem e135 : CC X d 135 [.ref a, .ref a1] M Q = XX X d 135 (0, [some (.ref a), some (.ref a1), none, none, none, none], [], M) Q := H_ent rfl rfl
-- 136 X8_lengthOf (I)I
theorem x136_0 : XX X d 136 (0, [some (.ref a), l1], st, M) Q = XX X d 136 (1, [some (.ref a), l1], .ref a :: st, M) Q := H_ld rfl rfl rfl rfl rfl
theorem x136_0n : XX X d 136 (0, [some (.null), l1], st, M) Q = XX X d 136 (1, [some (.null), l1], .null :: st, M) Q := H_ld rfl rfl rfl rfl rfl
theorem x136_1 : XX X d 136 (1, L, .ref a :: st, M) Q = yg (M.2.2 a) 8 12 X d 136 4 L st M Q := G_getf rfl (by decide) rfl rfl rfl
theorem x136_4 : XX X d 136 (4, [l0, some (.int x)], st, M) Q = XX X d 136 (5, [l0, some (.int x)], .int x :: st, M) Q := H_ld rfl rfl rfl rfl rfl
theorem x136_5 {v1 : Value} (hd : 0 < d) (hs : stB st = true) : XX X d 136 (5, L, v1 :: .ref a :: st, M) Q = (mcl M a = some 6 ∧ CC X (d - 1) 61 [.ref a, v1] M (XC X d 136 5 8 L st Q)) := H_virt [v1] rfl (by decide) rfl rfl rfl rfl rfl hd hs
theorem x136_8 : XX X d 136 (8, [some (.ref a), l1], st, M) Q = XX X d 136 (9, [some (.ref a), l1], .ref a :: st, M) Q := H_ld rfl rfl rfl rfl rfl
theorem x136_8n : XX X d 136 (8, [some (.null), l1], st, M) Q = XX X d 136 (9, [some (.null), l1], .null :: st, M) Q := H_ld rfl rfl rfl rfl rfl
theorem x136_9 : XX X d 136 (9, L, .ref a :: st, M) Q = yg (M.2.2 a) 8 11 X d 136 12 L st M Q := G_getf rfl (by decide) rfl rfl rfl
theorem x136_12 : XX X d 136 (12, [l0, some (.int x)], st, M) Q = XX X d 136 (13, [l0, some (.int x)], .int x :: st, M) Q := H_ld rfl rfl rfl rfl rfl
theorem x136_13 {v1 : Value} (hd : 0 < d) (hs : stB st = true) : XX X d 136 (13, L, v1 :: .ref a :: st, M) Q = (mcl M a = some 6 ∧ CC X (d - 1) 61 [.ref a, v1] M (XC X d 136 13 16 L st Q)) := H_virt [v1] rfl (by decide) rfl rfl rfl rfl rfl hd hs
theorem x136_16 : XX X d 136 (16, L, .int (ii q) :: .int (ii p) :: st, M) Q = XX X d 136 (17, L, .int (ii (p - q)) :: st, M) Q := H_sub rfl (by decide) rfl
theorem x136_17 : XX X d 136 (17, L, [.int (ii p)], M) Q = Q (.inl (some (.int (ii p)))) M := G_ret rfl ⟨⟨⟨rfl, rfl, rfl, by decide⟩, rfl, rfl⟩, rfl, rfl⟩ rfl
theorem e136 : CC X d 136 [.ref a, .int x] M Q = XX X d 136 (0, [some (.ref a), some (.int x)], [], M) Q := H_ent rfl rfl
-- 137 X8_totalLength ()I
theorem x137_0 : XX X d 137 (0, L, st, M) Q = XX X d 137 (1, L, .int (ii 0) :: st, M) Q := G_cst rfl rfl rfl rfl rfl
theorem x137_1 (h : wide (some l0) = false) : XX X d 137 (1, [l0, l1, l2], .int x :: st, M) Q = XX X d 137 (2, [l0, some (.int x), l2], st, M) Q := H_st rfl rfl rfl rfl rfl rfl rfl rfl (Or.inr h)
theorem x137_2 : XX X d 137 (2, L, st, M) Q = XX X d 137 (3, L, .int (ii 0) :: st, M) Q := G_cst rfl rfl rfl rfl rfl
theorem x137_3 (h : wide (some l1) = false) : XX X d 137 (3, [l0, l1, l2], .int x :: st, M) Q = XX X d 137 (4, [l0, l1, some (.int x)], st, M) Q := H_st rfl rfl rfl rfl rfl rfl rfl rfl (Or.inr h)
theorem x137_4 : XX X d 137 (4, [l0, l1, some (.int x)], st, M) Q = XX X d 137 (5, [l0, l1, some (.int x)], .int x :: st, M) Q := H_ld rfl rfl rfl rfl rfl
theorem x137_5 : XX X d 137 (5, [some (.ref a), l1, l2], st, M) Q = XX X d 137 (6, [some (.ref a), l1, l2], .ref a :: st, M) Q := H_ld rfl rfl rfl rfl rfl
theorem x137_5n : XX X d 137 (5, [some (.null), l1, l2], st, M) Q = XX X d 137 (6, [some (.null), l1, l2], .null :: st, M) Q := H_ld rfl rfl rfl rfl rfl
theorem x137_6 : XX X d 137 (6, L, .ref a :: st, M) Q = yg (M.2.2 a) 8 11 X d 137 9 L st M Q := G_getf rfl (by decide) rfl rfl rfl
theorem x137_9 (hd : 0 < d) (hs : stB st = true) : XX X d 137 (9, L, .ref a :: st, M) Q = (mcl M a = some 6 ∧ CC X (d - 1) 58 [.ref a] M (XC X d 137 9 12 L st Q)) := H_virt [] rfl (by decide) rfl rfl rfl rfl rfl hd hs
theorem x137_12 (h : -2147483648 ≤ p ∧ p ≤ 2147483647 ∧ -2147483648 ≤ q ∧ q ≤ 2147483647) : XX X d 137 (12, L, .int (ii q) :: .int (ii p) :: st, M) Q = bq (q ≤ p) X d 137 29 15 L st M Q := H_if2 rfl ⟨rfl, rfl, rfl, by decide⟩ rfl rfl rfl rfl (D_le h)
theorem x137_15 : XX X d 137 (15, [l0, some (.int x), l2], st, M) Q = XX X d 137 (16, [l0, some (.int x), l2], .int x :: st, M) Q := H_ld rfl rfl rfl rfl rfl
theorem x137_16 : XX X d 137 (16, [some (.ref a), l1, l2], st, M) Q = XX X d 137 (17, [some (.ref a), l1, l2], .ref a :: st, M) Q := H_ld rfl rfl rfl rfl rfl
theorem x137_16n : XX X d 137 (16, [some (.null), l1, l2], st, M) Q = XX X d 137 (17, [some (.null), l1, l2], .null :: st, M) Q := H_ld rfl rfl rfl rfl rfl
theorem x137_17 : XX X d 137 (17, [l0, l1, some (.int x)], st, M) Q = XX X d 137 (18, [l0, l1, some (.int x)], .int x :: st, M) Q := H_ld rfl rfl rfl rfl rfl
theorem x137_18 {v1 : Value} (hd : 0 < d) (hs : stB st = true) : XX X d 137 (18, L, v1 :: .ref a :: st, M) Q = (mcl M a = some 8 ∧ CC X (d - 1) 136 [.ref a, v1] M (XC X d 137 18 21 L st Q)) := H_virt [v1] rfl (by decide) rfl rfl rfl rfl rfl hd hs
theorem x137_21 : XX X d 137 (21, L, .int (ii q) :: .int (ii p) :: st, M) Q = XX X d 137 (22, L, .int (ii (p + q)) :: st, M) Q := H_add rfl (by decide) rfl
theorem x137_22 (h : wide (some l0) = false) : XX X d 137 (22, [l0, l1, l2], .int x :: st, M) Q = XX X d 137 (23, [l0, some (.int x), l2], st, M) Q := H_st rfl rfl rfl rfl rfl rfl rfl rfl (Or.inr h)
theorem x137_23 (h : wide (some l1) = false) : XX X d 137 (23, [l0, l1, some (.int (ii p))], st, M) Q = XX X d 137 (26, [l0, l1, some (.int (ii (p + 1)))], st, M) Q := H_inc rfl (by decide) rfl rfl rfl (Or.inr h)
theorem x137_26 : XX X d 137 (26, L, st, M) Q = XX X d 137 (4, L, st, M) Q := H_jmp rfl (by decide) rfl
theorem x137_29 : XX X d 137 (29, [l0, some (.int x), l2], st, M) Q = XX X d 137 (30, [l0, some (.int x), l2], .int x :: st, M) Q := H_ld rfl rfl rfl rfl rfl
theorem x137_30 : XX X d 137 (30, L, [.int (ii p)], M) Q = Q (.inl (some (.int (ii p)))) M := G_ret rfl ⟨⟨⟨rfl, rfl, rfl, by decide⟩, rfl, rfl⟩, rfl, rfl⟩ rfl
theorem e137 : CC X d 137 [.ref a] M Q = XX X d 137 (0, [some (.ref a), none, none], [], M) Q := H_ent rfl rfl
-- 138 X8_rankOf (I)I
theorem x138_0 : XX X d 138 (0, [some (.ref a), l1, l2, l3, l4, l5], st, M) Q = XX X d 138 (1, [some (.ref a), l1, l2, l3, l4, l5], .ref a :: st, M) Q := H_ld rfl rfl rfl rfl rfl
theorem x138_0n : XX X d 138 (0, [some (.null), l1, l2, l3, l4, l5], st, M) Q = XX X d 138 (1, [some (.null), l1, l2, l3, l4, l5], .null :: st, M) Q := H_ld rfl rfl rfl rfl rfl
theorem x138_1 : XX X d 138 (1, L, .ref a :: st, M) Q = yg (M.2.2 a) 8 13 X d 138 4 L st M Q := G_getf rfl (by decide) rfl rfl rfl
theorem x138_4 : XX X d 138 (4, [l0, some (.int x), l2, l3, l4, l5], st, M) Q = XX X d 138 (5, [l0, some (.int x), l2, l3, l4, l5], .int x :: st, M) Q := H_ld rfl rfl rfl rfl rfl
theorem x138_5 {v1 : Value} (hd : 0 < d) (hs : stB st = true) : XX X d 138 (5, L, v1 :: .ref a :: st, M) Q = (mcl M a = some 6 ∧ CC X (d - 1) 61 [.ref a, v1] M (XC X d 138 5 8 L st Q)) := H_virt [v1] rfl (by decide) rfl rfl rfl rfl rfl hd hs
theorem x138_8 (h : wide (some l1) = false) : XX X d 138 (8, [l0, l1, l2, l3, l4, l5], .int x :: st, M) Q = XX X d 138 (9, [l0, l1, some (.int x), l3, l4, l5], st, M) Q := H_st rfl rfl rfl rfl rfl rfl rfl rfl (Or.inr h)
theorem x138_9 : XX X d 138 (9, L, st, M) Q = XX X d 138 (10, L, .int (ii 0) :: st, M) Q := G_cst rfl rfl rfl rfl rfl
theorem x138_10 (h : wide (some l2) = false) : XX X d 138 (10, [l0, l1, l2, l3, l4, l5], .int x :: st, M) Q = XX X d 138 (11, [l0, l1, l2, some (.int x), l4, l5], st, M) Q := H_st rfl rfl rfl rfl rfl rfl rfl rfl (Or.inr h)
theorem x138_11 : XX X d 138 (11, L, st, M) Q = XX X d 138 (12, L, .int (ii 0) :: st, M) Q := G_cst rfl rfl rfl rfl rfl
theorem x138_12 (h : wide (some l3) = false) : XX X d 138 (12, [l0, l1, l2, l3, l4, l5], .int x :: st, M) Q = XX X d 138 (14, [l0, l1, l2, l3, some (.int x), l5], st, M) Q := H_st rfl rfl rfl rfl rfl rfl rfl rfl (Or.inr h)
theorem x138_14 : XX X d 138 (14, [l0, l1, l2, l3, some (.int x), l5], st, M) Q = XX X d 138 (16, [l0, l1, l2, l3, some (.int x), l5], .int x :: st, M) Q := H_ld rfl rfl rfl rfl rfl
theorem x138_16 : XX X d 138 (16, [some (.ref a), l1, l2, l3, l4, l5], st, M) Q = XX X d 138 (17, [some (.ref a), l1, l2, l3, l4, l5], .ref a :: st, M) Q := H_ld rfl rfl rfl rfl rfl
theorem x138_16n : XX X d 138 (16, [some (.null), l1, l2, l3, l4, l5], st, M) Q = XX X d 138 (17, [some (.null), l1, l2, l3, l4, l5], .null :: st, M) Q := H_ld rfl rfl rfl rfl rfl
theorem x138_17 : XX X d 138 (17, L, .ref a :: st, M) Q = yg (M.2.2 a) 8 13 X d 138 20 L st M Q := G_getf rfl (by decide) rfl rfl rfl
theorem x138_20 (hd : 0 < d) (hs : stB st = true) : XX X d 138 (20, L, .ref a :: st, M) Q = (mcl M a = some 6 ∧ CC X (d - 1) 58 [.ref a] M (XC X d 138 20 23 L st Q)) := H_virt [] rfl (by decide) rfl rfl rfl rfl rfl hd hs
theorem x138_23 (h : -2147483648 ≤ p ∧ p ≤ 2147483647 ∧ -2147483648 ≤ q ∧ q ≤ 2147483647) : XX X d 138 (23, L, .int (ii q) :: .int (ii p) :: st, M) Q = bq (q ≤ p) X d 138 64 26 L st M Q := H_if2 rfl ⟨rfl, rfl, rfl, by decide⟩ rfl rfl rfl rfl (D_le h)
theorem x138_26 : XX X d 138 (26, [some (.ref a), l1, l2, l3, l4, l5], st, M) Q = XX X d 138 (27, [some (.ref a), l1, l2, l3, l4, l5], .ref a :: st, M) Q := H_ld rfl rfl rfl rfl rfl
theorem x138_26n : XX X d 138 (26, [some (.null), l1, l2, l3, l4, l5], st, M) Q = XX X d 138 (27, [some (.null), l1, l2, l3, l4, l5], .null :: st, M) Q := H_ld rfl rfl rfl rfl rfl
theorem x138_27 : XX X d 138 (27, L, .ref a :: st, M) Q = yg (M.2.2 a) 8 13 X d 138 30 L st M Q := G_getf rfl (by decide) rfl rfl rfl
theorem x138_30 : XX X d 138 (30, [l0, l1, l2, l3, some (.int x), l5], st, M) Q = XX X d 138 (32, [l0, l1, l2, l3, some (.int x), l5], .int x :: st, M) Q := H_ld rfl rfl rfl rfl rfl
theorem x138_32 {v1 : Value} (hd : 0 < d) (hs : stB st = true) : XX X d 138 (32, L, v1 :: .ref a :: st, M) Q = (mcl M a = some 6 ∧ CC X (d - 1) 61 [.ref a, v1] M (XC X d 138 32 35 L st Q)) := H_virt [v1] rfl (by decide) rfl rfl rfl rfl rfl hd hs
theorem x138_35 (h : wide (some l4) = false) : XX X d 138 (35, [l0, l1, l2, l3, l4, l5], .int x :: st, M) Q = XX X d 138 (37, [l0, l1, l2, l3, l4, some (.int x)], st, M) Q := H_st rfl rfl rfl rfl rfl rfl rfl rfl (Or.inr h)
theorem x138_37 : XX X d 138 (37, [l0, l1, l2, l3, l4, some (.int x)], st, M) Q = XX X d 138 (39, [l0, l1, l2, l3, l4, some (.int x)], .int x :: st, M) Q := H_ld rfl rfl rfl rfl rfl
theorem x138_39 : XX X d 138 (39, [l0, l1, some (.int x), l3, l4, l5], st, M) Q = XX X d 138 (40, [l0, l1, some (.int x), l3, l4, l5], .int x :: st, M) Q := H_ld rfl rfl rfl rfl rfl
theorem x138_40 (h : -2147483648 ≤ p ∧ p ≤ 2147483647 ∧ -2147483648 ≤ q ∧ q ≤ 2147483647) : XX X d 138 (40, L, .int (ii q) :: .int (ii p) :: st, M) Q = bq (q < p) X d 138 55 43 L st M Q := H_if2 rfl ⟨rfl, rfl, rfl, by decide⟩ rfl rfl rfl rfl (D_gt h)
theorem x138_43 : XX X d 138 (43, [l0, l1, l2, l3, l4, some (.int x)], st, M) Q = XX X d 138 (45, [l0, l1, l2, l3, l4, some (.int x)], .int x :: st, M) Q := H_ld rfl rfl rfl rfl rfl
theorem x138_45 : XX X d 138 (45, [l0, l1, some (.int x), l3, l4, l5], st, M) Q = XX X d 138 (46, [l0, l1, some (.int x), l3, l4, l5], .int x :: st, M) Q := H_ld rfl rfl rfl rfl rfl
theorem x138_46 (h : -2147483648 ≤ p ∧ p ≤ 2147483647 ∧ -2147483648 ≤ q ∧ q ≤ 2147483647) : XX X d 138 (46, L, .int (ii q) :: .int (ii p) :: st, M) Q = bq (p ≠ q) X d 138 58 49 L st M Q := H_if2 rfl ⟨rfl, rfl, rfl, by decide⟩ rfl rfl rfl rfl (D_ne h)
theorem x138_49 : XX X d 138 (49, [l0, l1, l2, l3, some (.int x), l5], st, M) Q = XX X d 138 (51, [l0, l1, l2, l3, some (.int x), l5], .int x :: st, M) Q := H_ld rfl rfl rfl rfl rfl
theorem x138_51 : XX X d 138 (51, [l0, some (.int x), l2, l3, l4, l5], st, M) Q = XX X d 138 (52, [l0, some (.int x), l2, l3, l4, l5], .int x :: st, M) Q := H_ld rfl rfl rfl rfl rfl
theorem x138_52 (h : -2147483648 ≤ p ∧ p ≤ 2147483647 ∧ -2147483648 ≤ q ∧ q ≤ 2147483647) : XX X d 138 (52, L, .int (ii q) :: .int (ii p) :: st, M) Q = bq (q ≤ p) X d 138 58 55 L st M Q := H_if2 rfl ⟨rfl, rfl, rfl, by decide⟩ rfl rfl rfl rfl (D_le h)
theorem x138_55 (h : wide (some l2) = false) : XX X d 138 (55, [l0, l1, l2, some (.int (ii p)), l4, l5], st, M) Q = XX X d 138 (58, [l0, l1, l2, some (.int (ii (p + 1))), l4, l5], st, M) Q := H_inc rfl (by decide) rfl rfl rfl (Or.inr h)
theorem x138_58 (h : wide (some l3) = false) : XX X d 138 (58, [l0, l1, l2, l3, some (.int (ii p)), l5], st, M) Q = XX X d 138 (61, [l0, l1, l2, l3, some (.int (ii (p + 1))), l5], st, M) Q := H_inc rfl (by decide) rfl rfl rfl (Or.inr h)
theorem x138_61 : XX X d 138 (61, L, st, M) Q = XX X d 138 (14, L, st, M) Q := H_jmp rfl (by decide) rfl
theorem x138_64 : XX X d 138 (64, [l0, l1, l2, some (.int x), l4, l5], st, M) Q = XX X d 138 (65, [l0, l1, l2, some (.int x), l4, l5], .int x :: st, M) Q := H_ld rfl rfl rfl rfl rfl
theorem x138_65 : XX X d 138 (65, L, [.int (ii p)], M) Q = Q (.inl (some (.int (ii p)))) M := G_ret rfl ⟨⟨⟨rfl, rfl, rfl, by decide⟩, rfl, rfl⟩, rfl, rfl⟩ rfl
theorem e138 : CC X d 138 [.ref a, .int x] M Q = XX X d 138 (0, [some (.ref a), some (.int x), none, none, none, none], [], M) Q := H_ent rfl rfl
-- 139 X8_draftReplacement (C)V
theorem x139_0 : XX X d 139 (0, [some (.ref a), l1, l2, l3], st, M) Q = XX X d 139 (1, [some (.ref a), l1, l2, l3], .ref a :: st, M) Q := H_ld rfl rfl rfl rfl rfl
theorem x139_0n : XX X d 139 (0, [some (.null), l1, l2, l3], st, M) Q = XX X d 139 (1, [some (.null), l1, l2, l3], .null :: st, M) Q := H_ld rfl rfl rfl rfl rfl
theorem x139_1 : XX X d 139 (1, L, .ref a :: st, M) Q = yg (M.2.2 a) 8 14 X d 139 4 L st M Q := G_getf rfl (by decide) rfl rfl rfl
theorem x139_4 (hd : 0 < d) (hs : stB st = true) : XX X d 139 (4, L, .ref a :: st, M) Q = (mcl M a = some 6 ∧ CC X (d - 1) 67 [.ref a] M (XC X d 139 4 7 L st Q)) := H_virt [] rfl (by decide) rfl rfl rfl rfl rfl hd hs
theorem x139_7 : XX X d 139 (7, L, st, M) Q = XX X d 139 (8, L, .int (ii 0) :: st, M) Q := G_cst rfl rfl rfl rfl rfl
theorem x139_8 (h : wide (some l1) = false) : XX X d 139 (8, [l0, l1, l2, l3], .int x :: st, M) Q = XX X d 139 (9, [l0, l1, some (.int x), l3], st, M) Q := H_st rfl rfl rfl rfl rfl rfl rfl rfl (Or.inr h)
theorem x139_9 : XX X d 139 (9, L, st, M) Q = XX X d 139 (10, L, .int (ii 0) :: st, M) Q := G_cst rfl rfl rfl rfl rfl
theorem x139_10 (h : wide (some l2) = false) : XX X d 139 (10, [l0, l1, l2, l3], .int x :: st, M) Q = XX X d 139 (11, [l0, l1, l2, some (.int x)], st, M) Q := H_st rfl rfl rfl rfl rfl rfl rfl rfl (Or.inr h)
theorem x139_11 : XX X d 139 (11, [l0, l1, l2, some (.int x)], st, M) Q = XX X d 139 (12, [l0, l1, l2, some (.int x)], .int x :: st, M) Q := H_ld rfl rfl rfl rfl rfl
theorem x139_12 : XX X d 139 (12, [some (.ref a), l1, l2, l3], st, M) Q = XX X d 139 (13, [some (.ref a), l1, l2, l3], .ref a :: st, M) Q := H_ld rfl rfl rfl rfl rfl
theorem x139_12n : XX X d 139 (12, [some (.null), l1, l2, l3], st, M) Q = XX X d 139 (13, [some (.null), l1, l2, l3], .null :: st, M) Q := H_ld rfl rfl rfl rfl rfl
theorem x139_13 : XX X d 139 (13, L, .ref a :: st, M) Q = yg (M.2.2 a) 8 11 X d 139 16 L st M Q := G_getf rfl (by decide) rfl rfl rfl
theorem x139_16 (hd : 0 < d) (hs : stB st = true) : XX X d 139 (16, L, .ref a :: st, M) Q = (mcl M a = some 6 ∧ CC X (d - 1) 58 [.ref a] M (XC X d 139 16 19 L st Q)) := H_virt [] rfl (by decide) rfl rfl rfl rfl rfl hd hs
theorem x139_19 (h : -2147483648 ≤ p ∧ p ≤ 2147483647 ∧ -2147483648 ≤ q ∧ q ≤ 2147483647) : XX X d 139 (19, L, .int (ii q) :: .int (ii p) :: st, M) Q = bq (q ≤ p) X d 139 68 22 L st M Q := H_if2 rfl ⟨rfl, rfl, rfl, by decide⟩ rfl rfl rfl rfl (D_le h)
theorem x139_22 : XX X d 139 (22, [some (.ref a), l1, l2, l3], st, M) Q = XX X d 139 (23, [some (.ref a), l1, l2, l3], .ref a :: st, M) Q := H_ld rfl rfl rfl rfl rfl
theorem x139_22n : XX X d 139 (22, [some (.null), l1, l2, l3], st, M) Q = XX X d 139 (23, [some (.null), l1, l2, l3], .null :: st, M) Q := H_ld rfl rfl rfl rfl rfl
theorem x139_23 : XX X d 139 (23, L, .ref a :: st, M) Q = yg (M.2.2 a) 8 14 X d 139 26 L st M Q := G_getf rfl (by decide) rfl rfl rfl
theorem x139_26 : XX X d 139 (26, [some (.ref a), l1, l2, l3], st, M) Q = XX X d 139 (27, [some (.ref a), l1, l2, l3], .ref a :: st, M) Q := H_ld rfl rfl rfl rfl rfl
theorem x139_26n : XX X d 139 (26, [some (.null), l1, l2, l3], st, M) Q = XX X d 139 (27, [some (.null), l1, l2, l3], .null :: st, M) Q := H_ld rfl rfl rfl rfl rfl
theorem x139_27 : XX X d 139 (27, L, .ref a :: st, M) Q = yg (M.2.2 a) 8 2 X d 139 30 L st M Q := G_getf rfl (by decide) rfl rfl rfl
theorem x139_30 : XX X d 139 (30, L, .ref a :: st, M) Q = yg (M.2.2 a) 1 2 X d 139 33 L st M Q := G_getf rfl (by decide) rfl rfl rfl
theorem x139_33 : XX X d 139 (33, [l0, l1, some (.int x), l3], st, M) Q = XX X d 139 (34, [l0, l1, some (.int x), l3], .int x :: st, M) Q := H_ld rfl rfl rfl rfl rfl
theorem x139_34 : XX X d 139 (34, [some (.ref a), l1, l2, l3], st, M) Q = XX X d 139 (35, [some (.ref a), l1, l2, l3], .ref a :: st, M) Q := H_ld rfl rfl rfl rfl rfl
theorem x139_34n : XX X d 139 (34, [some (.null), l1, l2, l3], st, M) Q = XX X d 139 (35, [some (.null), l1, l2, l3], .null :: st, M) Q := H_ld rfl rfl rfl rfl rfl
theorem x139_35 : XX X d 139 (35, L, .ref a :: st, M) Q = yg (M.2.2 a) 8 11 X d 139 38 L st M Q := G_getf rfl (by decide) rfl rfl rfl
theorem x139_38 : XX X d 139 (38, [l0, l1, l2, some (.int x)], st, M) Q = XX X d 139 (39, [l0, l1, l2, some (.int x)], .int x :: st, M) Q := H_ld rfl rfl rfl rfl rfl
theorem x139_39 {v1 : Value} (hd : 0 < d) (hs : stB st = true) : XX X d 139 (39, L, v1 :: .ref a :: st, M) Q = (mcl M a = some 6 ∧ CC X (d - 1) 61 [.ref a, v1] M (XC X d 139 39 42 L st Q)) := H_virt [v1] rfl (by decide) rfl rfl rfl rfl rfl hd hs
theorem x139_42 {v1 v2 v3 : Value} (hd : 0 < d) (hs : stB st = true) : XX X d 139 (42, L, v3 :: v2 :: v1 :: .ref a :: st, M) Q = (mcl M a = some 6 ∧ CC X (d - 1) 68 [.ref a, v1, v2, v3] M (XC X d 139 42 45 L st Q)) := H_virt [v1, v2, v3] rfl (by decide) rfl rfl rfl rfl rfl hd hs
theorem x139_45 : XX X d 139 (45, [some (.ref a), l1, l2, l3], st, M) Q = XX X d 139 (46, [some (.ref a), l1, l2, l3], .ref a :: st, M) Q := H_ld rfl rfl rfl rfl rfl
theorem x139_45n : XX X d 139 (45, [some (.null), l1, l2, l3], st, M) Q = XX X d 139 (46, [some (.null), l1, l2, l3], .null :: st, M) Q := H_ld rfl rfl rfl rfl rfl
theorem x139_46 : XX X d 139 (46, L, .ref a :: st, M) Q = yg (M.2.2 a) 8 14 X d 139 49 L st M Q := G_getf rfl (by decide) rfl rfl rfl
theorem x139_49 : XX X d 139 (49, [l0, some (.int x), l2, l3], st, M) Q = XX X d 139 (50, [l0, some (.int x), l2, l3], .int x :: st, M) Q := H_ld rfl rfl rfl rfl rfl
theorem x139_50 {v1 : Value} (hd : 0 < d) (hs : stB st = true) : XX X d 139 (50, L, v1 :: .ref a :: st, M) Q = (mcl M a = some 6 ∧ CC X (d - 1) 63 [.ref a, v1] M (XC X d 139 50 53 L st Q)) := H_virt [v1] rfl (by decide) rfl rfl rfl rfl rfl hd hs
theorem x139_53 : XX X d 139 (53, [some (.ref a), l1, l2, l3], st, M) Q = XX X d 139 (54, [some (.ref a), l1, l2, l3], .ref a :: st, M) Q := H_ld rfl rfl rfl rfl rfl
theorem x139_53n : XX X d 139 (53, [some (.null), l1, l2, l3], st, M) Q = XX X d 139 (54, [some (.null), l1, l2, l3], .null :: st, M) Q := H_ld rfl rfl rfl rfl rfl
theorem x139_54 : XX X d 139 (54, L, .ref a :: st, M) Q = yg (M.2.2 a) 8 12 X d 139 57 L st M Q := G_getf rfl (by decide) rfl rfl rfl
theorem x139_57 : XX X d 139 (57, [l0, l1, l2, some (.int x)], st, M) Q = XX X d 139 (58, [l0, l1, l2, some (.int x)], .int x :: st, M) Q := H_ld rfl rfl rfl rfl rfl
theorem x139_58 {v1 : Value} (hd : 0 < d) (hs : stB st = true) : XX X d 139 (58, L, v1 :: .ref a :: st, M) Q = (mcl M a = some 6 ∧ CC X (d - 1) 61 [.ref a, v1] M (XC X d 139 58 61 L st Q)) := H_virt [v1] rfl (by decide) rfl rfl rfl rfl rfl hd hs
theorem x139_61 (h : wide (some l1) = false) : XX X d 139 (61, [l0, l1, l2, l3], .int x :: st, M) Q = XX X d 139 (62, [l0, l1, some (.int x), l3], st, M) Q := H_st rfl rfl rfl rfl rfl rfl rfl rfl (Or.inr h)
theorem x139_62 (h : wide (some l2) = false) : XX X d 139 (62, [l0, l1, l2, some (.int (ii p))], st, M) Q = XX X d 139 (65, [l0, l1, l2, some (.int (ii (p + 1)))], st, M) Q := H_inc rfl (by decide) rfl rfl rfl (Or.inr h)
theorem x139_65 : XX X d 139 (65, L, st, M) Q = XX X d 139 (11, L, st, M) Q := H_jmp rfl (by decide) rfl
theorem x139_68 : XX X d 139 (68, [some (.ref a), l1, l2, l3], st, M) Q = XX X d 139 (69, [some (.ref a), l1, l2, l3], .ref a :: st, M) Q := H_ld rfl rfl rfl rfl rfl
theorem x139_68n : XX X d 139 (68, [some (.null), l1, l2, l3], st, M) Q = XX X d 139 (69, [some (.null), l1, l2, l3], .null :: st, M) Q := H_ld rfl rfl rfl rfl rfl
theorem x139_69 : XX X d 139 (69, L, .ref a :: st, M) Q = yg (M.2.2 a) 8 14 X d 139 72 L st M Q := G_getf rfl (by decide) rfl rfl rfl
theorem x139_72 : XX X d 139 (72, [some (.ref a), l1, l2, l3], st, M) Q = XX X d 139 (73, [some (.ref a), l1, l2, l3], .ref a :: st, M) Q := H_ld rfl rfl rfl rfl rfl
theorem x139_72n : XX X d 139 (72, [some (.null), l1, l2, l3], st, M) Q = XX X d 139 (73, [some (.null), l1, l2, l3], .null :: st, M) Q := H_ld rfl rfl rfl rfl rfl
theorem x139_73 : XX X d 139 (73, L, .ref a :: st, M) Q = yg (M.2.2 a) 8 2 X d 139 76 L st M Q := G_getf rfl (by decide) rfl rfl rfl
theorem x139_76 : XX X d 139 (76, L, .ref a :: st, M) Q = yg (M.2.2 a) 1 2 X d 139 79 L st M Q := G_getf rfl (by decide) rfl rfl rfl
theorem x139_79 : XX X d 139 (79, [l0, l1, some (.int x), l3], st, M) Q = XX X d 139 (80, [l0, l1, some (.int x), l3], .int x :: st, M) Q := H_ld rfl rfl rfl rfl rfl
theorem x139_80 : XX X d 139 (80, [some (.ref a), l1, l2, l3], st, M) Q = XX X d 139 (81, [some (.ref a), l1, l2, l3], .ref a :: st, M) Q := H_ld rfl rfl rfl rfl rfl
theorem x139_80n : XX X d 139 (80, [some (.null), l1, l2, l3], st, M) Q = XX X d 139 (81, [some (.null), l1, l2, l3], .null :: st, M) Q := H_ld rfl rfl rfl rfl rfl
theorem x139_81 : XX X d 139 (81, L, .ref a :: st, M) Q = yg (M.2.2 a) 8 2 X d 139 84 L st M Q := G_getf rfl (by decide) rfl rfl rfl
theorem x139_84 : XX X d 139 (84, L, .ref a :: st, M) Q = yg (M.2.2 a) 1 2 X d 139 87 L st M Q := G_getf rfl (by decide) rfl rfl rfl
theorem x139_87 (hd : 0 < d) (hs : stB st = true) : XX X d 139 (87, L, .ref a :: st, M) Q = (mcl M a = some 6 ∧ CC X (d - 1) 58 [.ref a] M (XC X d 139 87 90 L st Q)) := H_virt [] rfl (by decide) rfl rfl rfl rfl rfl hd hs
theorem x139_90 {v1 v2 v3 : Value} (hd : 0 < d) (hs : stB st = true) : XX X d 139 (90, L, v3 :: v2 :: v1 :: .ref a :: st, M) Q = (mcl M a = some 6 ∧ CC X (d - 1) 68 [.ref a, v1, v2, v3] M (XC X d 139 90 93 L st Q)) := H_virt [v1, v2, v3] rfl (by decide) rfl rfl rfl rfl rfl hd hs
theorem x139_93 : XX X d 139 (93, L, [], M) Q = Q (.inl none) M := G_retv rfl (by decide) rfl
theorem e139 : CC X d 139 [.ref a, .int x] M Q = XX X d 139 (0, [some (.ref a), some (.int x), none, none], [], M) Q := H_ent rfl rfl
-- 140 X8_writeSpan (II)V
theorem x140_0 : XX X d 140 (0, [some (.ref a), l1, l2], st, M) Q = XX X d 140 (1, [some (.ref a), l1, l2], .ref a :: st, M) Q := H_ld rfl rfl rfl rfl rfl
theorem x140_0n : XX X d 140 (0, [some (.null), l1, l2], st, M) Q = XX X d 140 (1, [some (.null), l1, l2], .null :: st, M) Q := H_ld rfl rfl rfl rfl rfl
theorem x140_1 : XX X d 140 (1, [l0, some (.int x), l2], st, M) Q = XX X d 140 (2, [l0, some (.int x), l2], .int x :: st, M) Q := H_ld rfl rfl rfl rfl rfl
theorem x140_2 {v1 : Value} (hd : 0 < d) (hs : stB st = true) : XX X d 140 (2, L, v1 :: .ref a :: st, M) Q = (mcl M a = some 8 ∧ CC X (d - 1) 141 [.ref a, v1] M (XC X d 140 2 5 L st Q)) := H_virt [v1] rfl (by decide) rfl rfl rfl rfl rfl hd hs
theorem x140_5 : XX X d 140 (5, [some (.ref a), l1, l2], st, M) Q = XX X d 140 (6, [some (.ref a), l1, l2], .ref a :: st, M) Q := H_ld rfl rfl rfl rfl rfl
theorem x140_5n : XX X d 140 (5, [some (.null), l1, l2], st, M) Q = XX X d 140 (6, [some (.null), l1, l2], .null :: st, M) Q := H_ld rfl rfl rfl rfl rfl
theorem x140_6 : XX X d 140 (6, L, .ref a :: st, M) Q = yg (M.2.2 a) 8 15 X d 140 9 L st M Q := G_getf rfl (by decide) rfl rfl rfl
theorem x140_9 : XX X d 140 (9, L, st, M) Q = XX X d 140 (11, L, .int (ii 45) :: st, M) Q := G_cst rfl rfl rfl rfl rfl
theorem x140_11 {v1 : Value} (hd : 0 < d) (hs : stB st = true) : XX X d 140 (11, L, v1 :: .ref a :: st, M) Q = (mcl M a = some 6 ∧ CC X (d - 1) 63 [.ref a, v1] M (XC X d 140 11 14 L st Q)) := H_virt [v1] rfl (by decide) rfl rfl rfl rfl rfl hd hs
theorem x140_14 : XX X d 140 (14, [some (.ref a), l1, l2], st, M) Q = XX X d 140 (15, [some (.ref a), l1, l2], .ref a :: st, M) Q := H_ld rfl rfl rfl rfl rfl
theorem x140_14n : XX X d 140 (14, [some (.null), l1, l2], st, M) Q = XX X d 140 (15, [some (.null), l1, l2], .null :: st, M) Q := H_ld rfl rfl rfl rfl rfl
theorem x140_15 : XX X d 140 (15, [l0, l1, some (.int x)], st, M) Q = XX X d 140 (16, [l0, l1, some (.int x)], .int x :: st, M) Q := H_ld rfl rfl rfl rfl rfl
theorem x140_16 {v1 : Value} (hd : 0 < d) (hs : stB st = true) : XX X d 140 (16, L, v1 :: .ref a :: st, M) Q = (mcl M a = some 8 ∧ CC X (d - 1) 141 [.ref a, v1] M (XC X d 140 16 19 L st Q)) := H_virt [v1] rfl (by decide) rfl rfl rfl rfl rfl hd hs
theorem x140_19 : XX X d 140 (19, L, [], M) Q = Q (.inl none) M := G_retv rfl (by decide) rfl
theorem e140 : CC X d 140 [.ref a, .int x, .int x2] M Q = XX X d 140 (0, [some (.ref a), some (.int x), some (.int x2)], [], M) Q := H_ent rfl rfl
-- 141 X8_writeNumber (I)V
theorem x141_0 : XX X d 141 (0, [l0, some (.int x)], st, M) Q = XX X d 141 (1, [l0, some (.int x)], .int x :: st, M) Q := H_ld rfl rfl rfl rfl rfl
theorem x141_1 : XX X d 141 (1, L, st, M) Q = XX X d 141 (3, L, .int (ii 10) :: st, M) Q := G_cst rfl rfl rfl rfl rfl
theorem x141_3 (h : -2147483648 ≤ p ∧ p ≤ 2147483647 ∧ -2147483648 ≤ q ∧ q ≤ 2147483647) : XX X d 141 (3, L, .int (ii q) :: .int (ii p) :: st, M) Q = bq (p < q) X d 141 20 6 L st M Q := H_if2 rfl ⟨rfl, rfl, rfl, by decide⟩ rfl rfl rfl rfl (D_lt h)
theorem x141_6 : XX X d 141 (6, [some (.ref a), l1], st, M) Q = XX X d 141 (7, [some (.ref a), l1], .ref a :: st, M) Q := H_ld rfl rfl rfl rfl rfl
theorem x141_6n : XX X d 141 (6, [some (.null), l1], st, M) Q = XX X d 141 (7, [some (.null), l1], .null :: st, M) Q := H_ld rfl rfl rfl rfl rfl
theorem x141_7 : XX X d 141 (7, L, .ref a :: st, M) Q = yg (M.2.2 a) 8 15 X d 141 10 L st M Q := G_getf rfl (by decide) rfl rfl rfl
theorem x141_10 : XX X d 141 (10, L, st, M) Q = XX X d 141 (12, L, .int (ii 48) :: st, M) Q := G_cst rfl rfl rfl rfl rfl
theorem x141_12 : XX X d 141 (12, [l0, some (.int x)], st, M) Q = XX X d 141 (13, [l0, some (.int x)], .int x :: st, M) Q := H_ld rfl rfl rfl rfl rfl
theorem x141_13 : XX X d 141 (13, L, st, M) Q = XX X d 141 (15, L, .int (ii 10) :: st, M) Q := G_cst rfl rfl rfl rfl rfl
theorem x141_15 (h : 0 ≤ p ∧ p ≤ 2147483647 ∧ 0 < q ∧ q ≤ 2147483647) : XX X d 141 (15, L, .int (ii q) :: .int (ii p) :: st, M) Q = XX X d 141 (16, L, .int (ii (p / q)) :: st, M) Q := H_div rfl (by decide) rfl h
theorem x141_16 : XX X d 141 (16, L, .int (ii q) :: .int (ii p) :: st, M) Q = XX X d 141 (17, L, .int (ii (p + q)) :: st, M) Q := H_add rfl (by decide) rfl
theorem x141_17 {v1 : Value} (hd : 0 < d) (hs : stB st = true) : XX X d 141 (17, L, v1 :: .ref a :: st, M) Q = (mcl M a = some 6 ∧ CC X (d - 1) 63 [.ref a, v1] M (XC X d 141 17 20 L st Q)) := H_virt [v1] rfl (by decide) rfl rfl rfl rfl rfl hd hs
theorem x141_20 : XX X d 141 (20, [some (.ref a), l1], st, M) Q = XX X d 141 (21, [some (.ref a), l1], .ref a :: st, M) Q := H_ld rfl rfl rfl rfl rfl
theorem x141_20n : XX X d 141 (20, [some (.null), l1], st, M) Q = XX X d 141 (21, [some (.null), l1], .null :: st, M) Q := H_ld rfl rfl rfl rfl rfl
theorem x141_21 : XX X d 141 (21, L, .ref a :: st, M) Q = yg (M.2.2 a) 8 15 X d 141 24 L st M Q := G_getf rfl (by decide) rfl rfl rfl
theorem x141_24 : XX X d 141 (24, L, st, M) Q = XX X d 141 (26, L, .int (ii 48) :: st, M) Q := G_cst rfl rfl rfl rfl rfl
theorem x141_26 : XX X d 141 (26, [l0, some (.int x)], st, M) Q = XX X d 141 (27, [l0, some (.int x)], .int x :: st, M) Q := H_ld rfl rfl rfl rfl rfl
theorem x141_27 : XX X d 141 (27, L, st, M) Q = XX X d 141 (29, L, .int (ii 10) :: st, M) Q := G_cst rfl rfl rfl rfl rfl
theorem x141_29 (h : 0 ≤ p ∧ p ≤ 2147483647 ∧ 0 < q ∧ q ≤ 2147483647) : XX X d 141 (29, L, .int (ii q) :: .int (ii p) :: st, M) Q = XX X d 141 (30, L, .int (ii (p % q)) :: st, M) Q := H_rem rfl (by decide) rfl h
theorem x141_30 : XX X d 141 (30, L, .int (ii q) :: .int (ii p) :: st, M) Q = XX X d 141 (31, L, .int (ii (p + q)) :: st, M) Q := H_add rfl (by decide) rfl
theorem x141_31 {v1 : Value} (hd : 0 < d) (hs : stB st = true) : XX X d 141 (31, L, v1 :: .ref a :: st, M) Q = (mcl M a = some 6 ∧ CC X (d - 1) 63 [.ref a, v1] M (XC X d 141 31 34 L st Q)) := H_virt [v1] rfl (by decide) rfl rfl rfl rfl rfl hd hs
theorem x141_34 : XX X d 141 (34, L, [], M) Q = Q (.inl none) M := G_retv rfl (by decide) rfl
theorem e141 : CC X d 141 [.ref a, .int x] M Q = XX X d 141 (0, [some (.ref a), some (.int x)], [], M) Q := H_ent rfl rfl
end PX25pxtracer
