/-! the law: each row at its place, printed by wip/whole/genx.py -/
section PX28pxlawm
variable {X : JX} {d a a1 a2 a3 a4 : Nat} {L : List (Option Value)} {st : List Value} {M : JM} {Q : JR → JM → Prop} {p q : Int} {b : Bool} {x x2 x3 x4 x5 x6 : Int32} {y y2 : Int64} {z z2 : UInt32} {w w2 : UInt64} {v v2 : Value} {l0 l1 l2 l3 l4 l5 l6 l7 l8 l9 l10 l11 l12 l13 l14 : Option Value}
-- 0 L_law ([I)Z
theorem x0_0 : XX X d 0 (0, L, st, M) Q = XX X d 0 (3, L, .ref M.1 :: st, mnew M 16 (.inr (8, [.null, .null, .null, .null, .int (ii 0), .null, .int (ii 0), .int (ii 0), .int (ii 0), .null, .null, .null, .null, .null, .null, .null]))) Q := H_new rfl (by decide) rfl rfl (by decide) rfl rfl
theorem x0_3 (h : v.category = 1) : XX X d 0 (3, L, v :: st, M) Q = XX X d 0 (4, L, v :: v :: st, M) Q := G_sop rfl ⟨rfl, rfl, rfl, by decide⟩ (if_pos h) rfl
theorem x0_4 (hd : 0 < d) (hs : stB st = true) : XX X d 0 (4, L, .ref a :: st, M) Q = CC X (d - 1) 78 [.ref a] M (XC X d 0 4 7 L st Q) := H_spec [] rfl (by decide) rfl rfl (by decide) rfl rfl hd hs
theorem x0_7 (h : wide (some l0) = false) : XX X d 0 (7, [l0, l1, l2, l3, l4, l5, l6, l7, l8], .ref a :: st, M) Q = XX X d 0 (8, [l0, some (.ref a), l2, l3, l4, l5, l6, l7, l8], st, M) Q := H_st rfl rfl rfl rfl rfl rfl rfl rfl (Or.inr h)
theorem x0_8 : XX X d 0 (8, L, st, M) Q = XX X d 0 (11, L, .ref M.1 :: st, mnew M 41 (.inr (9, [.null, .null, .null, .int (ii 0), .int (ii 0), .int (ii 0), .null, .int (ii 0), .null, .int (ii 0), .int (ii 0), .int (ii 0), .int (ii 0), .null, .int (ii 0), .null, .int (ii 0), .int (ii 0), .int (ii 0), .null, .null, .null, .null, .null, .int (ii 0), .int (ii 0), .null, .null, .null, .int (ii 0), .null, .null, .null, .null, .int (ii 0), .int (ii 0), .null, .null, .int (ii 0), .null, .null]))) Q := H_new rfl (by decide) rfl rfl (by decide) rfl rfl
theorem x0_11 (h : v.category = 1) : XX X d 0 (11, L, v :: st, M) Q = XX X d 0 (12, L, v :: v :: st, M) Q := G_sop rfl ⟨rfl, rfl, rfl, by decide⟩ (if_pos h) rfl
theorem x0_12 (hd : 0 < d) (hs : stB st = true) : XX X d 0 (12, L, .ref a :: st, M) Q = CC X (d - 1) 142 [.ref a] M (XC X d 0 12 15 L st Q) := H_spec [] rfl (by decide) rfl rfl (by decide) rfl rfl hd hs
theorem x0_15 (h : wide (some l1) = false) : XX X d 0 (15, [l0, l1, l2, l3, l4, l5, l6, l7, l8], .ref a :: st, M) Q = XX X d 0 (16, [l0, l1, some (.ref a), l3, l4, l5, l6, l7, l8], st, M) Q := H_st rfl rfl rfl rfl rfl rfl rfl rfl (Or.inr h)
theorem x0_16 : XX X d 0 (16, L, st, M) Q = XX X d 0 (17, L, .int (ii 1) :: st, M) Q := G_cst rfl rfl rfl rfl rfl
theorem x0_17 (h : 0 ≤ p ∧ p ≤ 10000) : XX X d 0 (17, L, .int (ii p) :: st, M) Q = XX X d 0 (19, L, .ref M.1 :: st, mnew M p.toNat (AL p.toNat (fun _ => 0))) Q := H_newa rfl (by decide) rfl rfl rfl h
theorem x0_19 (h : wide (some l2) = false) : XX X d 0 (19, [l0, l1, l2, l3, l4, l5, l6, l7, l8], .ref a :: st, M) Q = XX X d 0 (20, [l0, l1, l2, some (.ref a), l4, l5, l6, l7, l8], st, M) Q := H_st rfl rfl rfl rfl rfl rfl rfl rfl (Or.inr h)
theorem x0_20 : XX X d 0 (20, L, st, M) Q = XX X d 0 (21, L, .int (ii 1) :: st, M) Q := G_cst rfl rfl rfl rfl rfl
theorem x0_21 (h : 0 ≤ p ∧ p ≤ 10000) : XX X d 0 (21, L, .int (ii p) :: st, M) Q = XX X d 0 (23, L, .ref M.1 :: st, mnew M p.toNat (.inl (2, p.toNat, fun _ => .double 0))) Q := H_newa rfl (by decide) rfl rfl rfl h
theorem x0_23 (h : wide (some l3) = false) : XX X d 0 (23, [l0, l1, l2, l3, l4, l5, l6, l7, l8], .ref a :: st, M) Q = XX X d 0 (25, [l0, l1, l2, l3, some (.ref a), l5, l6, l7, l8], st, M) Q := H_st rfl rfl rfl rfl rfl rfl rfl rfl (Or.inr h)
theorem x0_25 : XX X d 0 (25, L, st, M) Q = XX X d 0 (26, L, .int (ii 0) :: st, M) Q := G_cst rfl rfl rfl rfl rfl
theorem x0_26 (h : wide (some l4) = false) : XX X d 0 (26, [l0, l1, l2, l3, l4, l5, l6, l7, l8], .int x :: st, M) Q = XX X d 0 (28, [l0, l1, l2, l3, l4, some (.int x), l6, l7, l8], st, M) Q := H_st rfl rfl rfl rfl rfl rfl rfl rfl (Or.inr h)
theorem x0_28 : XX X d 0 (28, [l0, l1, l2, l3, l4, some (.int x), l6, l7, l8], st, M) Q = XX X d 0 (30, [l0, l1, l2, l3, l4, some (.int x), l6, l7, l8], .int x :: st, M) Q := H_ld rfl rfl rfl rfl rfl
theorem x0_30 : XX X d 0 (30, [some (.ref a), l1, l2, l3, l4, l5, l6, l7, l8], st, M) Q = XX X d 0 (31, [some (.ref a), l1, l2, l3, l4, l5, l6, l7, l8], .ref a :: st, M) Q := H_ld rfl rfl rfl rfl rfl
theorem x0_31 (h : a = X.1) : XX X d 0 (31, L, .ref a :: st, M) Q = XX X d 0 (32, L, .int (Int32.ofNat X.2.1) :: st, M) Q := G_scr rfl rfl rfl rfl rfl (if_pos h)
theorem x0_32 : XX X d 0 (32, L, st, M) Q = XX X d 0 (33, L, .int (ii 4) :: st, M) Q := G_cst rfl rfl rfl rfl rfl
theorem x0_33 : XX X d 0 (33, L, .int (ii q) :: .int (ii p) :: st, M) Q = XX X d 0 (34, L, .int (ii (p - q)) :: st, M) Q := H_sub rfl (by decide) rfl
theorem x0_34 (h : -2147483648 ≤ p ∧ p ≤ 2147483647 ∧ -2147483648 ≤ q ∧ q ≤ 2147483647) : XX X d 0 (34, L, .int (ii q) :: .int (ii p) :: st, M) Q = bq (q < p) X d 0 2638 37 L st M Q := H_if2 rfl ⟨rfl, rfl, rfl, by decide⟩ rfl rfl rfl rfl (D_gt h)
theorem x0_37 : XX X d 0 (37, [some (.ref a), l1, l2, l3, l4, l5, l6, l7, l8], st, M) Q = XX X d 0 (38, [some (.ref a), l1, l2, l3, l4, l5, l6, l7, l8], .ref a :: st, M) Q := H_ld rfl rfl rfl rfl rfl
theorem x0_38 : XX X d 0 (38, [l0, l1, l2, l3, l4, some (.int x), l6, l7, l8], st, M) Q = XX X d 0 (40, [l0, l1, l2, l3, l4, some (.int x), l6, l7, l8], .int x :: st, M) Q := H_ld rfl rfl rfl rfl rfl
theorem x0_40 (h : a = X.1 ∧ ¬ (x < 0 ∨ X.2.1 ≤ x.toNatClampNeg)) : XX X d 0 (40, L, .int x :: .ref a :: st, M) Q = XX X d 0 (41, L, .int (X.2.2 x.toNatClampNeg) :: st, M) Q := G_scr rfl rfl rfl rfl rfl (if_pos h)
theorem x0_41 : XX X d 0 (41, L, st, M) Q = XX X d 0 (43, L, .int (ii 63) :: st, M) Q := G_cst rfl rfl rfl rfl rfl
theorem x0_43 : XX X d 0 (43, L, .int x2 :: .int x :: st, M) Q = XX X d 0 (44, L, .int (x &&& x2) :: st, M) Q := G_sop rfl ⟨rfl, rfl, rfl, by decide⟩ rfl rfl
theorem x0_44 (h : -2147483648 ≤ p ∧ p ≤ 2147483647) : XX X d 0 (44, L, .int (ii p) :: st, M) Q = xt (if p < 0 ∨ 43 < p then some 2632 else ([236, 294, 338, 394, 407, 463, 531, 587, 643, 699, 743, 787, 831, 889, 902, 958, 1026, 1096, 1109, 1165, 1228, 1291, 1359, 1427, 1495, 1563, 1650, 1730, 1810, 1866, 1934, 2002, 2058, 2114, 2170, 2247, 2325, 2338, 2406, 2462, 2518, 2562, 2575, 2588] : List Nat)[(p - 0).toNat]?) (fun t => XX X d 0 (t, L, st, M) Q) := H_tsw rfl (by decide) rfl h
theorem x0_236 : XX X d 0 (236, [l0, some (.ref a), l2, l3, l4, l5, l6, l7, l8], st, M) Q = XX X d 0 (237, [l0, some (.ref a), l2, l3, l4, l5, l6, l7, l8], .ref a :: st, M) Q := H_ld rfl rfl rfl rfl rfl
theorem x0_237 : XX X d 0 (237, [some (.ref a), l1, l2, l3, l4, l5, l6, l7, l8], st, M) Q = XX X d 0 (238, [some (.ref a), l1, l2, l3, l4, l5, l6, l7, l8], .ref a :: st, M) Q := H_ld rfl rfl rfl rfl rfl
theorem x0_238 : XX X d 0 (238, [l0, l1, l2, l3, l4, some (.int x), l6, l7, l8], st, M) Q = XX X d 0 (240, [l0, l1, l2, l3, l4, some (.int x), l6, l7, l8], .int x :: st, M) Q := H_ld rfl rfl rfl rfl rfl
theorem x0_240 : XX X d 0 (240, L, st, M) Q = XX X d 0 (241, L, .int (ii 1) :: st, M) Q := G_cst rfl rfl rfl rfl rfl
theorem x0_241 : XX X d 0 (241, L, .int (ii q) :: .int (ii p) :: st, M) Q = XX X d 0 (242, L, .int (ii (p + q)) :: st, M) Q := H_add rfl (by decide) rfl
theorem x0_242 (h : a = X.1 ∧ ¬ (x < 0 ∨ X.2.1 ≤ x.toNatClampNeg)) : XX X d 0 (242, L, .int x :: .ref a :: st, M) Q = XX X d 0 (243, L, .int (X.2.2 x.toNatClampNeg) :: st, M) Q := G_scr rfl rfl rfl rfl rfl (if_pos h)
theorem x0_243 : XX X d 0 (243, L, .int x :: st, M) Q = XX X d 0 (244, L, .int (x.toUInt32 % 65536).toInt32 :: st, M) Q := G_sop rfl ⟨rfl, rfl, rfl, by decide⟩ rfl rfl
theorem x0_244 : XX X d 0 (244, [l0, l1, l2, some (.ref a), l4, l5, l6, l7, l8], st, M) Q = XX X d 0 (245, [l0, l1, l2, some (.ref a), l4, l5, l6, l7, l8], .ref a :: st, M) Q := H_ld rfl rfl rfl rfl rfl
theorem x0_245 {v1 v2 v3 : Value} (hd : 0 < d) (hs : stB st = true) : XX X d 0 (245, L, v3 :: v2 :: v1 :: st, M) Q = CC X (d - 1) 233 [v1, v2, v3] M (XC X d 0 245 248 L st Q) := H_static [v1, v2, v3] rfl (by decide) rfl rfl (by decide) rfl rfl hd hs
theorem x0_248 (h : wide (some l5) = false) : XX X d 0 (248, [l0, l1, l2, l3, l4, l5, l6, l7, l8], .int x :: st, M) Q = XX X d 0 (250, [l0, l1, l2, l3, l4, l5, some (.int x), l7, l8], st, M) Q := H_st rfl rfl rfl rfl rfl rfl rfl rfl (Or.inr h)
theorem x0_250 : XX X d 0 (250, [l0, l1, some (.ref a), l3, l4, l5, l6, l7, l8], st, M) Q = XX X d 0 (251, [l0, l1, some (.ref a), l3, l4, l5, l6, l7, l8], .ref a :: st, M) Q := H_ld rfl rfl rfl rfl rfl
theorem x0_251 : XX X d 0 (251, [some (.ref a), l1, l2, l3, l4, l5, l6, l7, l8], st, M) Q = XX X d 0 (252, [some (.ref a), l1, l2, l3, l4, l5, l6, l7, l8], .ref a :: st, M) Q := H_ld rfl rfl rfl rfl rfl
theorem x0_252 : XX X d 0 (252, [l0, l1, l2, l3, l4, some (.int x), l6, l7, l8], st, M) Q = XX X d 0 (254, [l0, l1, l2, l3, l4, some (.int x), l6, l7, l8], .int x :: st, M) Q := H_ld rfl rfl rfl rfl rfl
theorem x0_254 : XX X d 0 (254, L, st, M) Q = XX X d 0 (255, L, .int (ii 1) :: st, M) Q := G_cst rfl rfl rfl rfl rfl
theorem x0_255 : XX X d 0 (255, L, .int (ii q) :: .int (ii p) :: st, M) Q = XX X d 0 (256, L, .int (ii (p + q)) :: st, M) Q := H_add rfl (by decide) rfl
theorem x0_256 (h : a = X.1 ∧ ¬ (x < 0 ∨ X.2.1 ≤ x.toNatClampNeg)) : XX X d 0 (256, L, .int x :: .ref a :: st, M) Q = XX X d 0 (257, L, .int (X.2.2 x.toNatClampNeg) :: st, M) Q := G_scr rfl rfl rfl rfl rfl (if_pos h)
theorem x0_257 : XX X d 0 (257, L, .int x :: st, M) Q = XX X d 0 (258, L, .int (x.toUInt32 % 65536).toInt32 :: st, M) Q := G_sop rfl ⟨rfl, rfl, rfl, by decide⟩ rfl rfl
theorem x0_258 {v1 : Value} (hd : 0 < d) (hs : stB st = true) : XX X d 0 (258, L, v1 :: .ref a :: st, M) Q = (mcl M a = some 9 ∧ CC X (d - 1) 174 [.ref a, v1] M (XC X d 0 258 261 L st Q)) := H_virt [v1] rfl (by decide) rfl rfl rfl rfl rfl hd hs
theorem x0_261 (h : wide (some l6) = false) : XX X d 0 (261, [l0, l1, l2, l3, l4, l5, l6, l7, l8], .int x :: st, M) Q = XX X d 0 (263, [l0, l1, l2, l3, l4, l5, l6, some (.int x), l8], st, M) Q := H_st rfl rfl rfl rfl rfl rfl rfl rfl (Or.inr h)
theorem x0_263 : XX X d 0 (263, [l0, l1, some (.ref a), l3, l4, l5, l6, l7, l8], st, M) Q = XX X d 0 (264, [l0, l1, some (.ref a), l3, l4, l5, l6, l7, l8], .ref a :: st, M) Q := H_ld rfl rfl rfl rfl rfl
theorem x0_264 (hd : 0 < d) (hs : stB st = true) : XX X d 0 (264, L, .ref a :: st, M) Q = (mcl M a = some 9 ∧ CC X (d - 1) 143 [.ref a] M (XC X d 0 264 267 L st Q)) := H_virt [] rfl (by decide) rfl rfl rfl rfl rfl hd hs
theorem x0_267 : XX X d 0 (267, [l0, l1, l2, l3, l4, l5, some (.int x), l7, l8], st, M) Q = XX X d 0 (269, [l0, l1, l2, l3, l4, l5, some (.int x), l7, l8], .int x :: st, M) Q := H_ld rfl rfl rfl rfl rfl
theorem x0_269 (h : -2147483648 ≤ p ∧ p ≤ 2147483647 ∧ -2147483648 ≤ q ∧ q ≤ 2147483647) : XX X d 0 (269, L, .int (ii q) :: .int (ii p) :: st, M) Q = bq (p = q) X d 0 274 272 L st M Q := H_if2 rfl ⟨rfl, rfl, rfl, by decide⟩ rfl rfl rfl rfl (D_eq h)
theorem x0_272 : XX X d 0 (272, L, st, M) Q = XX X d 0 (273, L, .int (ii 0) :: st, M) Q := G_cst rfl rfl rfl rfl rfl
theorem x0_273 (h : bz p) : XX X d 0 (273, L, [.int (ii p)], M) Q = Q (.inl (some (.int (ii p)))) M := G_ret rfl ⟨⟨⟨rfl, rfl, rfl, by decide⟩, rfl, rfl⟩, rfl, rfl⟩ (bz_ok h)
theorem x0_274 : XX X d 0 (274, [l0, l1, l2, l3, l4, l5, some (.int x), l7, l8], st, M) Q = XX X d 0 (276, [l0, l1, l2, l3, l4, l5, some (.int x), l7, l8], .int x :: st, M) Q := H_ld rfl rfl rfl rfl rfl
theorem x0_276 (h : -2147483648 ≤ p ∧ p ≤ 2147483647) : XX X d 0 (276, L, .int (ii p) :: st, M) Q = bq (p ≠ 0) X d 0 291 279 L st M Q := H_if rfl ⟨rfl, rfl, rfl, by decide⟩ rfl rfl rfl rfl (D_ne (b := 0) (by omega))
theorem x0_276b : XX X d 0 (276, L, .int (ii (b2i b)) :: st, M) Q = bq (b = true) X d 0 291 279 L st M Q := (x0_276 (b2i_r b)).trans (by rw [b2i_n0])
theorem x0_279 : XX X d 0 (279, [l0, l1, l2, some (.ref a), l4, l5, l6, l7, l8], st, M) Q = XX X d 0 (280, [l0, l1, l2, some (.ref a), l4, l5, l6, l7, l8], .ref a :: st, M) Q := H_ld rfl rfl rfl rfl rfl
theorem x0_280 : XX X d 0 (280, L, st, M) Q = XX X d 0 (281, L, .int (ii 0) :: st, M) Q := G_cst rfl rfl rfl rfl rfl
theorem x0_281 : XX X d 0 (281, L, .int x :: .ref a :: st, M) Q = xa (M.2.2 a) (aldT .laload) x (fun v => XX X d 0 (282, L, v :: st, M) Q) := G_ald rfl ⟨⟨rfl, rfl, rfl, by decide⟩, rfl, rfl⟩ rfl rfl
theorem x0_282 : XX X d 0 (282, [l0, l1, l2, l3, l4, l5, l6, some (.int x), l8], st, M) Q = XX X d 0 (284, [l0, l1, l2, l3, l4, l5, l6, some (.int x), l8], .int x :: st, M) Q := H_ld rfl rfl rfl rfl rfl
theorem x0_284 : XX X d 0 (284, L, .int x :: st, M) Q = XX X d 0 (285, L, .long x.toInt64 :: st, M) Q := G_sop rfl ⟨rfl, rfl, rfl, by decide⟩ rfl rfl
theorem x0_285 : XX X d 0 (285, L, .long y2 :: .long y :: st, M) Q = XX X d 0 (286, L, .int (lg_cmp y y2) :: st, M) Q := G_sop rfl ⟨rfl, rfl, rfl, by decide⟩ rfl rfl
theorem x0_286 (h : -2147483648 ≤ p ∧ p ≤ 2147483647) : XX X d 0 (286, L, .int (ii p) :: st, M) Q = bq (p = 0) X d 0 291 289 L st M Q := H_if rfl ⟨rfl, rfl, rfl, by decide⟩ rfl rfl rfl rfl (D_eq (b := 0) (by omega))
theorem x0_286b : XX X d 0 (286, L, .int (ii (b2i b)) :: st, M) Q = bq (b = false) X d 0 291 289 L st M Q := (x0_286 (b2i_r b)).trans (by rw [b2i_0])
theorem x0_289 : XX X d 0 (289, L, st, M) Q = XX X d 0 (290, L, .int (ii 0) :: st, M) Q := G_cst rfl rfl rfl rfl rfl
theorem x0_290 (h : bz p) : XX X d 0 (290, L, [.int (ii p)], M) Q = Q (.inl (some (.int (ii p)))) M := G_ret rfl ⟨⟨⟨rfl, rfl, rfl, by decide⟩, rfl, rfl⟩, rfl, rfl⟩ (bz_ok h)
theorem x0_291 : XX X d 0 (291, L, st, M) Q = XX X d 0 (2632, L, st, M) Q := H_jmp rfl (by decide) rfl
theorem x0_294 : XX X d 0 (294, [l0, some (.ref a), l2, l3, l4, l5, l6, l7, l8], st, M) Q = XX X d 0 (295, [l0, some (.ref a), l2, l3, l4, l5, l6, l7, l8], .ref a :: st, M) Q := H_ld rfl rfl rfl rfl rfl
theorem x0_295 : XX X d 0 (295, [l0, l1, l2, some (.ref a), l4, l5, l6, l7, l8], st, M) Q = XX X d 0 (296, [l0, l1, l2, some (.ref a), l4, l5, l6, l7, l8], .ref a :: st, M) Q := H_ld rfl rfl rfl rfl rfl
theorem x0_296 {v1 v2 : Value} (hd : 0 < d) (hs : stB st = true) : XX X d 0 (296, L, v2 :: v1 :: st, M) Q = CC X (d - 1) 234 [v1, v2] M (XC X d 0 296 299 L st Q) := H_static [v1, v2] rfl (by decide) rfl rfl (by decide) rfl rfl hd hs
theorem x0_299 (h : wide (some l5) = false) : XX X d 0 (299, [l0, l1, l2, l3, l4, l5, l6, l7, l8], .int x :: st, M) Q = XX X d 0 (301, [l0, l1, l2, l3, l4, l5, some (.int x), l7, l8], st, M) Q := H_st rfl rfl rfl rfl rfl rfl rfl rfl (Or.inr h)
theorem x0_301 : XX X d 0 (301, [l0, l1, some (.ref a), l3, l4, l5, l6, l7, l8], st, M) Q = XX X d 0 (302, [l0, l1, some (.ref a), l3, l4, l5, l6, l7, l8], .ref a :: st, M) Q := H_ld rfl rfl rfl rfl rfl
theorem x0_302 (hd : 0 < d) (hs : stB st = true) : XX X d 0 (302, L, .ref a :: st, M) Q = (mcl M a = some 9 ∧ CC X (d - 1) 177 [.ref a] M (XC X d 0 302 305 L st Q)) := H_virt [] rfl (by decide) rfl rfl rfl rfl rfl hd hs
theorem x0_305 (h : wide (some l6) = false) : XX X d 0 (305, [l0, l1, l2, l3, l4, l5, l6, l7, l8], .int x :: st, M) Q = XX X d 0 (307, [l0, l1, l2, l3, l4, l5, l6, some (.int x), l8], st, M) Q := H_st rfl rfl rfl rfl rfl rfl rfl rfl (Or.inr h)
theorem x0_307 : XX X d 0 (307, [l0, l1, some (.ref a), l3, l4, l5, l6, l7, l8], st, M) Q = XX X d 0 (308, [l0, l1, some (.ref a), l3, l4, l5, l6, l7, l8], .ref a :: st, M) Q := H_ld rfl rfl rfl rfl rfl
theorem x0_308 (hd : 0 < d) (hs : stB st = true) : XX X d 0 (308, L, .ref a :: st, M) Q = (mcl M a = some 9 ∧ CC X (d - 1) 143 [.ref a] M (XC X d 0 308 311 L st Q)) := H_virt [] rfl (by decide) rfl rfl rfl rfl rfl hd hs
theorem x0_311 : XX X d 0 (311, [l0, l1, l2, l3, l4, l5, some (.int x), l7, l8], st, M) Q = XX X d 0 (313, [l0, l1, l2, l3, l4, l5, some (.int x), l7, l8], .int x :: st, M) Q := H_ld rfl rfl rfl rfl rfl
theorem x0_313 (h : -2147483648 ≤ p ∧ p ≤ 2147483647 ∧ -2147483648 ≤ q ∧ q ≤ 2147483647) : XX X d 0 (313, L, .int (ii q) :: .int (ii p) :: st, M) Q = bq (p = q) X d 0 318 316 L st M Q := H_if2 rfl ⟨rfl, rfl, rfl, by decide⟩ rfl rfl rfl rfl (D_eq h)
theorem x0_316 : XX X d 0 (316, L, st, M) Q = XX X d 0 (317, L, .int (ii 0) :: st, M) Q := G_cst rfl rfl rfl rfl rfl
theorem x0_317 (h : bz p) : XX X d 0 (317, L, [.int (ii p)], M) Q = Q (.inl (some (.int (ii p)))) M := G_ret rfl ⟨⟨⟨rfl, rfl, rfl, by decide⟩, rfl, rfl⟩, rfl, rfl⟩ (bz_ok h)
theorem x0_318 : XX X d 0 (318, [l0, l1, l2, l3, l4, l5, some (.int x), l7, l8], st, M) Q = XX X d 0 (320, [l0, l1, l2, l3, l4, l5, some (.int x), l7, l8], .int x :: st, M) Q := H_ld rfl rfl rfl rfl rfl
theorem x0_320 (h : -2147483648 ≤ p ∧ p ≤ 2147483647) : XX X d 0 (320, L, .int (ii p) :: st, M) Q = bq (p ≠ 0) X d 0 335 323 L st M Q := H_if rfl ⟨rfl, rfl, rfl, by decide⟩ rfl rfl rfl rfl (D_ne (b := 0) (by omega))
theorem x0_320b : XX X d 0 (320, L, .int (ii (b2i b)) :: st, M) Q = bq (b = true) X d 0 335 323 L st M Q := (x0_320 (b2i_r b)).trans (by rw [b2i_n0])
theorem x0_323 : XX X d 0 (323, [l0, l1, l2, some (.ref a), l4, l5, l6, l7, l8], st, M) Q = XX X d 0 (324, [l0, l1, l2, some (.ref a), l4, l5, l6, l7, l8], .ref a :: st, M) Q := H_ld rfl rfl rfl rfl rfl
theorem x0_324 : XX X d 0 (324, L, st, M) Q = XX X d 0 (325, L, .int (ii 0) :: st, M) Q := G_cst rfl rfl rfl rfl rfl
theorem x0_325 : XX X d 0 (325, L, .int x :: .ref a :: st, M) Q = xa (M.2.2 a) (aldT .laload) x (fun v => XX X d 0 (326, L, v :: st, M) Q) := G_ald rfl ⟨⟨rfl, rfl, rfl, by decide⟩, rfl, rfl⟩ rfl rfl
theorem x0_326 : XX X d 0 (326, [l0, l1, l2, l3, l4, l5, l6, some (.int x), l8], st, M) Q = XX X d 0 (328, [l0, l1, l2, l3, l4, l5, l6, some (.int x), l8], .int x :: st, M) Q := H_ld rfl rfl rfl rfl rfl
theorem x0_328 : XX X d 0 (328, L, .int x :: st, M) Q = XX X d 0 (329, L, .long x.toInt64 :: st, M) Q := G_sop rfl ⟨rfl, rfl, rfl, by decide⟩ rfl rfl
theorem x0_329 : XX X d 0 (329, L, .long y2 :: .long y :: st, M) Q = XX X d 0 (330, L, .int (lg_cmp y y2) :: st, M) Q := G_sop rfl ⟨rfl, rfl, rfl, by decide⟩ rfl rfl
theorem x0_330 (h : -2147483648 ≤ p ∧ p ≤ 2147483647) : XX X d 0 (330, L, .int (ii p) :: st, M) Q = bq (p = 0) X d 0 335 333 L st M Q := H_if rfl ⟨rfl, rfl, rfl, by decide⟩ rfl rfl rfl rfl (D_eq (b := 0) (by omega))
theorem x0_330b : XX X d 0 (330, L, .int (ii (b2i b)) :: st, M) Q = bq (b = false) X d 0 335 333 L st M Q := (x0_330 (b2i_r b)).trans (by rw [b2i_0])
theorem x0_333 : XX X d 0 (333, L, st, M) Q = XX X d 0 (334, L, .int (ii 0) :: st, M) Q := G_cst rfl rfl rfl rfl rfl
theorem x0_334 (h : bz p) : XX X d 0 (334, L, [.int (ii p)], M) Q = Q (.inl (some (.int (ii p)))) M := G_ret rfl ⟨⟨⟨rfl, rfl, rfl, by decide⟩, rfl, rfl⟩, rfl, rfl⟩ (bz_ok h)
theorem x0_335 : XX X d 0 (335, L, st, M) Q = XX X d 0 (2632, L, st, M) Q := H_jmp rfl (by decide) rfl
theorem x0_338 : XX X d 0 (338, [l0, some (.ref a), l2, l3, l4, l5, l6, l7, l8], st, M) Q = XX X d 0 (339, [l0, some (.ref a), l2, l3, l4, l5, l6, l7, l8], .ref a :: st, M) Q := H_ld rfl rfl rfl rfl rfl
theorem x0_339 : XX X d 0 (339, [some (.ref a), l1, l2, l3, l4, l5, l6, l7, l8], st, M) Q = XX X d 0 (340, [some (.ref a), l1, l2, l3, l4, l5, l6, l7, l8], .ref a :: st, M) Q := H_ld rfl rfl rfl rfl rfl
theorem x0_340 : XX X d 0 (340, [l0, l1, l2, l3, l4, some (.int x), l6, l7, l8], st, M) Q = XX X d 0 (342, [l0, l1, l2, l3, l4, some (.int x), l6, l7, l8], .int x :: st, M) Q := H_ld rfl rfl rfl rfl rfl
theorem x0_342 : XX X d 0 (342, L, st, M) Q = XX X d 0 (343, L, .int (ii 1) :: st, M) Q := G_cst rfl rfl rfl rfl rfl
theorem x0_343 : XX X d 0 (343, L, .int (ii q) :: .int (ii p) :: st, M) Q = XX X d 0 (344, L, .int (ii (p + q)) :: st, M) Q := H_add rfl (by decide) rfl
theorem x0_344 (h : a = X.1 ∧ ¬ (x < 0 ∨ X.2.1 ≤ x.toNatClampNeg)) : XX X d 0 (344, L, .int x :: .ref a :: st, M) Q = XX X d 0 (345, L, .int (X.2.2 x.toNatClampNeg) :: st, M) Q := G_scr rfl rfl rfl rfl rfl (if_pos h)
theorem x0_345 : XX X d 0 (345, [l0, l1, l2, some (.ref a), l4, l5, l6, l7, l8], st, M) Q = XX X d 0 (346, [l0, l1, l2, some (.ref a), l4, l5, l6, l7, l8], .ref a :: st, M) Q := H_ld rfl rfl rfl rfl rfl
theorem x0_346 {v1 v2 v3 : Value} (hd : 0 < d) (hs : stB st = true) : XX X d 0 (346, L, v3 :: v2 :: v1 :: st, M) Q = CC X (d - 1) 235 [v1, v2, v3] M (XC X d 0 346 349 L st Q) := H_static [v1, v2, v3] rfl (by decide) rfl rfl (by decide) rfl rfl hd hs
theorem x0_349 (h : wide (some l5) = false) : XX X d 0 (349, [l0, l1, l2, l3, l4, l5, l6, l7, l8], .int x :: st, M) Q = XX X d 0 (351, [l0, l1, l2, l3, l4, l5, some (.int x), l7, l8], st, M) Q := H_st rfl rfl rfl rfl rfl rfl rfl rfl (Or.inr h)
theorem x0_351 : XX X d 0 (351, [l0, l1, some (.ref a), l3, l4, l5, l6, l7, l8], st, M) Q = XX X d 0 (352, [l0, l1, some (.ref a), l3, l4, l5, l6, l7, l8], .ref a :: st, M) Q := H_ld rfl rfl rfl rfl rfl
theorem x0_352 : XX X d 0 (352, [some (.ref a), l1, l2, l3, l4, l5, l6, l7, l8], st, M) Q = XX X d 0 (353, [some (.ref a), l1, l2, l3, l4, l5, l6, l7, l8], .ref a :: st, M) Q := H_ld rfl rfl rfl rfl rfl
theorem x0_353 : XX X d 0 (353, [l0, l1, l2, l3, l4, some (.int x), l6, l7, l8], st, M) Q = XX X d 0 (355, [l0, l1, l2, l3, l4, some (.int x), l6, l7, l8], .int x :: st, M) Q := H_ld rfl rfl rfl rfl rfl
theorem x0_355 : XX X d 0 (355, L, st, M) Q = XX X d 0 (356, L, .int (ii 1) :: st, M) Q := G_cst rfl rfl rfl rfl rfl
theorem x0_356 : XX X d 0 (356, L, .int (ii q) :: .int (ii p) :: st, M) Q = XX X d 0 (357, L, .int (ii (p + q)) :: st, M) Q := H_add rfl (by decide) rfl
theorem x0_357 (h : a = X.1 ∧ ¬ (x < 0 ∨ X.2.1 ≤ x.toNatClampNeg)) : XX X d 0 (357, L, .int x :: .ref a :: st, M) Q = XX X d 0 (358, L, .int (X.2.2 x.toNatClampNeg) :: st, M) Q := G_scr rfl rfl rfl rfl rfl (if_pos h)
theorem x0_358 {v1 : Value} (hd : 0 < d) (hs : stB st = true) : XX X d 0 (358, L, v1 :: .ref a :: st, M) Q = (mcl M a = some 9 ∧ CC X (d - 1) 178 [.ref a, v1] M (XC X d 0 358 361 L st Q)) := H_virt [v1] rfl (by decide) rfl rfl rfl rfl rfl hd hs
theorem x0_361 (h : wide (some l6) = false) : XX X d 0 (361, [l0, l1, l2, l3, l4, l5, l6, l7, l8], .int x :: st, M) Q = XX X d 0 (363, [l0, l1, l2, l3, l4, l5, l6, some (.int x), l8], st, M) Q := H_st rfl rfl rfl rfl rfl rfl rfl rfl (Or.inr h)
theorem x0_363 : XX X d 0 (363, [l0, l1, some (.ref a), l3, l4, l5, l6, l7, l8], st, M) Q = XX X d 0 (364, [l0, l1, some (.ref a), l3, l4, l5, l6, l7, l8], .ref a :: st, M) Q := H_ld rfl rfl rfl rfl rfl
theorem x0_364 (hd : 0 < d) (hs : stB st = true) : XX X d 0 (364, L, .ref a :: st, M) Q = (mcl M a = some 9 ∧ CC X (d - 1) 143 [.ref a] M (XC X d 0 364 367 L st Q)) := H_virt [] rfl (by decide) rfl rfl rfl rfl rfl hd hs
theorem x0_367 : XX X d 0 (367, [l0, l1, l2, l3, l4, l5, some (.int x), l7, l8], st, M) Q = XX X d 0 (369, [l0, l1, l2, l3, l4, l5, some (.int x), l7, l8], .int x :: st, M) Q := H_ld rfl rfl rfl rfl rfl
theorem x0_369 (h : -2147483648 ≤ p ∧ p ≤ 2147483647 ∧ -2147483648 ≤ q ∧ q ≤ 2147483647) : XX X d 0 (369, L, .int (ii q) :: .int (ii p) :: st, M) Q = bq (p = q) X d 0 374 372 L st M Q := H_if2 rfl ⟨rfl, rfl, rfl, by decide⟩ rfl rfl rfl rfl (D_eq h)
theorem x0_372 : XX X d 0 (372, L, st, M) Q = XX X d 0 (373, L, .int (ii 0) :: st, M) Q := G_cst rfl rfl rfl rfl rfl
theorem x0_373 (h : bz p) : XX X d 0 (373, L, [.int (ii p)], M) Q = Q (.inl (some (.int (ii p)))) M := G_ret rfl ⟨⟨⟨rfl, rfl, rfl, by decide⟩, rfl, rfl⟩, rfl, rfl⟩ (bz_ok h)
theorem x0_374 : XX X d 0 (374, [l0, l1, l2, l3, l4, l5, some (.int x), l7, l8], st, M) Q = XX X d 0 (376, [l0, l1, l2, l3, l4, l5, some (.int x), l7, l8], .int x :: st, M) Q := H_ld rfl rfl rfl rfl rfl
theorem x0_376 (h : -2147483648 ≤ p ∧ p ≤ 2147483647) : XX X d 0 (376, L, .int (ii p) :: st, M) Q = bq (p ≠ 0) X d 0 391 379 L st M Q := H_if rfl ⟨rfl, rfl, rfl, by decide⟩ rfl rfl rfl rfl (D_ne (b := 0) (by omega))
theorem x0_376b : XX X d 0 (376, L, .int (ii (b2i b)) :: st, M) Q = bq (b = true) X d 0 391 379 L st M Q := (x0_376 (b2i_r b)).trans (by rw [b2i_n0])
theorem x0_379 : XX X d 0 (379, [l0, l1, l2, some (.ref a), l4, l5, l6, l7, l8], st, M) Q = XX X d 0 (380, [l0, l1, l2, some (.ref a), l4, l5, l6, l7, l8], .ref a :: st, M) Q := H_ld rfl rfl rfl rfl rfl
theorem x0_380 : XX X d 0 (380, L, st, M) Q = XX X d 0 (381, L, .int (ii 0) :: st, M) Q := G_cst rfl rfl rfl rfl rfl
theorem x0_381 : XX X d 0 (381, L, .int x :: .ref a :: st, M) Q = xa (M.2.2 a) (aldT .laload) x (fun v => XX X d 0 (382, L, v :: st, M) Q) := G_ald rfl ⟨⟨rfl, rfl, rfl, by decide⟩, rfl, rfl⟩ rfl rfl
theorem x0_382 : XX X d 0 (382, [l0, l1, l2, l3, l4, l5, l6, some (.int x), l8], st, M) Q = XX X d 0 (384, [l0, l1, l2, l3, l4, l5, l6, some (.int x), l8], .int x :: st, M) Q := H_ld rfl rfl rfl rfl rfl
theorem x0_384 : XX X d 0 (384, L, .int x :: st, M) Q = XX X d 0 (385, L, .long x.toInt64 :: st, M) Q := G_sop rfl ⟨rfl, rfl, rfl, by decide⟩ rfl rfl
theorem x0_385 : XX X d 0 (385, L, .long y2 :: .long y :: st, M) Q = XX X d 0 (386, L, .int (lg_cmp y y2) :: st, M) Q := G_sop rfl ⟨rfl, rfl, rfl, by decide⟩ rfl rfl
theorem x0_386 (h : -2147483648 ≤ p ∧ p ≤ 2147483647) : XX X d 0 (386, L, .int (ii p) :: st, M) Q = bq (p = 0) X d 0 391 389 L st M Q := H_if rfl ⟨rfl, rfl, rfl, by decide⟩ rfl rfl rfl rfl (D_eq (b := 0) (by omega))
theorem x0_386b : XX X d 0 (386, L, .int (ii (b2i b)) :: st, M) Q = bq (b = false) X d 0 391 389 L st M Q := (x0_386 (b2i_r b)).trans (by rw [b2i_0])
theorem x0_389 : XX X d 0 (389, L, st, M) Q = XX X d 0 (390, L, .int (ii 0) :: st, M) Q := G_cst rfl rfl rfl rfl rfl
theorem x0_390 (h : bz p) : XX X d 0 (390, L, [.int (ii p)], M) Q = Q (.inl (some (.int (ii p)))) M := G_ret rfl ⟨⟨⟨rfl, rfl, rfl, by decide⟩, rfl, rfl⟩, rfl, rfl⟩ (bz_ok h)
theorem x0_391 : XX X d 0 (391, L, st, M) Q = XX X d 0 (2632, L, st, M) Q := H_jmp rfl (by decide) rfl
theorem x0_394 : XX X d 0 (394, [l0, some (.ref a), l2, l3, l4, l5, l6, l7, l8], st, M) Q = XX X d 0 (395, [l0, some (.ref a), l2, l3, l4, l5, l6, l7, l8], .ref a :: st, M) Q := H_ld rfl rfl rfl rfl rfl
theorem x0_395 (hd : 0 < d) (hs : stB st = true) : XX X d 0 (395, L, .ref a :: st, M) Q = (mcl M a = some 8 ∧ CC X (d - 1) 82 [.ref a] M (XC X d 0 395 398 L st Q)) := H_virt [] rfl (by decide) rfl rfl rfl rfl rfl hd hs
theorem x0_398 : XX X d 0 (398, [l0, l1, some (.ref a), l3, l4, l5, l6, l7, l8], st, M) Q = XX X d 0 (399, [l0, l1, some (.ref a), l3, l4, l5, l6, l7, l8], .ref a :: st, M) Q := H_ld rfl rfl rfl rfl rfl
theorem x0_399 (hd : 0 < d) (hs : stB st = true) : XX X d 0 (399, L, .ref a :: st, M) Q = (mcl M a = some 9 ∧ CC X (d - 1) 179 [.ref a] M (XC X d 0 399 402 L st Q)) := H_virt [] rfl (by decide) rfl rfl rfl rfl rfl hd hs
theorem x0_402 (h : -2147483648 ≤ p ∧ p ≤ 2147483647 ∧ -2147483648 ≤ q ∧ q ≤ 2147483647) : XX X d 0 (402, L, .int (ii q) :: .int (ii p) :: st, M) Q = bq (p = q) X d 0 2632 405 L st M Q := H_if2 rfl ⟨rfl, rfl, rfl, by decide⟩ rfl rfl rfl rfl (D_eq h)
theorem x0_405 : XX X d 0 (405, L, st, M) Q = XX X d 0 (406, L, .int (ii 0) :: st, M) Q := G_cst rfl rfl rfl rfl rfl
theorem x0_406 (h : bz p) : XX X d 0 (406, L, [.int (ii p)], M) Q = Q (.inl (some (.int (ii p)))) M := G_ret rfl ⟨⟨⟨rfl, rfl, rfl, by decide⟩, rfl, rfl⟩, rfl, rfl⟩ (bz_ok h)
theorem x0_407 : XX X d 0 (407, [l0, some (.ref a), l2, l3, l4, l5, l6, l7, l8], st, M) Q = XX X d 0 (408, [l0, some (.ref a), l2, l3, l4, l5, l6, l7, l8], .ref a :: st, M) Q := H_ld rfl rfl rfl rfl rfl
theorem x0_408 : XX X d 0 (408, [some (.ref a), l1, l2, l3, l4, l5, l6, l7, l8], st, M) Q = XX X d 0 (409, [some (.ref a), l1, l2, l3, l4, l5, l6, l7, l8], .ref a :: st, M) Q := H_ld rfl rfl rfl rfl rfl
theorem x0_409 : XX X d 0 (409, [l0, l1, l2, l3, l4, some (.int x), l6, l7, l8], st, M) Q = XX X d 0 (411, [l0, l1, l2, l3, l4, some (.int x), l6, l7, l8], .int x :: st, M) Q := H_ld rfl rfl rfl rfl rfl
theorem x0_411 : XX X d 0 (411, L, st, M) Q = XX X d 0 (412, L, .int (ii 1) :: st, M) Q := G_cst rfl rfl rfl rfl rfl
theorem x0_412 : XX X d 0 (412, L, .int (ii q) :: .int (ii p) :: st, M) Q = XX X d 0 (413, L, .int (ii (p + q)) :: st, M) Q := H_add rfl (by decide) rfl
theorem x0_413 (h : a = X.1 ∧ ¬ (x < 0 ∨ X.2.1 ≤ x.toNatClampNeg)) : XX X d 0 (413, L, .int x :: .ref a :: st, M) Q = XX X d 0 (414, L, .int (X.2.2 x.toNatClampNeg) :: st, M) Q := G_scr rfl rfl rfl rfl rfl (if_pos h)
theorem x0_414 : XX X d 0 (414, [l0, l1, l2, some (.ref a), l4, l5, l6, l7, l8], st, M) Q = XX X d 0 (415, [l0, l1, l2, some (.ref a), l4, l5, l6, l7, l8], .ref a :: st, M) Q := H_ld rfl rfl rfl rfl rfl
theorem x0_415 {v1 v2 v3 : Value} (hd : 0 < d) (hs : stB st = true) : XX X d 0 (415, L, v3 :: v2 :: v1 :: st, M) Q = CC X (d - 1) 236 [v1, v2, v3] M (XC X d 0 415 418 L st Q) := H_static [v1, v2, v3] rfl (by decide) rfl rfl (by decide) rfl rfl hd hs
theorem x0_418 (h : wide (some l5) = false) : XX X d 0 (418, [l0, l1, l2, l3, l4, l5, l6, l7, l8], .int x :: st, M) Q = XX X d 0 (420, [l0, l1, l2, l3, l4, l5, some (.int x), l7, l8], st, M) Q := H_st rfl rfl rfl rfl rfl rfl rfl rfl (Or.inr h)
theorem x0_420 : XX X d 0 (420, [l0, l1, some (.ref a), l3, l4, l5, l6, l7, l8], st, M) Q = XX X d 0 (421, [l0, l1, some (.ref a), l3, l4, l5, l6, l7, l8], .ref a :: st, M) Q := H_ld rfl rfl rfl rfl rfl
theorem x0_421 : XX X d 0 (421, [some (.ref a), l1, l2, l3, l4, l5, l6, l7, l8], st, M) Q = XX X d 0 (422, [some (.ref a), l1, l2, l3, l4, l5, l6, l7, l8], .ref a :: st, M) Q := H_ld rfl rfl rfl rfl rfl
theorem x0_422 : XX X d 0 (422, [l0, l1, l2, l3, l4, some (.int x), l6, l7, l8], st, M) Q = XX X d 0 (424, [l0, l1, l2, l3, l4, some (.int x), l6, l7, l8], .int x :: st, M) Q := H_ld rfl rfl rfl rfl rfl
theorem x0_424 : XX X d 0 (424, L, st, M) Q = XX X d 0 (425, L, .int (ii 1) :: st, M) Q := G_cst rfl rfl rfl rfl rfl
theorem x0_425 : XX X d 0 (425, L, .int (ii q) :: .int (ii p) :: st, M) Q = XX X d 0 (426, L, .int (ii (p + q)) :: st, M) Q := H_add rfl (by decide) rfl
theorem x0_426 (h : a = X.1 ∧ ¬ (x < 0 ∨ X.2.1 ≤ x.toNatClampNeg)) : XX X d 0 (426, L, .int x :: .ref a :: st, M) Q = XX X d 0 (427, L, .int (X.2.2 x.toNatClampNeg) :: st, M) Q := G_scr rfl rfl rfl rfl rfl (if_pos h)
theorem x0_427 {v1 : Value} (hd : 0 < d) (hs : stB st = true) : XX X d 0 (427, L, v1 :: .ref a :: st, M) Q = (mcl M a = some 9 ∧ CC X (d - 1) 180 [.ref a, v1] M (XC X d 0 427 430 L st Q)) := H_virt [v1] rfl (by decide) rfl rfl rfl rfl rfl hd hs
theorem x0_430 (h : wide (some l6) = false) : XX X d 0 (430, [l0, l1, l2, l3, l4, l5, l6, l7, l8], .int x :: st, M) Q = XX X d 0 (432, [l0, l1, l2, l3, l4, l5, l6, some (.int x), l8], st, M) Q := H_st rfl rfl rfl rfl rfl rfl rfl rfl (Or.inr h)
theorem x0_432 : XX X d 0 (432, [l0, l1, some (.ref a), l3, l4, l5, l6, l7, l8], st, M) Q = XX X d 0 (433, [l0, l1, some (.ref a), l3, l4, l5, l6, l7, l8], .ref a :: st, M) Q := H_ld rfl rfl rfl rfl rfl
theorem x0_433 (hd : 0 < d) (hs : stB st = true) : XX X d 0 (433, L, .ref a :: st, M) Q = (mcl M a = some 9 ∧ CC X (d - 1) 143 [.ref a] M (XC X d 0 433 436 L st Q)) := H_virt [] rfl (by decide) rfl rfl rfl rfl rfl hd hs
theorem x0_436 : XX X d 0 (436, [l0, l1, l2, l3, l4, l5, some (.int x), l7, l8], st, M) Q = XX X d 0 (438, [l0, l1, l2, l3, l4, l5, some (.int x), l7, l8], .int x :: st, M) Q := H_ld rfl rfl rfl rfl rfl
theorem x0_438 (h : -2147483648 ≤ p ∧ p ≤ 2147483647 ∧ -2147483648 ≤ q ∧ q ≤ 2147483647) : XX X d 0 (438, L, .int (ii q) :: .int (ii p) :: st, M) Q = bq (p = q) X d 0 443 441 L st M Q := H_if2 rfl ⟨rfl, rfl, rfl, by decide⟩ rfl rfl rfl rfl (D_eq h)
theorem x0_441 : XX X d 0 (441, L, st, M) Q = XX X d 0 (442, L, .int (ii 0) :: st, M) Q := G_cst rfl rfl rfl rfl rfl
theorem x0_442 (h : bz p) : XX X d 0 (442, L, [.int (ii p)], M) Q = Q (.inl (some (.int (ii p)))) M := G_ret rfl ⟨⟨⟨rfl, rfl, rfl, by decide⟩, rfl, rfl⟩, rfl, rfl⟩ (bz_ok h)
theorem x0_443 : XX X d 0 (443, [l0, l1, l2, l3, l4, l5, some (.int x), l7, l8], st, M) Q = XX X d 0 (445, [l0, l1, l2, l3, l4, l5, some (.int x), l7, l8], .int x :: st, M) Q := H_ld rfl rfl rfl rfl rfl
theorem x0_445 (h : -2147483648 ≤ p ∧ p ≤ 2147483647) : XX X d 0 (445, L, .int (ii p) :: st, M) Q = bq (p ≠ 0) X d 0 460 448 L st M Q := H_if rfl ⟨rfl, rfl, rfl, by decide⟩ rfl rfl rfl rfl (D_ne (b := 0) (by omega))
theorem x0_445b : XX X d 0 (445, L, .int (ii (b2i b)) :: st, M) Q = bq (b = true) X d 0 460 448 L st M Q := (x0_445 (b2i_r b)).trans (by rw [b2i_n0])
theorem x0_448 : XX X d 0 (448, [l0, l1, l2, some (.ref a), l4, l5, l6, l7, l8], st, M) Q = XX X d 0 (449, [l0, l1, l2, some (.ref a), l4, l5, l6, l7, l8], .ref a :: st, M) Q := H_ld rfl rfl rfl rfl rfl
theorem x0_449 : XX X d 0 (449, L, st, M) Q = XX X d 0 (450, L, .int (ii 0) :: st, M) Q := G_cst rfl rfl rfl rfl rfl
theorem x0_450 : XX X d 0 (450, L, .int x :: .ref a :: st, M) Q = xa (M.2.2 a) (aldT .laload) x (fun v => XX X d 0 (451, L, v :: st, M) Q) := G_ald rfl ⟨⟨rfl, rfl, rfl, by decide⟩, rfl, rfl⟩ rfl rfl
theorem x0_451 : XX X d 0 (451, [l0, l1, l2, l3, l4, l5, l6, some (.int x), l8], st, M) Q = XX X d 0 (453, [l0, l1, l2, l3, l4, l5, l6, some (.int x), l8], .int x :: st, M) Q := H_ld rfl rfl rfl rfl rfl
theorem x0_453 : XX X d 0 (453, L, .int x :: st, M) Q = XX X d 0 (454, L, .long x.toInt64 :: st, M) Q := G_sop rfl ⟨rfl, rfl, rfl, by decide⟩ rfl rfl
theorem x0_454 : XX X d 0 (454, L, .long y2 :: .long y :: st, M) Q = XX X d 0 (455, L, .int (lg_cmp y y2) :: st, M) Q := G_sop rfl ⟨rfl, rfl, rfl, by decide⟩ rfl rfl
theorem x0_455 (h : -2147483648 ≤ p ∧ p ≤ 2147483647) : XX X d 0 (455, L, .int (ii p) :: st, M) Q = bq (p = 0) X d 0 460 458 L st M Q := H_if rfl ⟨rfl, rfl, rfl, by decide⟩ rfl rfl rfl rfl (D_eq (b := 0) (by omega))
theorem x0_455b : XX X d 0 (455, L, .int (ii (b2i b)) :: st, M) Q = bq (b = false) X d 0 460 458 L st M Q := (x0_455 (b2i_r b)).trans (by rw [b2i_0])
theorem x0_458 : XX X d 0 (458, L, st, M) Q = XX X d 0 (459, L, .int (ii 0) :: st, M) Q := G_cst rfl rfl rfl rfl rfl
theorem x0_459 (h : bz p) : XX X d 0 (459, L, [.int (ii p)], M) Q = Q (.inl (some (.int (ii p)))) M := G_ret rfl ⟨⟨⟨rfl, rfl, rfl, by decide⟩, rfl, rfl⟩, rfl, rfl⟩ (bz_ok h)
theorem x0_460 : XX X d 0 (460, L, st, M) Q = XX X d 0 (2632, L, st, M) Q := H_jmp rfl (by decide) rfl
theorem x0_463 : XX X d 0 (463, [l0, some (.ref a), l2, l3, l4, l5, l6, l7, l8], st, M) Q = XX X d 0 (464, [l0, some (.ref a), l2, l3, l4, l5, l6, l7, l8], .ref a :: st, M) Q := H_ld rfl rfl rfl rfl rfl
theorem x0_464 : XX X d 0 (464, [some (.ref a), l1, l2, l3, l4, l5, l6, l7, l8], st, M) Q = XX X d 0 (465, [some (.ref a), l1, l2, l3, l4, l5, l6, l7, l8], .ref a :: st, M) Q := H_ld rfl rfl rfl rfl rfl
theorem x0_465 : XX X d 0 (465, [l0, l1, l2, l3, l4, some (.int x), l6, l7, l8], st, M) Q = XX X d 0 (467, [l0, l1, l2, l3, l4, some (.int x), l6, l7, l8], .int x :: st, M) Q := H_ld rfl rfl rfl rfl rfl
theorem x0_467 : XX X d 0 (467, L, st, M) Q = XX X d 0 (468, L, .int (ii 1) :: st, M) Q := G_cst rfl rfl rfl rfl rfl
theorem x0_468 : XX X d 0 (468, L, .int (ii q) :: .int (ii p) :: st, M) Q = XX X d 0 (469, L, .int (ii (p + q)) :: st, M) Q := H_add rfl (by decide) rfl
theorem x0_469 (h : a = X.1 ∧ ¬ (x < 0 ∨ X.2.1 ≤ x.toNatClampNeg)) : XX X d 0 (469, L, .int x :: .ref a :: st, M) Q = XX X d 0 (470, L, .int (X.2.2 x.toNatClampNeg) :: st, M) Q := G_scr rfl rfl rfl rfl rfl (if_pos h)
theorem x0_470 : XX X d 0 (470, [some (.ref a), l1, l2, l3, l4, l5, l6, l7, l8], st, M) Q = XX X d 0 (471, [some (.ref a), l1, l2, l3, l4, l5, l6, l7, l8], .ref a :: st, M) Q := H_ld rfl rfl rfl rfl rfl
theorem x0_471 : XX X d 0 (471, [l0, l1, l2, l3, l4, some (.int x), l6, l7, l8], st, M) Q = XX X d 0 (473, [l0, l1, l2, l3, l4, some (.int x), l6, l7, l8], .int x :: st, M) Q := H_ld rfl rfl rfl rfl rfl
theorem x0_473 : XX X d 0 (473, L, st, M) Q = XX X d 0 (474, L, .int (ii 2) :: st, M) Q := G_cst rfl rfl rfl rfl rfl
theorem x0_474 : XX X d 0 (474, L, .int (ii q) :: .int (ii p) :: st, M) Q = XX X d 0 (475, L, .int (ii (p + q)) :: st, M) Q := H_add rfl (by decide) rfl
theorem x0_475 (h : a = X.1 ∧ ¬ (x < 0 ∨ X.2.1 ≤ x.toNatClampNeg)) : XX X d 0 (475, L, .int x :: .ref a :: st, M) Q = XX X d 0 (476, L, .int (X.2.2 x.toNatClampNeg) :: st, M) Q := G_scr rfl rfl rfl rfl rfl (if_pos h)
theorem x0_476 : XX X d 0 (476, [l0, l1, l2, some (.ref a), l4, l5, l6, l7, l8], st, M) Q = XX X d 0 (477, [l0, l1, l2, some (.ref a), l4, l5, l6, l7, l8], .ref a :: st, M) Q := H_ld rfl rfl rfl rfl rfl
theorem x0_477 {v1 v2 v3 v4 : Value} (hd : 0 < d) (hs : stB st = true) : XX X d 0 (477, L, v4 :: v3 :: v2 :: v1 :: st, M) Q = CC X (d - 1) 237 [v1, v2, v3, v4] M (XC X d 0 477 480 L st Q) := H_static [v1, v2, v3, v4] rfl (by decide) rfl rfl (by decide) rfl rfl hd hs
theorem x0_480 (h : wide (some l5) = false) : XX X d 0 (480, [l0, l1, l2, l3, l4, l5, l6, l7, l8], .int x :: st, M) Q = XX X d 0 (482, [l0, l1, l2, l3, l4, l5, some (.int x), l7, l8], st, M) Q := H_st rfl rfl rfl rfl rfl rfl rfl rfl (Or.inr h)
theorem x0_482 : XX X d 0 (482, [l0, l1, some (.ref a), l3, l4, l5, l6, l7, l8], st, M) Q = XX X d 0 (483, [l0, l1, some (.ref a), l3, l4, l5, l6, l7, l8], .ref a :: st, M) Q := H_ld rfl rfl rfl rfl rfl
theorem x0_483 : XX X d 0 (483, [some (.ref a), l1, l2, l3, l4, l5, l6, l7, l8], st, M) Q = XX X d 0 (484, [some (.ref a), l1, l2, l3, l4, l5, l6, l7, l8], .ref a :: st, M) Q := H_ld rfl rfl rfl rfl rfl
theorem x0_484 : XX X d 0 (484, [l0, l1, l2, l3, l4, some (.int x), l6, l7, l8], st, M) Q = XX X d 0 (486, [l0, l1, l2, l3, l4, some (.int x), l6, l7, l8], .int x :: st, M) Q := H_ld rfl rfl rfl rfl rfl
theorem x0_486 : XX X d 0 (486, L, st, M) Q = XX X d 0 (487, L, .int (ii 1) :: st, M) Q := G_cst rfl rfl rfl rfl rfl
theorem x0_487 : XX X d 0 (487, L, .int (ii q) :: .int (ii p) :: st, M) Q = XX X d 0 (488, L, .int (ii (p + q)) :: st, M) Q := H_add rfl (by decide) rfl
theorem x0_488 (h : a = X.1 ∧ ¬ (x < 0 ∨ X.2.1 ≤ x.toNatClampNeg)) : XX X d 0 (488, L, .int x :: .ref a :: st, M) Q = XX X d 0 (489, L, .int (X.2.2 x.toNatClampNeg) :: st, M) Q := G_scr rfl rfl rfl rfl rfl (if_pos h)
theorem x0_489 : XX X d 0 (489, [some (.ref a), l1, l2, l3, l4, l5, l6, l7, l8], st, M) Q = XX X d 0 (490, [some (.ref a), l1, l2, l3, l4, l5, l6, l7, l8], .ref a :: st, M) Q := H_ld rfl rfl rfl rfl rfl
theorem x0_490 : XX X d 0 (490, [l0, l1, l2, l3, l4, some (.int x), l6, l7, l8], st, M) Q = XX X d 0 (492, [l0, l1, l2, l3, l4, some (.int x), l6, l7, l8], .int x :: st, M) Q := H_ld rfl rfl rfl rfl rfl
theorem x0_492 : XX X d 0 (492, L, st, M) Q = XX X d 0 (493, L, .int (ii 2) :: st, M) Q := G_cst rfl rfl rfl rfl rfl
theorem x0_493 : XX X d 0 (493, L, .int (ii q) :: .int (ii p) :: st, M) Q = XX X d 0 (494, L, .int (ii (p + q)) :: st, M) Q := H_add rfl (by decide) rfl
theorem x0_494 (h : a = X.1 ∧ ¬ (x < 0 ∨ X.2.1 ≤ x.toNatClampNeg)) : XX X d 0 (494, L, .int x :: .ref a :: st, M) Q = XX X d 0 (495, L, .int (X.2.2 x.toNatClampNeg) :: st, M) Q := G_scr rfl rfl rfl rfl rfl (if_pos h)
theorem x0_495 {v1 v2 : Value} (hd : 0 < d) (hs : stB st = true) : XX X d 0 (495, L, v2 :: v1 :: .ref a :: st, M) Q = (mcl M a = some 9 ∧ CC X (d - 1) 181 [.ref a, v1, v2] M (XC X d 0 495 498 L st Q)) := H_virt [v1, v2] rfl (by decide) rfl rfl rfl rfl rfl hd hs
theorem x0_498 (h : wide (some l6) = false) : XX X d 0 (498, [l0, l1, l2, l3, l4, l5, l6, l7, l8], .int x :: st, M) Q = XX X d 0 (500, [l0, l1, l2, l3, l4, l5, l6, some (.int x), l8], st, M) Q := H_st rfl rfl rfl rfl rfl rfl rfl rfl (Or.inr h)
theorem x0_500 : XX X d 0 (500, [l0, l1, some (.ref a), l3, l4, l5, l6, l7, l8], st, M) Q = XX X d 0 (501, [l0, l1, some (.ref a), l3, l4, l5, l6, l7, l8], .ref a :: st, M) Q := H_ld rfl rfl rfl rfl rfl
theorem x0_501 (hd : 0 < d) (hs : stB st = true) : XX X d 0 (501, L, .ref a :: st, M) Q = (mcl M a = some 9 ∧ CC X (d - 1) 143 [.ref a] M (XC X d 0 501 504 L st Q)) := H_virt [] rfl (by decide) rfl rfl rfl rfl rfl hd hs
theorem x0_504 : XX X d 0 (504, [l0, l1, l2, l3, l4, l5, some (.int x), l7, l8], st, M) Q = XX X d 0 (506, [l0, l1, l2, l3, l4, l5, some (.int x), l7, l8], .int x :: st, M) Q := H_ld rfl rfl rfl rfl rfl
theorem x0_506 (h : -2147483648 ≤ p ∧ p ≤ 2147483647 ∧ -2147483648 ≤ q ∧ q ≤ 2147483647) : XX X d 0 (506, L, .int (ii q) :: .int (ii p) :: st, M) Q = bq (p = q) X d 0 511 509 L st M Q := H_if2 rfl ⟨rfl, rfl, rfl, by decide⟩ rfl rfl rfl rfl (D_eq h)
theorem x0_509 : XX X d 0 (509, L, st, M) Q = XX X d 0 (510, L, .int (ii 0) :: st, M) Q := G_cst rfl rfl rfl rfl rfl
theorem x0_510 (h : bz p) : XX X d 0 (510, L, [.int (ii p)], M) Q = Q (.inl (some (.int (ii p)))) M := G_ret rfl ⟨⟨⟨rfl, rfl, rfl, by decide⟩, rfl, rfl⟩, rfl, rfl⟩ (bz_ok h)
theorem x0_511 : XX X d 0 (511, [l0, l1, l2, l3, l4, l5, some (.int x), l7, l8], st, M) Q = XX X d 0 (513, [l0, l1, l2, l3, l4, l5, some (.int x), l7, l8], .int x :: st, M) Q := H_ld rfl rfl rfl rfl rfl
theorem x0_513 (h : -2147483648 ≤ p ∧ p ≤ 2147483647) : XX X d 0 (513, L, .int (ii p) :: st, M) Q = bq (p ≠ 0) X d 0 528 516 L st M Q := H_if rfl ⟨rfl, rfl, rfl, by decide⟩ rfl rfl rfl rfl (D_ne (b := 0) (by omega))
theorem x0_513b : XX X d 0 (513, L, .int (ii (b2i b)) :: st, M) Q = bq (b = true) X d 0 528 516 L st M Q := (x0_513 (b2i_r b)).trans (by rw [b2i_n0])
theorem x0_516 : XX X d 0 (516, [l0, l1, l2, some (.ref a), l4, l5, l6, l7, l8], st, M) Q = XX X d 0 (517, [l0, l1, l2, some (.ref a), l4, l5, l6, l7, l8], .ref a :: st, M) Q := H_ld rfl rfl rfl rfl rfl
theorem x0_517 : XX X d 0 (517, L, st, M) Q = XX X d 0 (518, L, .int (ii 0) :: st, M) Q := G_cst rfl rfl rfl rfl rfl
theorem x0_518 : XX X d 0 (518, L, .int x :: .ref a :: st, M) Q = xa (M.2.2 a) (aldT .laload) x (fun v => XX X d 0 (519, L, v :: st, M) Q) := G_ald rfl ⟨⟨rfl, rfl, rfl, by decide⟩, rfl, rfl⟩ rfl rfl
theorem x0_519 : XX X d 0 (519, [l0, l1, l2, l3, l4, l5, l6, some (.int x), l8], st, M) Q = XX X d 0 (521, [l0, l1, l2, l3, l4, l5, l6, some (.int x), l8], .int x :: st, M) Q := H_ld rfl rfl rfl rfl rfl
theorem x0_521 : XX X d 0 (521, L, .int x :: st, M) Q = XX X d 0 (522, L, .long x.toInt64 :: st, M) Q := G_sop rfl ⟨rfl, rfl, rfl, by decide⟩ rfl rfl
theorem x0_522 : XX X d 0 (522, L, .long y2 :: .long y :: st, M) Q = XX X d 0 (523, L, .int (lg_cmp y y2) :: st, M) Q := G_sop rfl ⟨rfl, rfl, rfl, by decide⟩ rfl rfl
theorem x0_523 (h : -2147483648 ≤ p ∧ p ≤ 2147483647) : XX X d 0 (523, L, .int (ii p) :: st, M) Q = bq (p = 0) X d 0 528 526 L st M Q := H_if rfl ⟨rfl, rfl, rfl, by decide⟩ rfl rfl rfl rfl (D_eq (b := 0) (by omega))
theorem x0_523b : XX X d 0 (523, L, .int (ii (b2i b)) :: st, M) Q = bq (b = false) X d 0 528 526 L st M Q := (x0_523 (b2i_r b)).trans (by rw [b2i_0])
theorem x0_526 : XX X d 0 (526, L, st, M) Q = XX X d 0 (527, L, .int (ii 0) :: st, M) Q := G_cst rfl rfl rfl rfl rfl
theorem x0_527 (h : bz p) : XX X d 0 (527, L, [.int (ii p)], M) Q = Q (.inl (some (.int (ii p)))) M := G_ret rfl ⟨⟨⟨rfl, rfl, rfl, by decide⟩, rfl, rfl⟩, rfl, rfl⟩ (bz_ok h)
theorem x0_528 : XX X d 0 (528, L, st, M) Q = XX X d 0 (2632, L, st, M) Q := H_jmp rfl (by decide) rfl
theorem x0_531 : XX X d 0 (531, [l0, some (.ref a), l2, l3, l4, l5, l6, l7, l8], st, M) Q = XX X d 0 (532, [l0, some (.ref a), l2, l3, l4, l5, l6, l7, l8], .ref a :: st, M) Q := H_ld rfl rfl rfl rfl rfl
theorem x0_532 : XX X d 0 (532, [some (.ref a), l1, l2, l3, l4, l5, l6, l7, l8], st, M) Q = XX X d 0 (533, [some (.ref a), l1, l2, l3, l4, l5, l6, l7, l8], .ref a :: st, M) Q := H_ld rfl rfl rfl rfl rfl
theorem x0_533 : XX X d 0 (533, [l0, l1, l2, l3, l4, some (.int x), l6, l7, l8], st, M) Q = XX X d 0 (535, [l0, l1, l2, l3, l4, some (.int x), l6, l7, l8], .int x :: st, M) Q := H_ld rfl rfl rfl rfl rfl
theorem x0_535 : XX X d 0 (535, L, st, M) Q = XX X d 0 (536, L, .int (ii 1) :: st, M) Q := G_cst rfl rfl rfl rfl rfl
theorem x0_536 : XX X d 0 (536, L, .int (ii q) :: .int (ii p) :: st, M) Q = XX X d 0 (537, L, .int (ii (p + q)) :: st, M) Q := H_add rfl (by decide) rfl
theorem x0_537 (h : a = X.1 ∧ ¬ (x < 0 ∨ X.2.1 ≤ x.toNatClampNeg)) : XX X d 0 (537, L, .int x :: .ref a :: st, M) Q = XX X d 0 (538, L, .int (X.2.2 x.toNatClampNeg) :: st, M) Q := G_scr rfl rfl rfl rfl rfl (if_pos h)
theorem x0_538 : XX X d 0 (538, [l0, l1, l2, some (.ref a), l4, l5, l6, l7, l8], st, M) Q = XX X d 0 (539, [l0, l1, l2, some (.ref a), l4, l5, l6, l7, l8], .ref a :: st, M) Q := H_ld rfl rfl rfl rfl rfl
theorem x0_539 {v1 v2 v3 : Value} (hd : 0 < d) (hs : stB st = true) : XX X d 0 (539, L, v3 :: v2 :: v1 :: st, M) Q = CC X (d - 1) 238 [v1, v2, v3] M (XC X d 0 539 542 L st Q) := H_static [v1, v2, v3] rfl (by decide) rfl rfl (by decide) rfl rfl hd hs
theorem x0_542 (h : wide (some l5) = false) : XX X d 0 (542, [l0, l1, l2, l3, l4, l5, l6, l7, l8], .int x :: st, M) Q = XX X d 0 (544, [l0, l1, l2, l3, l4, l5, some (.int x), l7, l8], st, M) Q := H_st rfl rfl rfl rfl rfl rfl rfl rfl (Or.inr h)
theorem x0_544 : XX X d 0 (544, [l0, l1, some (.ref a), l3, l4, l5, l6, l7, l8], st, M) Q = XX X d 0 (545, [l0, l1, some (.ref a), l3, l4, l5, l6, l7, l8], .ref a :: st, M) Q := H_ld rfl rfl rfl rfl rfl
theorem x0_545 : XX X d 0 (545, [some (.ref a), l1, l2, l3, l4, l5, l6, l7, l8], st, M) Q = XX X d 0 (546, [some (.ref a), l1, l2, l3, l4, l5, l6, l7, l8], .ref a :: st, M) Q := H_ld rfl rfl rfl rfl rfl
theorem x0_546 : XX X d 0 (546, [l0, l1, l2, l3, l4, some (.int x), l6, l7, l8], st, M) Q = XX X d 0 (548, [l0, l1, l2, l3, l4, some (.int x), l6, l7, l8], .int x :: st, M) Q := H_ld rfl rfl rfl rfl rfl
theorem x0_548 : XX X d 0 (548, L, st, M) Q = XX X d 0 (549, L, .int (ii 1) :: st, M) Q := G_cst rfl rfl rfl rfl rfl
theorem x0_549 : XX X d 0 (549, L, .int (ii q) :: .int (ii p) :: st, M) Q = XX X d 0 (550, L, .int (ii (p + q)) :: st, M) Q := H_add rfl (by decide) rfl
theorem x0_550 (h : a = X.1 ∧ ¬ (x < 0 ∨ X.2.1 ≤ x.toNatClampNeg)) : XX X d 0 (550, L, .int x :: .ref a :: st, M) Q = XX X d 0 (551, L, .int (X.2.2 x.toNatClampNeg) :: st, M) Q := G_scr rfl rfl rfl rfl rfl (if_pos h)
theorem x0_551 {v1 : Value} (hd : 0 < d) (hs : stB st = true) : XX X d 0 (551, L, v1 :: .ref a :: st, M) Q = (mcl M a = some 9 ∧ CC X (d - 1) 182 [.ref a, v1] M (XC X d 0 551 554 L st Q)) := H_virt [v1] rfl (by decide) rfl rfl rfl rfl rfl hd hs
theorem x0_554 (h : wide (some l6) = false) : XX X d 0 (554, [l0, l1, l2, l3, l4, l5, l6, l7, l8], .int x :: st, M) Q = XX X d 0 (556, [l0, l1, l2, l3, l4, l5, l6, some (.int x), l8], st, M) Q := H_st rfl rfl rfl rfl rfl rfl rfl rfl (Or.inr h)
theorem x0_556 : XX X d 0 (556, [l0, l1, some (.ref a), l3, l4, l5, l6, l7, l8], st, M) Q = XX X d 0 (557, [l0, l1, some (.ref a), l3, l4, l5, l6, l7, l8], .ref a :: st, M) Q := H_ld rfl rfl rfl rfl rfl
theorem x0_557 (hd : 0 < d) (hs : stB st = true) : XX X d 0 (557, L, .ref a :: st, M) Q = (mcl M a = some 9 ∧ CC X (d - 1) 143 [.ref a] M (XC X d 0 557 560 L st Q)) := H_virt [] rfl (by decide) rfl rfl rfl rfl rfl hd hs
theorem x0_560 : XX X d 0 (560, [l0, l1, l2, l3, l4, l5, some (.int x), l7, l8], st, M) Q = XX X d 0 (562, [l0, l1, l2, l3, l4, l5, some (.int x), l7, l8], .int x :: st, M) Q := H_ld rfl rfl rfl rfl rfl
theorem x0_562 (h : -2147483648 ≤ p ∧ p ≤ 2147483647 ∧ -2147483648 ≤ q ∧ q ≤ 2147483647) : XX X d 0 (562, L, .int (ii q) :: .int (ii p) :: st, M) Q = bq (p = q) X d 0 567 565 L st M Q := H_if2 rfl ⟨rfl, rfl, rfl, by decide⟩ rfl rfl rfl rfl (D_eq h)
theorem x0_565 : XX X d 0 (565, L, st, M) Q = XX X d 0 (566, L, .int (ii 0) :: st, M) Q := G_cst rfl rfl rfl rfl rfl
theorem x0_566 (h : bz p) : XX X d 0 (566, L, [.int (ii p)], M) Q = Q (.inl (some (.int (ii p)))) M := G_ret rfl ⟨⟨⟨rfl, rfl, rfl, by decide⟩, rfl, rfl⟩, rfl, rfl⟩ (bz_ok h)
theorem x0_567 : XX X d 0 (567, [l0, l1, l2, l3, l4, l5, some (.int x), l7, l8], st, M) Q = XX X d 0 (569, [l0, l1, l2, l3, l4, l5, some (.int x), l7, l8], .int x :: st, M) Q := H_ld rfl rfl rfl rfl rfl
theorem x0_569 (h : -2147483648 ≤ p ∧ p ≤ 2147483647) : XX X d 0 (569, L, .int (ii p) :: st, M) Q = bq (p ≠ 0) X d 0 584 572 L st M Q := H_if rfl ⟨rfl, rfl, rfl, by decide⟩ rfl rfl rfl rfl (D_ne (b := 0) (by omega))
theorem x0_569b : XX X d 0 (569, L, .int (ii (b2i b)) :: st, M) Q = bq (b = true) X d 0 584 572 L st M Q := (x0_569 (b2i_r b)).trans (by rw [b2i_n0])
theorem x0_572 : XX X d 0 (572, [l0, l1, l2, some (.ref a), l4, l5, l6, l7, l8], st, M) Q = XX X d 0 (573, [l0, l1, l2, some (.ref a), l4, l5, l6, l7, l8], .ref a :: st, M) Q := H_ld rfl rfl rfl rfl rfl
theorem x0_573 : XX X d 0 (573, L, st, M) Q = XX X d 0 (574, L, .int (ii 0) :: st, M) Q := G_cst rfl rfl rfl rfl rfl
theorem x0_574 : XX X d 0 (574, L, .int x :: .ref a :: st, M) Q = xa (M.2.2 a) (aldT .laload) x (fun v => XX X d 0 (575, L, v :: st, M) Q) := G_ald rfl ⟨⟨rfl, rfl, rfl, by decide⟩, rfl, rfl⟩ rfl rfl
theorem x0_575 : XX X d 0 (575, [l0, l1, l2, l3, l4, l5, l6, some (.int x), l8], st, M) Q = XX X d 0 (577, [l0, l1, l2, l3, l4, l5, l6, some (.int x), l8], .int x :: st, M) Q := H_ld rfl rfl rfl rfl rfl
theorem x0_577 : XX X d 0 (577, L, .int x :: st, M) Q = XX X d 0 (578, L, .long x.toInt64 :: st, M) Q := G_sop rfl ⟨rfl, rfl, rfl, by decide⟩ rfl rfl
theorem x0_578 : XX X d 0 (578, L, .long y2 :: .long y :: st, M) Q = XX X d 0 (579, L, .int (lg_cmp y y2) :: st, M) Q := G_sop rfl ⟨rfl, rfl, rfl, by decide⟩ rfl rfl
theorem x0_579 (h : -2147483648 ≤ p ∧ p ≤ 2147483647) : XX X d 0 (579, L, .int (ii p) :: st, M) Q = bq (p = 0) X d 0 584 582 L st M Q := H_if rfl ⟨rfl, rfl, rfl, by decide⟩ rfl rfl rfl rfl (D_eq (b := 0) (by omega))
theorem x0_579b : XX X d 0 (579, L, .int (ii (b2i b)) :: st, M) Q = bq (b = false) X d 0 584 582 L st M Q := (x0_579 (b2i_r b)).trans (by rw [b2i_0])
theorem x0_582 : XX X d 0 (582, L, st, M) Q = XX X d 0 (583, L, .int (ii 0) :: st, M) Q := G_cst rfl rfl rfl rfl rfl
theorem x0_583 (h : bz p) : XX X d 0 (583, L, [.int (ii p)], M) Q = Q (.inl (some (.int (ii p)))) M := G_ret rfl ⟨⟨⟨rfl, rfl, rfl, by decide⟩, rfl, rfl⟩, rfl, rfl⟩ (bz_ok h)
theorem x0_584 : XX X d 0 (584, L, st, M) Q = XX X d 0 (2632, L, st, M) Q := H_jmp rfl (by decide) rfl
theorem x0_587 : XX X d 0 (587, [l0, some (.ref a), l2, l3, l4, l5, l6, l7, l8], st, M) Q = XX X d 0 (588, [l0, some (.ref a), l2, l3, l4, l5, l6, l7, l8], .ref a :: st, M) Q := H_ld rfl rfl rfl rfl rfl
theorem x0_588 : XX X d 0 (588, [some (.ref a), l1, l2, l3, l4, l5, l6, l7, l8], st, M) Q = XX X d 0 (589, [some (.ref a), l1, l2, l3, l4, l5, l6, l7, l8], .ref a :: st, M) Q := H_ld rfl rfl rfl rfl rfl
theorem x0_589 : XX X d 0 (589, [l0, l1, l2, l3, l4, some (.int x), l6, l7, l8], st, M) Q = XX X d 0 (591, [l0, l1, l2, l3, l4, some (.int x), l6, l7, l8], .int x :: st, M) Q := H_ld rfl rfl rfl rfl rfl
theorem x0_591 : XX X d 0 (591, L, st, M) Q = XX X d 0 (592, L, .int (ii 1) :: st, M) Q := G_cst rfl rfl rfl rfl rfl
theorem x0_592 : XX X d 0 (592, L, .int (ii q) :: .int (ii p) :: st, M) Q = XX X d 0 (593, L, .int (ii (p + q)) :: st, M) Q := H_add rfl (by decide) rfl
theorem x0_593 (h : a = X.1 ∧ ¬ (x < 0 ∨ X.2.1 ≤ x.toNatClampNeg)) : XX X d 0 (593, L, .int x :: .ref a :: st, M) Q = XX X d 0 (594, L, .int (X.2.2 x.toNatClampNeg) :: st, M) Q := G_scr rfl rfl rfl rfl rfl (if_pos h)
theorem x0_594 : XX X d 0 (594, [l0, l1, l2, some (.ref a), l4, l5, l6, l7, l8], st, M) Q = XX X d 0 (595, [l0, l1, l2, some (.ref a), l4, l5, l6, l7, l8], .ref a :: st, M) Q := H_ld rfl rfl rfl rfl rfl
theorem x0_595 {v1 v2 v3 : Value} (hd : 0 < d) (hs : stB st = true) : XX X d 0 (595, L, v3 :: v2 :: v1 :: st, M) Q = CC X (d - 1) 239 [v1, v2, v3] M (XC X d 0 595 598 L st Q) := H_static [v1, v2, v3] rfl (by decide) rfl rfl (by decide) rfl rfl hd hs
theorem x0_598 (h : wide (some l5) = false) : XX X d 0 (598, [l0, l1, l2, l3, l4, l5, l6, l7, l8], .int x :: st, M) Q = XX X d 0 (600, [l0, l1, l2, l3, l4, l5, some (.int x), l7, l8], st, M) Q := H_st rfl rfl rfl rfl rfl rfl rfl rfl (Or.inr h)
theorem x0_600 : XX X d 0 (600, [l0, l1, some (.ref a), l3, l4, l5, l6, l7, l8], st, M) Q = XX X d 0 (601, [l0, l1, some (.ref a), l3, l4, l5, l6, l7, l8], .ref a :: st, M) Q := H_ld rfl rfl rfl rfl rfl
theorem x0_601 : XX X d 0 (601, [some (.ref a), l1, l2, l3, l4, l5, l6, l7, l8], st, M) Q = XX X d 0 (602, [some (.ref a), l1, l2, l3, l4, l5, l6, l7, l8], .ref a :: st, M) Q := H_ld rfl rfl rfl rfl rfl
theorem x0_602 : XX X d 0 (602, [l0, l1, l2, l3, l4, some (.int x), l6, l7, l8], st, M) Q = XX X d 0 (604, [l0, l1, l2, l3, l4, some (.int x), l6, l7, l8], .int x :: st, M) Q := H_ld rfl rfl rfl rfl rfl
theorem x0_604 : XX X d 0 (604, L, st, M) Q = XX X d 0 (605, L, .int (ii 1) :: st, M) Q := G_cst rfl rfl rfl rfl rfl
theorem x0_605 : XX X d 0 (605, L, .int (ii q) :: .int (ii p) :: st, M) Q = XX X d 0 (606, L, .int (ii (p + q)) :: st, M) Q := H_add rfl (by decide) rfl
theorem x0_606 (h : a = X.1 ∧ ¬ (x < 0 ∨ X.2.1 ≤ x.toNatClampNeg)) : XX X d 0 (606, L, .int x :: .ref a :: st, M) Q = XX X d 0 (607, L, .int (X.2.2 x.toNatClampNeg) :: st, M) Q := G_scr rfl rfl rfl rfl rfl (if_pos h)
theorem x0_607 {v1 : Value} (hd : 0 < d) (hs : stB st = true) : XX X d 0 (607, L, v1 :: .ref a :: st, M) Q = (mcl M a = some 9 ∧ CC X (d - 1) 183 [.ref a, v1] M (XC X d 0 607 610 L st Q)) := H_virt [v1] rfl (by decide) rfl rfl rfl rfl rfl hd hs
theorem x0_610 (h : wide (some l6) = false) : XX X d 0 (610, [l0, l1, l2, l3, l4, l5, l6, l7, l8], .int x :: st, M) Q = XX X d 0 (612, [l0, l1, l2, l3, l4, l5, l6, some (.int x), l8], st, M) Q := H_st rfl rfl rfl rfl rfl rfl rfl rfl (Or.inr h)
theorem x0_612 : XX X d 0 (612, [l0, l1, some (.ref a), l3, l4, l5, l6, l7, l8], st, M) Q = XX X d 0 (613, [l0, l1, some (.ref a), l3, l4, l5, l6, l7, l8], .ref a :: st, M) Q := H_ld rfl rfl rfl rfl rfl
theorem x0_613 (hd : 0 < d) (hs : stB st = true) : XX X d 0 (613, L, .ref a :: st, M) Q = (mcl M a = some 9 ∧ CC X (d - 1) 143 [.ref a] M (XC X d 0 613 616 L st Q)) := H_virt [] rfl (by decide) rfl rfl rfl rfl rfl hd hs
theorem x0_616 : XX X d 0 (616, [l0, l1, l2, l3, l4, l5, some (.int x), l7, l8], st, M) Q = XX X d 0 (618, [l0, l1, l2, l3, l4, l5, some (.int x), l7, l8], .int x :: st, M) Q := H_ld rfl rfl rfl rfl rfl
theorem x0_618 (h : -2147483648 ≤ p ∧ p ≤ 2147483647 ∧ -2147483648 ≤ q ∧ q ≤ 2147483647) : XX X d 0 (618, L, .int (ii q) :: .int (ii p) :: st, M) Q = bq (p = q) X d 0 623 621 L st M Q := H_if2 rfl ⟨rfl, rfl, rfl, by decide⟩ rfl rfl rfl rfl (D_eq h)
theorem x0_621 : XX X d 0 (621, L, st, M) Q = XX X d 0 (622, L, .int (ii 0) :: st, M) Q := G_cst rfl rfl rfl rfl rfl
theorem x0_622 (h : bz p) : XX X d 0 (622, L, [.int (ii p)], M) Q = Q (.inl (some (.int (ii p)))) M := G_ret rfl ⟨⟨⟨rfl, rfl, rfl, by decide⟩, rfl, rfl⟩, rfl, rfl⟩ (bz_ok h)
theorem x0_623 : XX X d 0 (623, [l0, l1, l2, l3, l4, l5, some (.int x), l7, l8], st, M) Q = XX X d 0 (625, [l0, l1, l2, l3, l4, l5, some (.int x), l7, l8], .int x :: st, M) Q := H_ld rfl rfl rfl rfl rfl
theorem x0_625 (h : -2147483648 ≤ p ∧ p ≤ 2147483647) : XX X d 0 (625, L, .int (ii p) :: st, M) Q = bq (p ≠ 0) X d 0 640 628 L st M Q := H_if rfl ⟨rfl, rfl, rfl, by decide⟩ rfl rfl rfl rfl (D_ne (b := 0) (by omega))
theorem x0_625b : XX X d 0 (625, L, .int (ii (b2i b)) :: st, M) Q = bq (b = true) X d 0 640 628 L st M Q := (x0_625 (b2i_r b)).trans (by rw [b2i_n0])
theorem x0_628 : XX X d 0 (628, [l0, l1, l2, some (.ref a), l4, l5, l6, l7, l8], st, M) Q = XX X d 0 (629, [l0, l1, l2, some (.ref a), l4, l5, l6, l7, l8], .ref a :: st, M) Q := H_ld rfl rfl rfl rfl rfl
theorem x0_629 : XX X d 0 (629, L, st, M) Q = XX X d 0 (630, L, .int (ii 0) :: st, M) Q := G_cst rfl rfl rfl rfl rfl
theorem x0_630 : XX X d 0 (630, L, .int x :: .ref a :: st, M) Q = xa (M.2.2 a) (aldT .laload) x (fun v => XX X d 0 (631, L, v :: st, M) Q) := G_ald rfl ⟨⟨rfl, rfl, rfl, by decide⟩, rfl, rfl⟩ rfl rfl
theorem x0_631 : XX X d 0 (631, [l0, l1, l2, l3, l4, l5, l6, some (.int x), l8], st, M) Q = XX X d 0 (633, [l0, l1, l2, l3, l4, l5, l6, some (.int x), l8], .int x :: st, M) Q := H_ld rfl rfl rfl rfl rfl
theorem x0_633 : XX X d 0 (633, L, .int x :: st, M) Q = XX X d 0 (634, L, .long x.toInt64 :: st, M) Q := G_sop rfl ⟨rfl, rfl, rfl, by decide⟩ rfl rfl
theorem x0_634 : XX X d 0 (634, L, .long y2 :: .long y :: st, M) Q = XX X d 0 (635, L, .int (lg_cmp y y2) :: st, M) Q := G_sop rfl ⟨rfl, rfl, rfl, by decide⟩ rfl rfl
theorem x0_635 (h : -2147483648 ≤ p ∧ p ≤ 2147483647) : XX X d 0 (635, L, .int (ii p) :: st, M) Q = bq (p = 0) X d 0 640 638 L st M Q := H_if rfl ⟨rfl, rfl, rfl, by decide⟩ rfl rfl rfl rfl (D_eq (b := 0) (by omega))
theorem x0_635b : XX X d 0 (635, L, .int (ii (b2i b)) :: st, M) Q = bq (b = false) X d 0 640 638 L st M Q := (x0_635 (b2i_r b)).trans (by rw [b2i_0])
theorem x0_638 : XX X d 0 (638, L, st, M) Q = XX X d 0 (639, L, .int (ii 0) :: st, M) Q := G_cst rfl rfl rfl rfl rfl
theorem x0_639 (h : bz p) : XX X d 0 (639, L, [.int (ii p)], M) Q = Q (.inl (some (.int (ii p)))) M := G_ret rfl ⟨⟨⟨rfl, rfl, rfl, by decide⟩, rfl, rfl⟩, rfl, rfl⟩ (bz_ok h)
theorem x0_640 : XX X d 0 (640, L, st, M) Q = XX X d 0 (2632, L, st, M) Q := H_jmp rfl (by decide) rfl
theorem x0_643 : XX X d 0 (643, [l0, some (.ref a), l2, l3, l4, l5, l6, l7, l8], st, M) Q = XX X d 0 (644, [l0, some (.ref a), l2, l3, l4, l5, l6, l7, l8], .ref a :: st, M) Q := H_ld rfl rfl rfl rfl rfl
theorem x0_644 : XX X d 0 (644, [some (.ref a), l1, l2, l3, l4, l5, l6, l7, l8], st, M) Q = XX X d 0 (645, [some (.ref a), l1, l2, l3, l4, l5, l6, l7, l8], .ref a :: st, M) Q := H_ld rfl rfl rfl rfl rfl
theorem x0_645 : XX X d 0 (645, [l0, l1, l2, l3, l4, some (.int x), l6, l7, l8], st, M) Q = XX X d 0 (647, [l0, l1, l2, l3, l4, some (.int x), l6, l7, l8], .int x :: st, M) Q := H_ld rfl rfl rfl rfl rfl
theorem x0_647 : XX X d 0 (647, L, st, M) Q = XX X d 0 (648, L, .int (ii 1) :: st, M) Q := G_cst rfl rfl rfl rfl rfl
theorem x0_648 : XX X d 0 (648, L, .int (ii q) :: .int (ii p) :: st, M) Q = XX X d 0 (649, L, .int (ii (p + q)) :: st, M) Q := H_add rfl (by decide) rfl
theorem x0_649 (h : a = X.1 ∧ ¬ (x < 0 ∨ X.2.1 ≤ x.toNatClampNeg)) : XX X d 0 (649, L, .int x :: .ref a :: st, M) Q = XX X d 0 (650, L, .int (X.2.2 x.toNatClampNeg) :: st, M) Q := G_scr rfl rfl rfl rfl rfl (if_pos h)
theorem x0_650 : XX X d 0 (650, [l0, l1, l2, some (.ref a), l4, l5, l6, l7, l8], st, M) Q = XX X d 0 (651, [l0, l1, l2, some (.ref a), l4, l5, l6, l7, l8], .ref a :: st, M) Q := H_ld rfl rfl rfl rfl rfl
theorem x0_651 {v1 v2 v3 : Value} (hd : 0 < d) (hs : stB st = true) : XX X d 0 (651, L, v3 :: v2 :: v1 :: st, M) Q = CC X (d - 1) 240 [v1, v2, v3] M (XC X d 0 651 654 L st Q) := H_static [v1, v2, v3] rfl (by decide) rfl rfl (by decide) rfl rfl hd hs
theorem x0_654 (h : wide (some l5) = false) : XX X d 0 (654, [l0, l1, l2, l3, l4, l5, l6, l7, l8], .int x :: st, M) Q = XX X d 0 (656, [l0, l1, l2, l3, l4, l5, some (.int x), l7, l8], st, M) Q := H_st rfl rfl rfl rfl rfl rfl rfl rfl (Or.inr h)
theorem x0_656 : XX X d 0 (656, [l0, l1, some (.ref a), l3, l4, l5, l6, l7, l8], st, M) Q = XX X d 0 (657, [l0, l1, some (.ref a), l3, l4, l5, l6, l7, l8], .ref a :: st, M) Q := H_ld rfl rfl rfl rfl rfl
theorem x0_657 : XX X d 0 (657, [some (.ref a), l1, l2, l3, l4, l5, l6, l7, l8], st, M) Q = XX X d 0 (658, [some (.ref a), l1, l2, l3, l4, l5, l6, l7, l8], .ref a :: st, M) Q := H_ld rfl rfl rfl rfl rfl
theorem x0_658 : XX X d 0 (658, [l0, l1, l2, l3, l4, some (.int x), l6, l7, l8], st, M) Q = XX X d 0 (660, [l0, l1, l2, l3, l4, some (.int x), l6, l7, l8], .int x :: st, M) Q := H_ld rfl rfl rfl rfl rfl
theorem x0_660 : XX X d 0 (660, L, st, M) Q = XX X d 0 (661, L, .int (ii 1) :: st, M) Q := G_cst rfl rfl rfl rfl rfl
theorem x0_661 : XX X d 0 (661, L, .int (ii q) :: .int (ii p) :: st, M) Q = XX X d 0 (662, L, .int (ii (p + q)) :: st, M) Q := H_add rfl (by decide) rfl
theorem x0_662 (h : a = X.1 ∧ ¬ (x < 0 ∨ X.2.1 ≤ x.toNatClampNeg)) : XX X d 0 (662, L, .int x :: .ref a :: st, M) Q = XX X d 0 (663, L, .int (X.2.2 x.toNatClampNeg) :: st, M) Q := G_scr rfl rfl rfl rfl rfl (if_pos h)
theorem x0_663 {v1 : Value} (hd : 0 < d) (hs : stB st = true) : XX X d 0 (663, L, v1 :: .ref a :: st, M) Q = (mcl M a = some 9 ∧ CC X (d - 1) 184 [.ref a, v1] M (XC X d 0 663 666 L st Q)) := H_virt [v1] rfl (by decide) rfl rfl rfl rfl rfl hd hs
theorem x0_666 (h : wide (some l6) = false) : XX X d 0 (666, [l0, l1, l2, l3, l4, l5, l6, l7, l8], .int x :: st, M) Q = XX X d 0 (668, [l0, l1, l2, l3, l4, l5, l6, some (.int x), l8], st, M) Q := H_st rfl rfl rfl rfl rfl rfl rfl rfl (Or.inr h)
theorem x0_668 : XX X d 0 (668, [l0, l1, some (.ref a), l3, l4, l5, l6, l7, l8], st, M) Q = XX X d 0 (669, [l0, l1, some (.ref a), l3, l4, l5, l6, l7, l8], .ref a :: st, M) Q := H_ld rfl rfl rfl rfl rfl
theorem x0_669 (hd : 0 < d) (hs : stB st = true) : XX X d 0 (669, L, .ref a :: st, M) Q = (mcl M a = some 9 ∧ CC X (d - 1) 143 [.ref a] M (XC X d 0 669 672 L st Q)) := H_virt [] rfl (by decide) rfl rfl rfl rfl rfl hd hs
theorem x0_672 : XX X d 0 (672, [l0, l1, l2, l3, l4, l5, some (.int x), l7, l8], st, M) Q = XX X d 0 (674, [l0, l1, l2, l3, l4, l5, some (.int x), l7, l8], .int x :: st, M) Q := H_ld rfl rfl rfl rfl rfl
theorem x0_674 (h : -2147483648 ≤ p ∧ p ≤ 2147483647 ∧ -2147483648 ≤ q ∧ q ≤ 2147483647) : XX X d 0 (674, L, .int (ii q) :: .int (ii p) :: st, M) Q = bq (p = q) X d 0 679 677 L st M Q := H_if2 rfl ⟨rfl, rfl, rfl, by decide⟩ rfl rfl rfl rfl (D_eq h)
theorem x0_677 : XX X d 0 (677, L, st, M) Q = XX X d 0 (678, L, .int (ii 0) :: st, M) Q := G_cst rfl rfl rfl rfl rfl
theorem x0_678 (h : bz p) : XX X d 0 (678, L, [.int (ii p)], M) Q = Q (.inl (some (.int (ii p)))) M := G_ret rfl ⟨⟨⟨rfl, rfl, rfl, by decide⟩, rfl, rfl⟩, rfl, rfl⟩ (bz_ok h)
theorem x0_679 : XX X d 0 (679, [l0, l1, l2, l3, l4, l5, some (.int x), l7, l8], st, M) Q = XX X d 0 (681, [l0, l1, l2, l3, l4, l5, some (.int x), l7, l8], .int x :: st, M) Q := H_ld rfl rfl rfl rfl rfl
theorem x0_681 (h : -2147483648 ≤ p ∧ p ≤ 2147483647) : XX X d 0 (681, L, .int (ii p) :: st, M) Q = bq (p ≠ 0) X d 0 696 684 L st M Q := H_if rfl ⟨rfl, rfl, rfl, by decide⟩ rfl rfl rfl rfl (D_ne (b := 0) (by omega))
theorem x0_681b : XX X d 0 (681, L, .int (ii (b2i b)) :: st, M) Q = bq (b = true) X d 0 696 684 L st M Q := (x0_681 (b2i_r b)).trans (by rw [b2i_n0])
theorem x0_684 : XX X d 0 (684, [l0, l1, l2, some (.ref a), l4, l5, l6, l7, l8], st, M) Q = XX X d 0 (685, [l0, l1, l2, some (.ref a), l4, l5, l6, l7, l8], .ref a :: st, M) Q := H_ld rfl rfl rfl rfl rfl
theorem x0_685 : XX X d 0 (685, L, st, M) Q = XX X d 0 (686, L, .int (ii 0) :: st, M) Q := G_cst rfl rfl rfl rfl rfl
theorem x0_686 : XX X d 0 (686, L, .int x :: .ref a :: st, M) Q = xa (M.2.2 a) (aldT .laload) x (fun v => XX X d 0 (687, L, v :: st, M) Q) := G_ald rfl ⟨⟨rfl, rfl, rfl, by decide⟩, rfl, rfl⟩ rfl rfl
theorem x0_687 : XX X d 0 (687, [l0, l1, l2, l3, l4, l5, l6, some (.int x), l8], st, M) Q = XX X d 0 (689, [l0, l1, l2, l3, l4, l5, l6, some (.int x), l8], .int x :: st, M) Q := H_ld rfl rfl rfl rfl rfl
theorem x0_689 : XX X d 0 (689, L, .int x :: st, M) Q = XX X d 0 (690, L, .long x.toInt64 :: st, M) Q := G_sop rfl ⟨rfl, rfl, rfl, by decide⟩ rfl rfl
theorem x0_690 : XX X d 0 (690, L, .long y2 :: .long y :: st, M) Q = XX X d 0 (691, L, .int (lg_cmp y y2) :: st, M) Q := G_sop rfl ⟨rfl, rfl, rfl, by decide⟩ rfl rfl
theorem x0_691 (h : -2147483648 ≤ p ∧ p ≤ 2147483647) : XX X d 0 (691, L, .int (ii p) :: st, M) Q = bq (p = 0) X d 0 696 694 L st M Q := H_if rfl ⟨rfl, rfl, rfl, by decide⟩ rfl rfl rfl rfl (D_eq (b := 0) (by omega))
theorem x0_691b : XX X d 0 (691, L, .int (ii (b2i b)) :: st, M) Q = bq (b = false) X d 0 696 694 L st M Q := (x0_691 (b2i_r b)).trans (by rw [b2i_0])
theorem x0_694 : XX X d 0 (694, L, st, M) Q = XX X d 0 (695, L, .int (ii 0) :: st, M) Q := G_cst rfl rfl rfl rfl rfl
theorem x0_695 (h : bz p) : XX X d 0 (695, L, [.int (ii p)], M) Q = Q (.inl (some (.int (ii p)))) M := G_ret rfl ⟨⟨⟨rfl, rfl, rfl, by decide⟩, rfl, rfl⟩, rfl, rfl⟩ (bz_ok h)
theorem x0_696 : XX X d 0 (696, L, st, M) Q = XX X d 0 (2632, L, st, M) Q := H_jmp rfl (by decide) rfl
theorem x0_699 : XX X d 0 (699, [l0, some (.ref a), l2, l3, l4, l5, l6, l7, l8], st, M) Q = XX X d 0 (700, [l0, some (.ref a), l2, l3, l4, l5, l6, l7, l8], .ref a :: st, M) Q := H_ld rfl rfl rfl rfl rfl
theorem x0_700 : XX X d 0 (700, [l0, l1, l2, some (.ref a), l4, l5, l6, l7, l8], st, M) Q = XX X d 0 (701, [l0, l1, l2, some (.ref a), l4, l5, l6, l7, l8], .ref a :: st, M) Q := H_ld rfl rfl rfl rfl rfl
theorem x0_701 {v1 v2 : Value} (hd : 0 < d) (hs : stB st = true) : XX X d 0 (701, L, v2 :: v1 :: st, M) Q = CC X (d - 1) 241 [v1, v2] M (XC X d 0 701 704 L st Q) := H_static [v1, v2] rfl (by decide) rfl rfl (by decide) rfl rfl hd hs
theorem x0_704 (h : wide (some l5) = false) : XX X d 0 (704, [l0, l1, l2, l3, l4, l5, l6, l7, l8], .int x :: st, M) Q = XX X d 0 (706, [l0, l1, l2, l3, l4, l5, some (.int x), l7, l8], st, M) Q := H_st rfl rfl rfl rfl rfl rfl rfl rfl (Or.inr h)
theorem x0_706 : XX X d 0 (706, [l0, l1, some (.ref a), l3, l4, l5, l6, l7, l8], st, M) Q = XX X d 0 (707, [l0, l1, some (.ref a), l3, l4, l5, l6, l7, l8], .ref a :: st, M) Q := H_ld rfl rfl rfl rfl rfl
theorem x0_707 (hd : 0 < d) (hs : stB st = true) : XX X d 0 (707, L, .ref a :: st, M) Q = (mcl M a = some 9 ∧ CC X (d - 1) 185 [.ref a] M (XC X d 0 707 710 L st Q)) := H_virt [] rfl (by decide) rfl rfl rfl rfl rfl hd hs
theorem x0_710 (h : wide (some l6) = false) : XX X d 0 (710, [l0, l1, l2, l3, l4, l5, l6, l7, l8], .int x :: st, M) Q = XX X d 0 (712, [l0, l1, l2, l3, l4, l5, l6, some (.int x), l8], st, M) Q := H_st rfl rfl rfl rfl rfl rfl rfl rfl (Or.inr h)
theorem x0_712 : XX X d 0 (712, [l0, l1, some (.ref a), l3, l4, l5, l6, l7, l8], st, M) Q = XX X d 0 (713, [l0, l1, some (.ref a), l3, l4, l5, l6, l7, l8], .ref a :: st, M) Q := H_ld rfl rfl rfl rfl rfl
theorem x0_713 (hd : 0 < d) (hs : stB st = true) : XX X d 0 (713, L, .ref a :: st, M) Q = (mcl M a = some 9 ∧ CC X (d - 1) 143 [.ref a] M (XC X d 0 713 716 L st Q)) := H_virt [] rfl (by decide) rfl rfl rfl rfl rfl hd hs
theorem x0_716 : XX X d 0 (716, [l0, l1, l2, l3, l4, l5, some (.int x), l7, l8], st, M) Q = XX X d 0 (718, [l0, l1, l2, l3, l4, l5, some (.int x), l7, l8], .int x :: st, M) Q := H_ld rfl rfl rfl rfl rfl
theorem x0_718 (h : -2147483648 ≤ p ∧ p ≤ 2147483647 ∧ -2147483648 ≤ q ∧ q ≤ 2147483647) : XX X d 0 (718, L, .int (ii q) :: .int (ii p) :: st, M) Q = bq (p = q) X d 0 723 721 L st M Q := H_if2 rfl ⟨rfl, rfl, rfl, by decide⟩ rfl rfl rfl rfl (D_eq h)
theorem x0_721 : XX X d 0 (721, L, st, M) Q = XX X d 0 (722, L, .int (ii 0) :: st, M) Q := G_cst rfl rfl rfl rfl rfl
theorem x0_722 (h : bz p) : XX X d 0 (722, L, [.int (ii p)], M) Q = Q (.inl (some (.int (ii p)))) M := G_ret rfl ⟨⟨⟨rfl, rfl, rfl, by decide⟩, rfl, rfl⟩, rfl, rfl⟩ (bz_ok h)
theorem x0_723 : XX X d 0 (723, [l0, l1, l2, l3, l4, l5, some (.int x), l7, l8], st, M) Q = XX X d 0 (725, [l0, l1, l2, l3, l4, l5, some (.int x), l7, l8], .int x :: st, M) Q := H_ld rfl rfl rfl rfl rfl
theorem x0_725 (h : -2147483648 ≤ p ∧ p ≤ 2147483647) : XX X d 0 (725, L, .int (ii p) :: st, M) Q = bq (p ≠ 0) X d 0 740 728 L st M Q := H_if rfl ⟨rfl, rfl, rfl, by decide⟩ rfl rfl rfl rfl (D_ne (b := 0) (by omega))
theorem x0_725b : XX X d 0 (725, L, .int (ii (b2i b)) :: st, M) Q = bq (b = true) X d 0 740 728 L st M Q := (x0_725 (b2i_r b)).trans (by rw [b2i_n0])
theorem x0_728 : XX X d 0 (728, [l0, l1, l2, some (.ref a), l4, l5, l6, l7, l8], st, M) Q = XX X d 0 (729, [l0, l1, l2, some (.ref a), l4, l5, l6, l7, l8], .ref a :: st, M) Q := H_ld rfl rfl rfl rfl rfl
theorem x0_729 : XX X d 0 (729, L, st, M) Q = XX X d 0 (730, L, .int (ii 0) :: st, M) Q := G_cst rfl rfl rfl rfl rfl
theorem x0_730 : XX X d 0 (730, L, .int x :: .ref a :: st, M) Q = xa (M.2.2 a) (aldT .laload) x (fun v => XX X d 0 (731, L, v :: st, M) Q) := G_ald rfl ⟨⟨rfl, rfl, rfl, by decide⟩, rfl, rfl⟩ rfl rfl
theorem x0_731 : XX X d 0 (731, [l0, l1, l2, l3, l4, l5, l6, some (.int x), l8], st, M) Q = XX X d 0 (733, [l0, l1, l2, l3, l4, l5, l6, some (.int x), l8], .int x :: st, M) Q := H_ld rfl rfl rfl rfl rfl
theorem x0_733 : XX X d 0 (733, L, .int x :: st, M) Q = XX X d 0 (734, L, .long x.toInt64 :: st, M) Q := G_sop rfl ⟨rfl, rfl, rfl, by decide⟩ rfl rfl
theorem x0_734 : XX X d 0 (734, L, .long y2 :: .long y :: st, M) Q = XX X d 0 (735, L, .int (lg_cmp y y2) :: st, M) Q := G_sop rfl ⟨rfl, rfl, rfl, by decide⟩ rfl rfl
theorem x0_735 (h : -2147483648 ≤ p ∧ p ≤ 2147483647) : XX X d 0 (735, L, .int (ii p) :: st, M) Q = bq (p = 0) X d 0 740 738 L st M Q := H_if rfl ⟨rfl, rfl, rfl, by decide⟩ rfl rfl rfl rfl (D_eq (b := 0) (by omega))
theorem x0_735b : XX X d 0 (735, L, .int (ii (b2i b)) :: st, M) Q = bq (b = false) X d 0 740 738 L st M Q := (x0_735 (b2i_r b)).trans (by rw [b2i_0])
theorem x0_738 : XX X d 0 (738, L, st, M) Q = XX X d 0 (739, L, .int (ii 0) :: st, M) Q := G_cst rfl rfl rfl rfl rfl
theorem x0_739 (h : bz p) : XX X d 0 (739, L, [.int (ii p)], M) Q = Q (.inl (some (.int (ii p)))) M := G_ret rfl ⟨⟨⟨rfl, rfl, rfl, by decide⟩, rfl, rfl⟩, rfl, rfl⟩ (bz_ok h)
theorem x0_740 : XX X d 0 (740, L, st, M) Q = XX X d 0 (2632, L, st, M) Q := H_jmp rfl (by decide) rfl
theorem x0_743 : XX X d 0 (743, [l0, some (.ref a), l2, l3, l4, l5, l6, l7, l8], st, M) Q = XX X d 0 (744, [l0, some (.ref a), l2, l3, l4, l5, l6, l7, l8], .ref a :: st, M) Q := H_ld rfl rfl rfl rfl rfl
theorem x0_744 : XX X d 0 (744, [l0, l1, l2, some (.ref a), l4, l5, l6, l7, l8], st, M) Q = XX X d 0 (745, [l0, l1, l2, some (.ref a), l4, l5, l6, l7, l8], .ref a :: st, M) Q := H_ld rfl rfl rfl rfl rfl
theorem x0_745 {v1 v2 : Value} (hd : 0 < d) (hs : stB st = true) : XX X d 0 (745, L, v2 :: v1 :: st, M) Q = CC X (d - 1) 242 [v1, v2] M (XC X d 0 745 748 L st Q) := H_static [v1, v2] rfl (by decide) rfl rfl (by decide) rfl rfl hd hs
theorem x0_748 (h : wide (some l5) = false) : XX X d 0 (748, [l0, l1, l2, l3, l4, l5, l6, l7, l8], .int x :: st, M) Q = XX X d 0 (750, [l0, l1, l2, l3, l4, l5, some (.int x), l7, l8], st, M) Q := H_st rfl rfl rfl rfl rfl rfl rfl rfl (Or.inr h)
theorem x0_750 : XX X d 0 (750, [l0, l1, some (.ref a), l3, l4, l5, l6, l7, l8], st, M) Q = XX X d 0 (751, [l0, l1, some (.ref a), l3, l4, l5, l6, l7, l8], .ref a :: st, M) Q := H_ld rfl rfl rfl rfl rfl
theorem x0_751 (hd : 0 < d) (hs : stB st = true) : XX X d 0 (751, L, .ref a :: st, M) Q = (mcl M a = some 9 ∧ CC X (d - 1) 186 [.ref a] M (XC X d 0 751 754 L st Q)) := H_virt [] rfl (by decide) rfl rfl rfl rfl rfl hd hs
theorem x0_754 (h : wide (some l6) = false) : XX X d 0 (754, [l0, l1, l2, l3, l4, l5, l6, l7, l8], .int x :: st, M) Q = XX X d 0 (756, [l0, l1, l2, l3, l4, l5, l6, some (.int x), l8], st, M) Q := H_st rfl rfl rfl rfl rfl rfl rfl rfl (Or.inr h)
theorem x0_756 : XX X d 0 (756, [l0, l1, some (.ref a), l3, l4, l5, l6, l7, l8], st, M) Q = XX X d 0 (757, [l0, l1, some (.ref a), l3, l4, l5, l6, l7, l8], .ref a :: st, M) Q := H_ld rfl rfl rfl rfl rfl
theorem x0_757 (hd : 0 < d) (hs : stB st = true) : XX X d 0 (757, L, .ref a :: st, M) Q = (mcl M a = some 9 ∧ CC X (d - 1) 143 [.ref a] M (XC X d 0 757 760 L st Q)) := H_virt [] rfl (by decide) rfl rfl rfl rfl rfl hd hs
theorem x0_760 : XX X d 0 (760, [l0, l1, l2, l3, l4, l5, some (.int x), l7, l8], st, M) Q = XX X d 0 (762, [l0, l1, l2, l3, l4, l5, some (.int x), l7, l8], .int x :: st, M) Q := H_ld rfl rfl rfl rfl rfl
theorem x0_762 (h : -2147483648 ≤ p ∧ p ≤ 2147483647 ∧ -2147483648 ≤ q ∧ q ≤ 2147483647) : XX X d 0 (762, L, .int (ii q) :: .int (ii p) :: st, M) Q = bq (p = q) X d 0 767 765 L st M Q := H_if2 rfl ⟨rfl, rfl, rfl, by decide⟩ rfl rfl rfl rfl (D_eq h)
theorem x0_765 : XX X d 0 (765, L, st, M) Q = XX X d 0 (766, L, .int (ii 0) :: st, M) Q := G_cst rfl rfl rfl rfl rfl
theorem x0_766 (h : bz p) : XX X d 0 (766, L, [.int (ii p)], M) Q = Q (.inl (some (.int (ii p)))) M := G_ret rfl ⟨⟨⟨rfl, rfl, rfl, by decide⟩, rfl, rfl⟩, rfl, rfl⟩ (bz_ok h)
theorem x0_767 : XX X d 0 (767, [l0, l1, l2, l3, l4, l5, some (.int x), l7, l8], st, M) Q = XX X d 0 (769, [l0, l1, l2, l3, l4, l5, some (.int x), l7, l8], .int x :: st, M) Q := H_ld rfl rfl rfl rfl rfl
theorem x0_769 (h : -2147483648 ≤ p ∧ p ≤ 2147483647) : XX X d 0 (769, L, .int (ii p) :: st, M) Q = bq (p ≠ 0) X d 0 784 772 L st M Q := H_if rfl ⟨rfl, rfl, rfl, by decide⟩ rfl rfl rfl rfl (D_ne (b := 0) (by omega))
theorem x0_769b : XX X d 0 (769, L, .int (ii (b2i b)) :: st, M) Q = bq (b = true) X d 0 784 772 L st M Q := (x0_769 (b2i_r b)).trans (by rw [b2i_n0])
theorem x0_772 : XX X d 0 (772, [l0, l1, l2, some (.ref a), l4, l5, l6, l7, l8], st, M) Q = XX X d 0 (773, [l0, l1, l2, some (.ref a), l4, l5, l6, l7, l8], .ref a :: st, M) Q := H_ld rfl rfl rfl rfl rfl
theorem x0_773 : XX X d 0 (773, L, st, M) Q = XX X d 0 (774, L, .int (ii 0) :: st, M) Q := G_cst rfl rfl rfl rfl rfl
theorem x0_774 : XX X d 0 (774, L, .int x :: .ref a :: st, M) Q = xa (M.2.2 a) (aldT .laload) x (fun v => XX X d 0 (775, L, v :: st, M) Q) := G_ald rfl ⟨⟨rfl, rfl, rfl, by decide⟩, rfl, rfl⟩ rfl rfl
theorem x0_775 : XX X d 0 (775, [l0, l1, l2, l3, l4, l5, l6, some (.int x), l8], st, M) Q = XX X d 0 (777, [l0, l1, l2, l3, l4, l5, l6, some (.int x), l8], .int x :: st, M) Q := H_ld rfl rfl rfl rfl rfl
theorem x0_777 : XX X d 0 (777, L, .int x :: st, M) Q = XX X d 0 (778, L, .long x.toInt64 :: st, M) Q := G_sop rfl ⟨rfl, rfl, rfl, by decide⟩ rfl rfl
theorem x0_778 : XX X d 0 (778, L, .long y2 :: .long y :: st, M) Q = XX X d 0 (779, L, .int (lg_cmp y y2) :: st, M) Q := G_sop rfl ⟨rfl, rfl, rfl, by decide⟩ rfl rfl
theorem x0_779 (h : -2147483648 ≤ p ∧ p ≤ 2147483647) : XX X d 0 (779, L, .int (ii p) :: st, M) Q = bq (p = 0) X d 0 784 782 L st M Q := H_if rfl ⟨rfl, rfl, rfl, by decide⟩ rfl rfl rfl rfl (D_eq (b := 0) (by omega))
theorem x0_779b : XX X d 0 (779, L, .int (ii (b2i b)) :: st, M) Q = bq (b = false) X d 0 784 782 L st M Q := (x0_779 (b2i_r b)).trans (by rw [b2i_0])
theorem x0_782 : XX X d 0 (782, L, st, M) Q = XX X d 0 (783, L, .int (ii 0) :: st, M) Q := G_cst rfl rfl rfl rfl rfl
theorem x0_783 (h : bz p) : XX X d 0 (783, L, [.int (ii p)], M) Q = Q (.inl (some (.int (ii p)))) M := G_ret rfl ⟨⟨⟨rfl, rfl, rfl, by decide⟩, rfl, rfl⟩, rfl, rfl⟩ (bz_ok h)
theorem x0_784 : XX X d 0 (784, L, st, M) Q = XX X d 0 (2632, L, st, M) Q := H_jmp rfl (by decide) rfl
theorem x0_787 : XX X d 0 (787, [l0, some (.ref a), l2, l3, l4, l5, l6, l7, l8], st, M) Q = XX X d 0 (788, [l0, some (.ref a), l2, l3, l4, l5, l6, l7, l8], .ref a :: st, M) Q := H_ld rfl rfl rfl rfl rfl
theorem x0_788 : XX X d 0 (788, [l0, l1, l2, some (.ref a), l4, l5, l6, l7, l8], st, M) Q = XX X d 0 (789, [l0, l1, l2, some (.ref a), l4, l5, l6, l7, l8], .ref a :: st, M) Q := H_ld rfl rfl rfl rfl rfl
theorem x0_789 {v1 v2 : Value} (hd : 0 < d) (hs : stB st = true) : XX X d 0 (789, L, v2 :: v1 :: st, M) Q = CC X (d - 1) 243 [v1, v2] M (XC X d 0 789 792 L st Q) := H_static [v1, v2] rfl (by decide) rfl rfl (by decide) rfl rfl hd hs
theorem x0_792 (h : wide (some l5) = false) : XX X d 0 (792, [l0, l1, l2, l3, l4, l5, l6, l7, l8], .int x :: st, M) Q = XX X d 0 (794, [l0, l1, l2, l3, l4, l5, some (.int x), l7, l8], st, M) Q := H_st rfl rfl rfl rfl rfl rfl rfl rfl (Or.inr h)
theorem x0_794 : XX X d 0 (794, [l0, l1, some (.ref a), l3, l4, l5, l6, l7, l8], st, M) Q = XX X d 0 (795, [l0, l1, some (.ref a), l3, l4, l5, l6, l7, l8], .ref a :: st, M) Q := H_ld rfl rfl rfl rfl rfl
theorem x0_795 (hd : 0 < d) (hs : stB st = true) : XX X d 0 (795, L, .ref a :: st, M) Q = (mcl M a = some 9 ∧ CC X (d - 1) 187 [.ref a] M (XC X d 0 795 798 L st Q)) := H_virt [] rfl (by decide) rfl rfl rfl rfl rfl hd hs
theorem x0_798 (h : wide (some l6) = false) : XX X d 0 (798, [l0, l1, l2, l3, l4, l5, l6, l7, l8], .int x :: st, M) Q = XX X d 0 (800, [l0, l1, l2, l3, l4, l5, l6, some (.int x), l8], st, M) Q := H_st rfl rfl rfl rfl rfl rfl rfl rfl (Or.inr h)
theorem x0_800 : XX X d 0 (800, [l0, l1, some (.ref a), l3, l4, l5, l6, l7, l8], st, M) Q = XX X d 0 (801, [l0, l1, some (.ref a), l3, l4, l5, l6, l7, l8], .ref a :: st, M) Q := H_ld rfl rfl rfl rfl rfl
theorem x0_801 (hd : 0 < d) (hs : stB st = true) : XX X d 0 (801, L, .ref a :: st, M) Q = (mcl M a = some 9 ∧ CC X (d - 1) 143 [.ref a] M (XC X d 0 801 804 L st Q)) := H_virt [] rfl (by decide) rfl rfl rfl rfl rfl hd hs
theorem x0_804 : XX X d 0 (804, [l0, l1, l2, l3, l4, l5, some (.int x), l7, l8], st, M) Q = XX X d 0 (806, [l0, l1, l2, l3, l4, l5, some (.int x), l7, l8], .int x :: st, M) Q := H_ld rfl rfl rfl rfl rfl
theorem x0_806 (h : -2147483648 ≤ p ∧ p ≤ 2147483647 ∧ -2147483648 ≤ q ∧ q ≤ 2147483647) : XX X d 0 (806, L, .int (ii q) :: .int (ii p) :: st, M) Q = bq (p = q) X d 0 811 809 L st M Q := H_if2 rfl ⟨rfl, rfl, rfl, by decide⟩ rfl rfl rfl rfl (D_eq h)
theorem x0_809 : XX X d 0 (809, L, st, M) Q = XX X d 0 (810, L, .int (ii 0) :: st, M) Q := G_cst rfl rfl rfl rfl rfl
theorem x0_810 (h : bz p) : XX X d 0 (810, L, [.int (ii p)], M) Q = Q (.inl (some (.int (ii p)))) M := G_ret rfl ⟨⟨⟨rfl, rfl, rfl, by decide⟩, rfl, rfl⟩, rfl, rfl⟩ (bz_ok h)
theorem x0_811 : XX X d 0 (811, [l0, l1, l2, l3, l4, l5, some (.int x), l7, l8], st, M) Q = XX X d 0 (813, [l0, l1, l2, l3, l4, l5, some (.int x), l7, l8], .int x :: st, M) Q := H_ld rfl rfl rfl rfl rfl
theorem x0_813 (h : -2147483648 ≤ p ∧ p ≤ 2147483647) : XX X d 0 (813, L, .int (ii p) :: st, M) Q = bq (p ≠ 0) X d 0 828 816 L st M Q := H_if rfl ⟨rfl, rfl, rfl, by decide⟩ rfl rfl rfl rfl (D_ne (b := 0) (by omega))
theorem x0_813b : XX X d 0 (813, L, .int (ii (b2i b)) :: st, M) Q = bq (b = true) X d 0 828 816 L st M Q := (x0_813 (b2i_r b)).trans (by rw [b2i_n0])
theorem x0_816 : XX X d 0 (816, [l0, l1, l2, some (.ref a), l4, l5, l6, l7, l8], st, M) Q = XX X d 0 (817, [l0, l1, l2, some (.ref a), l4, l5, l6, l7, l8], .ref a :: st, M) Q := H_ld rfl rfl rfl rfl rfl
theorem x0_817 : XX X d 0 (817, L, st, M) Q = XX X d 0 (818, L, .int (ii 0) :: st, M) Q := G_cst rfl rfl rfl rfl rfl
theorem x0_818 : XX X d 0 (818, L, .int x :: .ref a :: st, M) Q = xa (M.2.2 a) (aldT .laload) x (fun v => XX X d 0 (819, L, v :: st, M) Q) := G_ald rfl ⟨⟨rfl, rfl, rfl, by decide⟩, rfl, rfl⟩ rfl rfl
theorem x0_819 : XX X d 0 (819, [l0, l1, l2, l3, l4, l5, l6, some (.int x), l8], st, M) Q = XX X d 0 (821, [l0, l1, l2, l3, l4, l5, l6, some (.int x), l8], .int x :: st, M) Q := H_ld rfl rfl rfl rfl rfl
theorem x0_821 : XX X d 0 (821, L, .int x :: st, M) Q = XX X d 0 (822, L, .long x.toInt64 :: st, M) Q := G_sop rfl ⟨rfl, rfl, rfl, by decide⟩ rfl rfl
theorem x0_822 : XX X d 0 (822, L, .long y2 :: .long y :: st, M) Q = XX X d 0 (823, L, .int (lg_cmp y y2) :: st, M) Q := G_sop rfl ⟨rfl, rfl, rfl, by decide⟩ rfl rfl
theorem x0_823 (h : -2147483648 ≤ p ∧ p ≤ 2147483647) : XX X d 0 (823, L, .int (ii p) :: st, M) Q = bq (p = 0) X d 0 828 826 L st M Q := H_if rfl ⟨rfl, rfl, rfl, by decide⟩ rfl rfl rfl rfl (D_eq (b := 0) (by omega))
theorem x0_823b : XX X d 0 (823, L, .int (ii (b2i b)) :: st, M) Q = bq (b = false) X d 0 828 826 L st M Q := (x0_823 (b2i_r b)).trans (by rw [b2i_0])
theorem x0_826 : XX X d 0 (826, L, st, M) Q = XX X d 0 (827, L, .int (ii 0) :: st, M) Q := G_cst rfl rfl rfl rfl rfl
theorem x0_827 (h : bz p) : XX X d 0 (827, L, [.int (ii p)], M) Q = Q (.inl (some (.int (ii p)))) M := G_ret rfl ⟨⟨⟨rfl, rfl, rfl, by decide⟩, rfl, rfl⟩, rfl, rfl⟩ (bz_ok h)
theorem x0_828 : XX X d 0 (828, L, st, M) Q = XX X d 0 (2632, L, st, M) Q := H_jmp rfl (by decide) rfl
theorem x0_831 : XX X d 0 (831, [l0, some (.ref a), l2, l3, l4, l5, l6, l7, l8], st, M) Q = XX X d 0 (832, [l0, some (.ref a), l2, l3, l4, l5, l6, l7, l8], .ref a :: st, M) Q := H_ld rfl rfl rfl rfl rfl
theorem x0_832 : XX X d 0 (832, [some (.ref a), l1, l2, l3, l4, l5, l6, l7, l8], st, M) Q = XX X d 0 (833, [some (.ref a), l1, l2, l3, l4, l5, l6, l7, l8], .ref a :: st, M) Q := H_ld rfl rfl rfl rfl rfl
theorem x0_833 : XX X d 0 (833, [l0, l1, l2, l3, l4, some (.int x), l6, l7, l8], st, M) Q = XX X d 0 (835, [l0, l1, l2, l3, l4, some (.int x), l6, l7, l8], .int x :: st, M) Q := H_ld rfl rfl rfl rfl rfl
theorem x0_835 : XX X d 0 (835, L, st, M) Q = XX X d 0 (836, L, .int (ii 1) :: st, M) Q := G_cst rfl rfl rfl rfl rfl
theorem x0_836 : XX X d 0 (836, L, .int (ii q) :: .int (ii p) :: st, M) Q = XX X d 0 (837, L, .int (ii (p + q)) :: st, M) Q := H_add rfl (by decide) rfl
theorem x0_837 (h : a = X.1 ∧ ¬ (x < 0 ∨ X.2.1 ≤ x.toNatClampNeg)) : XX X d 0 (837, L, .int x :: .ref a :: st, M) Q = XX X d 0 (838, L, .int (X.2.2 x.toNatClampNeg) :: st, M) Q := G_scr rfl rfl rfl rfl rfl (if_pos h)
theorem x0_838 : XX X d 0 (838, L, .int x :: st, M) Q = XX X d 0 (839, L, .int (x.toUInt32 % 65536).toInt32 :: st, M) Q := G_sop rfl ⟨rfl, rfl, rfl, by decide⟩ rfl rfl
theorem x0_839 : XX X d 0 (839, [l0, l1, l2, some (.ref a), l4, l5, l6, l7, l8], st, M) Q = XX X d 0 (840, [l0, l1, l2, some (.ref a), l4, l5, l6, l7, l8], .ref a :: st, M) Q := H_ld rfl rfl rfl rfl rfl
theorem x0_840 {v1 v2 v3 : Value} (hd : 0 < d) (hs : stB st = true) : XX X d 0 (840, L, v3 :: v2 :: v1 :: st, M) Q = CC X (d - 1) 244 [v1, v2, v3] M (XC X d 0 840 843 L st Q) := H_static [v1, v2, v3] rfl (by decide) rfl rfl (by decide) rfl rfl hd hs
theorem x0_843 (h : wide (some l5) = false) : XX X d 0 (843, [l0, l1, l2, l3, l4, l5, l6, l7, l8], .int x :: st, M) Q = XX X d 0 (845, [l0, l1, l2, l3, l4, l5, some (.int x), l7, l8], st, M) Q := H_st rfl rfl rfl rfl rfl rfl rfl rfl (Or.inr h)
theorem x0_845 : XX X d 0 (845, [l0, l1, some (.ref a), l3, l4, l5, l6, l7, l8], st, M) Q = XX X d 0 (846, [l0, l1, some (.ref a), l3, l4, l5, l6, l7, l8], .ref a :: st, M) Q := H_ld rfl rfl rfl rfl rfl
theorem x0_846 : XX X d 0 (846, [some (.ref a), l1, l2, l3, l4, l5, l6, l7, l8], st, M) Q = XX X d 0 (847, [some (.ref a), l1, l2, l3, l4, l5, l6, l7, l8], .ref a :: st, M) Q := H_ld rfl rfl rfl rfl rfl
theorem x0_847 : XX X d 0 (847, [l0, l1, l2, l3, l4, some (.int x), l6, l7, l8], st, M) Q = XX X d 0 (849, [l0, l1, l2, l3, l4, some (.int x), l6, l7, l8], .int x :: st, M) Q := H_ld rfl rfl rfl rfl rfl
theorem x0_849 : XX X d 0 (849, L, st, M) Q = XX X d 0 (850, L, .int (ii 1) :: st, M) Q := G_cst rfl rfl rfl rfl rfl
theorem x0_850 : XX X d 0 (850, L, .int (ii q) :: .int (ii p) :: st, M) Q = XX X d 0 (851, L, .int (ii (p + q)) :: st, M) Q := H_add rfl (by decide) rfl
theorem x0_851 (h : a = X.1 ∧ ¬ (x < 0 ∨ X.2.1 ≤ x.toNatClampNeg)) : XX X d 0 (851, L, .int x :: .ref a :: st, M) Q = XX X d 0 (852, L, .int (X.2.2 x.toNatClampNeg) :: st, M) Q := G_scr rfl rfl rfl rfl rfl (if_pos h)
theorem x0_852 : XX X d 0 (852, L, .int x :: st, M) Q = XX X d 0 (853, L, .int (x.toUInt32 % 65536).toInt32 :: st, M) Q := G_sop rfl ⟨rfl, rfl, rfl, by decide⟩ rfl rfl
theorem x0_853 {v1 : Value} (hd : 0 < d) (hs : stB st = true) : XX X d 0 (853, L, v1 :: .ref a :: st, M) Q = (mcl M a = some 9 ∧ CC X (d - 1) 189 [.ref a, v1] M (XC X d 0 853 856 L st Q)) := H_virt [v1] rfl (by decide) rfl rfl rfl rfl rfl hd hs
theorem x0_856 (h : wide (some l6) = false) : XX X d 0 (856, [l0, l1, l2, l3, l4, l5, l6, l7, l8], .int x :: st, M) Q = XX X d 0 (858, [l0, l1, l2, l3, l4, l5, l6, some (.int x), l8], st, M) Q := H_st rfl rfl rfl rfl rfl rfl rfl rfl (Or.inr h)
theorem x0_858 : XX X d 0 (858, [l0, l1, some (.ref a), l3, l4, l5, l6, l7, l8], st, M) Q = XX X d 0 (859, [l0, l1, some (.ref a), l3, l4, l5, l6, l7, l8], .ref a :: st, M) Q := H_ld rfl rfl rfl rfl rfl
theorem x0_859 (hd : 0 < d) (hs : stB st = true) : XX X d 0 (859, L, .ref a :: st, M) Q = (mcl M a = some 9 ∧ CC X (d - 1) 143 [.ref a] M (XC X d 0 859 862 L st Q)) := H_virt [] rfl (by decide) rfl rfl rfl rfl rfl hd hs
theorem x0_862 : XX X d 0 (862, [l0, l1, l2, l3, l4, l5, some (.int x), l7, l8], st, M) Q = XX X d 0 (864, [l0, l1, l2, l3, l4, l5, some (.int x), l7, l8], .int x :: st, M) Q := H_ld rfl rfl rfl rfl rfl
theorem x0_864 (h : -2147483648 ≤ p ∧ p ≤ 2147483647 ∧ -2147483648 ≤ q ∧ q ≤ 2147483647) : XX X d 0 (864, L, .int (ii q) :: .int (ii p) :: st, M) Q = bq (p = q) X d 0 869 867 L st M Q := H_if2 rfl ⟨rfl, rfl, rfl, by decide⟩ rfl rfl rfl rfl (D_eq h)
theorem x0_867 : XX X d 0 (867, L, st, M) Q = XX X d 0 (868, L, .int (ii 0) :: st, M) Q := G_cst rfl rfl rfl rfl rfl
theorem x0_868 (h : bz p) : XX X d 0 (868, L, [.int (ii p)], M) Q = Q (.inl (some (.int (ii p)))) M := G_ret rfl ⟨⟨⟨rfl, rfl, rfl, by decide⟩, rfl, rfl⟩, rfl, rfl⟩ (bz_ok h)
theorem x0_869 : XX X d 0 (869, [l0, l1, l2, l3, l4, l5, some (.int x), l7, l8], st, M) Q = XX X d 0 (871, [l0, l1, l2, l3, l4, l5, some (.int x), l7, l8], .int x :: st, M) Q := H_ld rfl rfl rfl rfl rfl
theorem x0_871 (h : -2147483648 ≤ p ∧ p ≤ 2147483647) : XX X d 0 (871, L, .int (ii p) :: st, M) Q = bq (p ≠ 0) X d 0 886 874 L st M Q := H_if rfl ⟨rfl, rfl, rfl, by decide⟩ rfl rfl rfl rfl (D_ne (b := 0) (by omega))
theorem x0_871b : XX X d 0 (871, L, .int (ii (b2i b)) :: st, M) Q = bq (b = true) X d 0 886 874 L st M Q := (x0_871 (b2i_r b)).trans (by rw [b2i_n0])
theorem x0_874 : XX X d 0 (874, [l0, l1, l2, some (.ref a), l4, l5, l6, l7, l8], st, M) Q = XX X d 0 (875, [l0, l1, l2, some (.ref a), l4, l5, l6, l7, l8], .ref a :: st, M) Q := H_ld rfl rfl rfl rfl rfl
theorem x0_875 : XX X d 0 (875, L, st, M) Q = XX X d 0 (876, L, .int (ii 0) :: st, M) Q := G_cst rfl rfl rfl rfl rfl
theorem x0_876 : XX X d 0 (876, L, .int x :: .ref a :: st, M) Q = xa (M.2.2 a) (aldT .laload) x (fun v => XX X d 0 (877, L, v :: st, M) Q) := G_ald rfl ⟨⟨rfl, rfl, rfl, by decide⟩, rfl, rfl⟩ rfl rfl
theorem x0_877 : XX X d 0 (877, [l0, l1, l2, l3, l4, l5, l6, some (.int x), l8], st, M) Q = XX X d 0 (879, [l0, l1, l2, l3, l4, l5, l6, some (.int x), l8], .int x :: st, M) Q := H_ld rfl rfl rfl rfl rfl
theorem x0_879 : XX X d 0 (879, L, .int x :: st, M) Q = XX X d 0 (880, L, .long x.toInt64 :: st, M) Q := G_sop rfl ⟨rfl, rfl, rfl, by decide⟩ rfl rfl
theorem x0_880 : XX X d 0 (880, L, .long y2 :: .long y :: st, M) Q = XX X d 0 (881, L, .int (lg_cmp y y2) :: st, M) Q := G_sop rfl ⟨rfl, rfl, rfl, by decide⟩ rfl rfl
theorem x0_881 (h : -2147483648 ≤ p ∧ p ≤ 2147483647) : XX X d 0 (881, L, .int (ii p) :: st, M) Q = bq (p = 0) X d 0 886 884 L st M Q := H_if rfl ⟨rfl, rfl, rfl, by decide⟩ rfl rfl rfl rfl (D_eq (b := 0) (by omega))
theorem x0_881b : XX X d 0 (881, L, .int (ii (b2i b)) :: st, M) Q = bq (b = false) X d 0 886 884 L st M Q := (x0_881 (b2i_r b)).trans (by rw [b2i_0])
theorem x0_884 : XX X d 0 (884, L, st, M) Q = XX X d 0 (885, L, .int (ii 0) :: st, M) Q := G_cst rfl rfl rfl rfl rfl
theorem x0_885 (h : bz p) : XX X d 0 (885, L, [.int (ii p)], M) Q = Q (.inl (some (.int (ii p)))) M := G_ret rfl ⟨⟨⟨rfl, rfl, rfl, by decide⟩, rfl, rfl⟩, rfl, rfl⟩ (bz_ok h)
theorem x0_886 : XX X d 0 (886, L, st, M) Q = XX X d 0 (2632, L, st, M) Q := H_jmp rfl (by decide) rfl
theorem x0_889 : XX X d 0 (889, [l0, some (.ref a), l2, l3, l4, l5, l6, l7, l8], st, M) Q = XX X d 0 (890, [l0, some (.ref a), l2, l3, l4, l5, l6, l7, l8], .ref a :: st, M) Q := H_ld rfl rfl rfl rfl rfl
theorem x0_890 (hd : 0 < d) (hs : stB st = true) : XX X d 0 (890, L, .ref a :: st, M) Q = (mcl M a = some 8 ∧ CC X (d - 1) 92 [.ref a] M (XC X d 0 890 893 L st Q)) := H_virt [] rfl (by decide) rfl rfl rfl rfl rfl hd hs
theorem x0_893 : XX X d 0 (893, [l0, l1, some (.ref a), l3, l4, l5, l6, l7, l8], st, M) Q = XX X d 0 (894, [l0, l1, some (.ref a), l3, l4, l5, l6, l7, l8], .ref a :: st, M) Q := H_ld rfl rfl rfl rfl rfl
theorem x0_894 (hd : 0 < d) (hs : stB st = true) : XX X d 0 (894, L, .ref a :: st, M) Q = (mcl M a = some 9 ∧ CC X (d - 1) 190 [.ref a] M (XC X d 0 894 897 L st Q)) := H_virt [] rfl (by decide) rfl rfl rfl rfl rfl hd hs
theorem x0_897 (h : -2147483648 ≤ p ∧ p ≤ 2147483647 ∧ -2147483648 ≤ q ∧ q ≤ 2147483647) : XX X d 0 (897, L, .int (ii q) :: .int (ii p) :: st, M) Q = bq (p = q) X d 0 2632 900 L st M Q := H_if2 rfl ⟨rfl, rfl, rfl, by decide⟩ rfl rfl rfl rfl (D_eq h)
theorem x0_900 : XX X d 0 (900, L, st, M) Q = XX X d 0 (901, L, .int (ii 0) :: st, M) Q := G_cst rfl rfl rfl rfl rfl
theorem x0_901 (h : bz p) : XX X d 0 (901, L, [.int (ii p)], M) Q = Q (.inl (some (.int (ii p)))) M := G_ret rfl ⟨⟨⟨rfl, rfl, rfl, by decide⟩, rfl, rfl⟩, rfl, rfl⟩ (bz_ok h)
theorem x0_902 : XX X d 0 (902, [l0, some (.ref a), l2, l3, l4, l5, l6, l7, l8], st, M) Q = XX X d 0 (903, [l0, some (.ref a), l2, l3, l4, l5, l6, l7, l8], .ref a :: st, M) Q := H_ld rfl rfl rfl rfl rfl
theorem x0_903 : XX X d 0 (903, [some (.ref a), l1, l2, l3, l4, l5, l6, l7, l8], st, M) Q = XX X d 0 (904, [some (.ref a), l1, l2, l3, l4, l5, l6, l7, l8], .ref a :: st, M) Q := H_ld rfl rfl rfl rfl rfl
theorem x0_904 : XX X d 0 (904, [l0, l1, l2, l3, l4, some (.int x), l6, l7, l8], st, M) Q = XX X d 0 (906, [l0, l1, l2, l3, l4, some (.int x), l6, l7, l8], .int x :: st, M) Q := H_ld rfl rfl rfl rfl rfl
theorem x0_906 : XX X d 0 (906, L, st, M) Q = XX X d 0 (907, L, .int (ii 1) :: st, M) Q := G_cst rfl rfl rfl rfl rfl
theorem x0_907 : XX X d 0 (907, L, .int (ii q) :: .int (ii p) :: st, M) Q = XX X d 0 (908, L, .int (ii (p + q)) :: st, M) Q := H_add rfl (by decide) rfl
theorem x0_908 (h : a = X.1 ∧ ¬ (x < 0 ∨ X.2.1 ≤ x.toNatClampNeg)) : XX X d 0 (908, L, .int x :: .ref a :: st, M) Q = XX X d 0 (909, L, .int (X.2.2 x.toNatClampNeg) :: st, M) Q := G_scr rfl rfl rfl rfl rfl (if_pos h)
theorem x0_909 : XX X d 0 (909, [l0, l1, l2, some (.ref a), l4, l5, l6, l7, l8], st, M) Q = XX X d 0 (910, [l0, l1, l2, some (.ref a), l4, l5, l6, l7, l8], .ref a :: st, M) Q := H_ld rfl rfl rfl rfl rfl
theorem x0_910 {v1 v2 v3 : Value} (hd : 0 < d) (hs : stB st = true) : XX X d 0 (910, L, v3 :: v2 :: v1 :: st, M) Q = CC X (d - 1) 245 [v1, v2, v3] M (XC X d 0 910 913 L st Q) := H_static [v1, v2, v3] rfl (by decide) rfl rfl (by decide) rfl rfl hd hs
theorem x0_913 (h : wide (some l5) = false) : XX X d 0 (913, [l0, l1, l2, l3, l4, l5, l6, l7, l8], .int x :: st, M) Q = XX X d 0 (915, [l0, l1, l2, l3, l4, l5, some (.int x), l7, l8], st, M) Q := H_st rfl rfl rfl rfl rfl rfl rfl rfl (Or.inr h)
theorem x0_915 : XX X d 0 (915, [l0, l1, some (.ref a), l3, l4, l5, l6, l7, l8], st, M) Q = XX X d 0 (916, [l0, l1, some (.ref a), l3, l4, l5, l6, l7, l8], .ref a :: st, M) Q := H_ld rfl rfl rfl rfl rfl
theorem x0_916 : XX X d 0 (916, [some (.ref a), l1, l2, l3, l4, l5, l6, l7, l8], st, M) Q = XX X d 0 (917, [some (.ref a), l1, l2, l3, l4, l5, l6, l7, l8], .ref a :: st, M) Q := H_ld rfl rfl rfl rfl rfl
theorem x0_917 : XX X d 0 (917, [l0, l1, l2, l3, l4, some (.int x), l6, l7, l8], st, M) Q = XX X d 0 (919, [l0, l1, l2, l3, l4, some (.int x), l6, l7, l8], .int x :: st, M) Q := H_ld rfl rfl rfl rfl rfl
theorem x0_919 : XX X d 0 (919, L, st, M) Q = XX X d 0 (920, L, .int (ii 1) :: st, M) Q := G_cst rfl rfl rfl rfl rfl
theorem x0_920 : XX X d 0 (920, L, .int (ii q) :: .int (ii p) :: st, M) Q = XX X d 0 (921, L, .int (ii (p + q)) :: st, M) Q := H_add rfl (by decide) rfl
theorem x0_921 (h : a = X.1 ∧ ¬ (x < 0 ∨ X.2.1 ≤ x.toNatClampNeg)) : XX X d 0 (921, L, .int x :: .ref a :: st, M) Q = XX X d 0 (922, L, .int (X.2.2 x.toNatClampNeg) :: st, M) Q := G_scr rfl rfl rfl rfl rfl (if_pos h)
theorem x0_922 {v1 : Value} (hd : 0 < d) (hs : stB st = true) : XX X d 0 (922, L, v1 :: .ref a :: st, M) Q = (mcl M a = some 9 ∧ CC X (d - 1) 191 [.ref a, v1] M (XC X d 0 922 925 L st Q)) := H_virt [v1] rfl (by decide) rfl rfl rfl rfl rfl hd hs
theorem x0_925 (h : wide (some l6) = false) : XX X d 0 (925, [l0, l1, l2, l3, l4, l5, l6, l7, l8], .int x :: st, M) Q = XX X d 0 (927, [l0, l1, l2, l3, l4, l5, l6, some (.int x), l8], st, M) Q := H_st rfl rfl rfl rfl rfl rfl rfl rfl (Or.inr h)
theorem x0_927 : XX X d 0 (927, [l0, l1, some (.ref a), l3, l4, l5, l6, l7, l8], st, M) Q = XX X d 0 (928, [l0, l1, some (.ref a), l3, l4, l5, l6, l7, l8], .ref a :: st, M) Q := H_ld rfl rfl rfl rfl rfl
theorem x0_928 (hd : 0 < d) (hs : stB st = true) : XX X d 0 (928, L, .ref a :: st, M) Q = (mcl M a = some 9 ∧ CC X (d - 1) 143 [.ref a] M (XC X d 0 928 931 L st Q)) := H_virt [] rfl (by decide) rfl rfl rfl rfl rfl hd hs
theorem x0_931 : XX X d 0 (931, [l0, l1, l2, l3, l4, l5, some (.int x), l7, l8], st, M) Q = XX X d 0 (933, [l0, l1, l2, l3, l4, l5, some (.int x), l7, l8], .int x :: st, M) Q := H_ld rfl rfl rfl rfl rfl
theorem x0_933 (h : -2147483648 ≤ p ∧ p ≤ 2147483647 ∧ -2147483648 ≤ q ∧ q ≤ 2147483647) : XX X d 0 (933, L, .int (ii q) :: .int (ii p) :: st, M) Q = bq (p = q) X d 0 938 936 L st M Q := H_if2 rfl ⟨rfl, rfl, rfl, by decide⟩ rfl rfl rfl rfl (D_eq h)
theorem x0_936 : XX X d 0 (936, L, st, M) Q = XX X d 0 (937, L, .int (ii 0) :: st, M) Q := G_cst rfl rfl rfl rfl rfl
theorem x0_937 (h : bz p) : XX X d 0 (937, L, [.int (ii p)], M) Q = Q (.inl (some (.int (ii p)))) M := G_ret rfl ⟨⟨⟨rfl, rfl, rfl, by decide⟩, rfl, rfl⟩, rfl, rfl⟩ (bz_ok h)
theorem x0_938 : XX X d 0 (938, [l0, l1, l2, l3, l4, l5, some (.int x), l7, l8], st, M) Q = XX X d 0 (940, [l0, l1, l2, l3, l4, l5, some (.int x), l7, l8], .int x :: st, M) Q := H_ld rfl rfl rfl rfl rfl
theorem x0_940 (h : -2147483648 ≤ p ∧ p ≤ 2147483647) : XX X d 0 (940, L, .int (ii p) :: st, M) Q = bq (p ≠ 0) X d 0 955 943 L st M Q := H_if rfl ⟨rfl, rfl, rfl, by decide⟩ rfl rfl rfl rfl (D_ne (b := 0) (by omega))
theorem x0_940b : XX X d 0 (940, L, .int (ii (b2i b)) :: st, M) Q = bq (b = true) X d 0 955 943 L st M Q := (x0_940 (b2i_r b)).trans (by rw [b2i_n0])
theorem x0_943 : XX X d 0 (943, [l0, l1, l2, some (.ref a), l4, l5, l6, l7, l8], st, M) Q = XX X d 0 (944, [l0, l1, l2, some (.ref a), l4, l5, l6, l7, l8], .ref a :: st, M) Q := H_ld rfl rfl rfl rfl rfl
theorem x0_944 : XX X d 0 (944, L, st, M) Q = XX X d 0 (945, L, .int (ii 0) :: st, M) Q := G_cst rfl rfl rfl rfl rfl
theorem x0_945 : XX X d 0 (945, L, .int x :: .ref a :: st, M) Q = xa (M.2.2 a) (aldT .laload) x (fun v => XX X d 0 (946, L, v :: st, M) Q) := G_ald rfl ⟨⟨rfl, rfl, rfl, by decide⟩, rfl, rfl⟩ rfl rfl
theorem x0_946 : XX X d 0 (946, [l0, l1, l2, l3, l4, l5, l6, some (.int x), l8], st, M) Q = XX X d 0 (948, [l0, l1, l2, l3, l4, l5, l6, some (.int x), l8], .int x :: st, M) Q := H_ld rfl rfl rfl rfl rfl
theorem x0_948 : XX X d 0 (948, L, .int x :: st, M) Q = XX X d 0 (949, L, .long x.toInt64 :: st, M) Q := G_sop rfl ⟨rfl, rfl, rfl, by decide⟩ rfl rfl
theorem x0_949 : XX X d 0 (949, L, .long y2 :: .long y :: st, M) Q = XX X d 0 (950, L, .int (lg_cmp y y2) :: st, M) Q := G_sop rfl ⟨rfl, rfl, rfl, by decide⟩ rfl rfl
theorem x0_950 (h : -2147483648 ≤ p ∧ p ≤ 2147483647) : XX X d 0 (950, L, .int (ii p) :: st, M) Q = bq (p = 0) X d 0 955 953 L st M Q := H_if rfl ⟨rfl, rfl, rfl, by decide⟩ rfl rfl rfl rfl (D_eq (b := 0) (by omega))
theorem x0_950b : XX X d 0 (950, L, .int (ii (b2i b)) :: st, M) Q = bq (b = false) X d 0 955 953 L st M Q := (x0_950 (b2i_r b)).trans (by rw [b2i_0])
theorem x0_953 : XX X d 0 (953, L, st, M) Q = XX X d 0 (954, L, .int (ii 0) :: st, M) Q := G_cst rfl rfl rfl rfl rfl
theorem x0_954 (h : bz p) : XX X d 0 (954, L, [.int (ii p)], M) Q = Q (.inl (some (.int (ii p)))) M := G_ret rfl ⟨⟨⟨rfl, rfl, rfl, by decide⟩, rfl, rfl⟩, rfl, rfl⟩ (bz_ok h)
theorem x0_955 : XX X d 0 (955, L, st, M) Q = XX X d 0 (2632, L, st, M) Q := H_jmp rfl (by decide) rfl
theorem x0_958 : XX X d 0 (958, [l0, some (.ref a), l2, l3, l4, l5, l6, l7, l8], st, M) Q = XX X d 0 (959, [l0, some (.ref a), l2, l3, l4, l5, l6, l7, l8], .ref a :: st, M) Q := H_ld rfl rfl rfl rfl rfl
theorem x0_959 : XX X d 0 (959, [some (.ref a), l1, l2, l3, l4, l5, l6, l7, l8], st, M) Q = XX X d 0 (960, [some (.ref a), l1, l2, l3, l4, l5, l6, l7, l8], .ref a :: st, M) Q := H_ld rfl rfl rfl rfl rfl
theorem x0_960 : XX X d 0 (960, [l0, l1, l2, l3, l4, some (.int x), l6, l7, l8], st, M) Q = XX X d 0 (962, [l0, l1, l2, l3, l4, some (.int x), l6, l7, l8], .int x :: st, M) Q := H_ld rfl rfl rfl rfl rfl
theorem x0_962 : XX X d 0 (962, L, st, M) Q = XX X d 0 (963, L, .int (ii 1) :: st, M) Q := G_cst rfl rfl rfl rfl rfl
theorem x0_963 : XX X d 0 (963, L, .int (ii q) :: .int (ii p) :: st, M) Q = XX X d 0 (964, L, .int (ii (p + q)) :: st, M) Q := H_add rfl (by decide) rfl
theorem x0_964 (h : a = X.1 ∧ ¬ (x < 0 ∨ X.2.1 ≤ x.toNatClampNeg)) : XX X d 0 (964, L, .int x :: .ref a :: st, M) Q = XX X d 0 (965, L, .int (X.2.2 x.toNatClampNeg) :: st, M) Q := G_scr rfl rfl rfl rfl rfl (if_pos h)
theorem x0_965 : XX X d 0 (965, [some (.ref a), l1, l2, l3, l4, l5, l6, l7, l8], st, M) Q = XX X d 0 (966, [some (.ref a), l1, l2, l3, l4, l5, l6, l7, l8], .ref a :: st, M) Q := H_ld rfl rfl rfl rfl rfl
theorem x0_966 : XX X d 0 (966, [l0, l1, l2, l3, l4, some (.int x), l6, l7, l8], st, M) Q = XX X d 0 (968, [l0, l1, l2, l3, l4, some (.int x), l6, l7, l8], .int x :: st, M) Q := H_ld rfl rfl rfl rfl rfl
theorem x0_968 : XX X d 0 (968, L, st, M) Q = XX X d 0 (969, L, .int (ii 2) :: st, M) Q := G_cst rfl rfl rfl rfl rfl
theorem x0_969 : XX X d 0 (969, L, .int (ii q) :: .int (ii p) :: st, M) Q = XX X d 0 (970, L, .int (ii (p + q)) :: st, M) Q := H_add rfl (by decide) rfl
theorem x0_970 (h : a = X.1 ∧ ¬ (x < 0 ∨ X.2.1 ≤ x.toNatClampNeg)) : XX X d 0 (970, L, .int x :: .ref a :: st, M) Q = XX X d 0 (971, L, .int (X.2.2 x.toNatClampNeg) :: st, M) Q := G_scr rfl rfl rfl rfl rfl (if_pos h)
theorem x0_971 : XX X d 0 (971, [l0, l1, l2, some (.ref a), l4, l5, l6, l7, l8], st, M) Q = XX X d 0 (972, [l0, l1, l2, some (.ref a), l4, l5, l6, l7, l8], .ref a :: st, M) Q := H_ld rfl rfl rfl rfl rfl
theorem x0_972 {v1 v2 v3 v4 : Value} (hd : 0 < d) (hs : stB st = true) : XX X d 0 (972, L, v4 :: v3 :: v2 :: v1 :: st, M) Q = CC X (d - 1) 246 [v1, v2, v3, v4] M (XC X d 0 972 975 L st Q) := H_static [v1, v2, v3, v4] rfl (by decide) rfl rfl (by decide) rfl rfl hd hs
theorem x0_975 (h : wide (some l5) = false) : XX X d 0 (975, [l0, l1, l2, l3, l4, l5, l6, l7, l8], .int x :: st, M) Q = XX X d 0 (977, [l0, l1, l2, l3, l4, l5, some (.int x), l7, l8], st, M) Q := H_st rfl rfl rfl rfl rfl rfl rfl rfl (Or.inr h)
theorem x0_977 : XX X d 0 (977, [l0, l1, some (.ref a), l3, l4, l5, l6, l7, l8], st, M) Q = XX X d 0 (978, [l0, l1, some (.ref a), l3, l4, l5, l6, l7, l8], .ref a :: st, M) Q := H_ld rfl rfl rfl rfl rfl
theorem x0_978 : XX X d 0 (978, [some (.ref a), l1, l2, l3, l4, l5, l6, l7, l8], st, M) Q = XX X d 0 (979, [some (.ref a), l1, l2, l3, l4, l5, l6, l7, l8], .ref a :: st, M) Q := H_ld rfl rfl rfl rfl rfl
theorem x0_979 : XX X d 0 (979, [l0, l1, l2, l3, l4, some (.int x), l6, l7, l8], st, M) Q = XX X d 0 (981, [l0, l1, l2, l3, l4, some (.int x), l6, l7, l8], .int x :: st, M) Q := H_ld rfl rfl rfl rfl rfl
theorem x0_981 : XX X d 0 (981, L, st, M) Q = XX X d 0 (982, L, .int (ii 1) :: st, M) Q := G_cst rfl rfl rfl rfl rfl
theorem x0_982 : XX X d 0 (982, L, .int (ii q) :: .int (ii p) :: st, M) Q = XX X d 0 (983, L, .int (ii (p + q)) :: st, M) Q := H_add rfl (by decide) rfl
theorem x0_983 (h : a = X.1 ∧ ¬ (x < 0 ∨ X.2.1 ≤ x.toNatClampNeg)) : XX X d 0 (983, L, .int x :: .ref a :: st, M) Q = XX X d 0 (984, L, .int (X.2.2 x.toNatClampNeg) :: st, M) Q := G_scr rfl rfl rfl rfl rfl (if_pos h)
theorem x0_984 : XX X d 0 (984, [some (.ref a), l1, l2, l3, l4, l5, l6, l7, l8], st, M) Q = XX X d 0 (985, [some (.ref a), l1, l2, l3, l4, l5, l6, l7, l8], .ref a :: st, M) Q := H_ld rfl rfl rfl rfl rfl
theorem x0_985 : XX X d 0 (985, [l0, l1, l2, l3, l4, some (.int x), l6, l7, l8], st, M) Q = XX X d 0 (987, [l0, l1, l2, l3, l4, some (.int x), l6, l7, l8], .int x :: st, M) Q := H_ld rfl rfl rfl rfl rfl
theorem x0_987 : XX X d 0 (987, L, st, M) Q = XX X d 0 (988, L, .int (ii 2) :: st, M) Q := G_cst rfl rfl rfl rfl rfl
theorem x0_988 : XX X d 0 (988, L, .int (ii q) :: .int (ii p) :: st, M) Q = XX X d 0 (989, L, .int (ii (p + q)) :: st, M) Q := H_add rfl (by decide) rfl
theorem x0_989 (h : a = X.1 ∧ ¬ (x < 0 ∨ X.2.1 ≤ x.toNatClampNeg)) : XX X d 0 (989, L, .int x :: .ref a :: st, M) Q = XX X d 0 (990, L, .int (X.2.2 x.toNatClampNeg) :: st, M) Q := G_scr rfl rfl rfl rfl rfl (if_pos h)
theorem x0_990 {v1 v2 : Value} (hd : 0 < d) (hs : stB st = true) : XX X d 0 (990, L, v2 :: v1 :: .ref a :: st, M) Q = (mcl M a = some 9 ∧ CC X (d - 1) 192 [.ref a, v1, v2] M (XC X d 0 990 993 L st Q)) := H_virt [v1, v2] rfl (by decide) rfl rfl rfl rfl rfl hd hs
theorem x0_993 (h : wide (some l6) = false) : XX X d 0 (993, [l0, l1, l2, l3, l4, l5, l6, l7, l8], .int x :: st, M) Q = XX X d 0 (995, [l0, l1, l2, l3, l4, l5, l6, some (.int x), l8], st, M) Q := H_st rfl rfl rfl rfl rfl rfl rfl rfl (Or.inr h)
theorem x0_995 : XX X d 0 (995, [l0, l1, some (.ref a), l3, l4, l5, l6, l7, l8], st, M) Q = XX X d 0 (996, [l0, l1, some (.ref a), l3, l4, l5, l6, l7, l8], .ref a :: st, M) Q := H_ld rfl rfl rfl rfl rfl
theorem x0_996 (hd : 0 < d) (hs : stB st = true) : XX X d 0 (996, L, .ref a :: st, M) Q = (mcl M a = some 9 ∧ CC X (d - 1) 143 [.ref a] M (XC X d 0 996 999 L st Q)) := H_virt [] rfl (by decide) rfl rfl rfl rfl rfl hd hs
theorem x0_999 : XX X d 0 (999, [l0, l1, l2, l3, l4, l5, some (.int x), l7, l8], st, M) Q = XX X d 0 (1001, [l0, l1, l2, l3, l4, l5, some (.int x), l7, l8], .int x :: st, M) Q := H_ld rfl rfl rfl rfl rfl
theorem x0_1001 (h : -2147483648 ≤ p ∧ p ≤ 2147483647 ∧ -2147483648 ≤ q ∧ q ≤ 2147483647) : XX X d 0 (1001, L, .int (ii q) :: .int (ii p) :: st, M) Q = bq (p = q) X d 0 1006 1004 L st M Q := H_if2 rfl ⟨rfl, rfl, rfl, by decide⟩ rfl rfl rfl rfl (D_eq h)
theorem x0_1004 : XX X d 0 (1004, L, st, M) Q = XX X d 0 (1005, L, .int (ii 0) :: st, M) Q := G_cst rfl rfl rfl rfl rfl
theorem x0_1005 (h : bz p) : XX X d 0 (1005, L, [.int (ii p)], M) Q = Q (.inl (some (.int (ii p)))) M := G_ret rfl ⟨⟨⟨rfl, rfl, rfl, by decide⟩, rfl, rfl⟩, rfl, rfl⟩ (bz_ok h)
theorem x0_1006 : XX X d 0 (1006, [l0, l1, l2, l3, l4, l5, some (.int x), l7, l8], st, M) Q = XX X d 0 (1008, [l0, l1, l2, l3, l4, l5, some (.int x), l7, l8], .int x :: st, M) Q := H_ld rfl rfl rfl rfl rfl
theorem x0_1008 (h : -2147483648 ≤ p ∧ p ≤ 2147483647) : XX X d 0 (1008, L, .int (ii p) :: st, M) Q = bq (p ≠ 0) X d 0 1023 1011 L st M Q := H_if rfl ⟨rfl, rfl, rfl, by decide⟩ rfl rfl rfl rfl (D_ne (b := 0) (by omega))
theorem x0_1008b : XX X d 0 (1008, L, .int (ii (b2i b)) :: st, M) Q = bq (b = true) X d 0 1023 1011 L st M Q := (x0_1008 (b2i_r b)).trans (by rw [b2i_n0])
theorem x0_1011 : XX X d 0 (1011, [l0, l1, l2, some (.ref a), l4, l5, l6, l7, l8], st, M) Q = XX X d 0 (1012, [l0, l1, l2, some (.ref a), l4, l5, l6, l7, l8], .ref a :: st, M) Q := H_ld rfl rfl rfl rfl rfl
theorem x0_1012 : XX X d 0 (1012, L, st, M) Q = XX X d 0 (1013, L, .int (ii 0) :: st, M) Q := G_cst rfl rfl rfl rfl rfl
theorem x0_1013 : XX X d 0 (1013, L, .int x :: .ref a :: st, M) Q = xa (M.2.2 a) (aldT .laload) x (fun v => XX X d 0 (1014, L, v :: st, M) Q) := G_ald rfl ⟨⟨rfl, rfl, rfl, by decide⟩, rfl, rfl⟩ rfl rfl
theorem x0_1014 : XX X d 0 (1014, [l0, l1, l2, l3, l4, l5, l6, some (.int x), l8], st, M) Q = XX X d 0 (1016, [l0, l1, l2, l3, l4, l5, l6, some (.int x), l8], .int x :: st, M) Q := H_ld rfl rfl rfl rfl rfl
theorem x0_1016 : XX X d 0 (1016, L, .int x :: st, M) Q = XX X d 0 (1017, L, .long x.toInt64 :: st, M) Q := G_sop rfl ⟨rfl, rfl, rfl, by decide⟩ rfl rfl
theorem x0_1017 : XX X d 0 (1017, L, .long y2 :: .long y :: st, M) Q = XX X d 0 (1018, L, .int (lg_cmp y y2) :: st, M) Q := G_sop rfl ⟨rfl, rfl, rfl, by decide⟩ rfl rfl
theorem x0_1018 (h : -2147483648 ≤ p ∧ p ≤ 2147483647) : XX X d 0 (1018, L, .int (ii p) :: st, M) Q = bq (p = 0) X d 0 1023 1021 L st M Q := H_if rfl ⟨rfl, rfl, rfl, by decide⟩ rfl rfl rfl rfl (D_eq (b := 0) (by omega))
theorem x0_1018b : XX X d 0 (1018, L, .int (ii (b2i b)) :: st, M) Q = bq (b = false) X d 0 1023 1021 L st M Q := (x0_1018 (b2i_r b)).trans (by rw [b2i_0])
theorem x0_1021 : XX X d 0 (1021, L, st, M) Q = XX X d 0 (1022, L, .int (ii 0) :: st, M) Q := G_cst rfl rfl rfl rfl rfl
theorem x0_1022 (h : bz p) : XX X d 0 (1022, L, [.int (ii p)], M) Q = Q (.inl (some (.int (ii p)))) M := G_ret rfl ⟨⟨⟨rfl, rfl, rfl, by decide⟩, rfl, rfl⟩, rfl, rfl⟩ (bz_ok h)
theorem x0_1023 : XX X d 0 (1023, L, st, M) Q = XX X d 0 (2632, L, st, M) Q := H_jmp rfl (by decide) rfl
theorem x0_1026 : XX X d 0 (1026, [l0, some (.ref a), l2, l3, l4, l5, l6, l7, l8], st, M) Q = XX X d 0 (1027, [l0, some (.ref a), l2, l3, l4, l5, l6, l7, l8], .ref a :: st, M) Q := H_ld rfl rfl rfl rfl rfl
theorem x0_1027 : XX X d 0 (1027, [some (.ref a), l1, l2, l3, l4, l5, l6, l7, l8], st, M) Q = XX X d 0 (1028, [some (.ref a), l1, l2, l3, l4, l5, l6, l7, l8], .ref a :: st, M) Q := H_ld rfl rfl rfl rfl rfl
theorem x0_1028 : XX X d 0 (1028, [l0, l1, l2, l3, l4, some (.int x), l6, l7, l8], st, M) Q = XX X d 0 (1030, [l0, l1, l2, l3, l4, some (.int x), l6, l7, l8], .int x :: st, M) Q := H_ld rfl rfl rfl rfl rfl
theorem x0_1030 : XX X d 0 (1030, L, st, M) Q = XX X d 0 (1031, L, .int (ii 1) :: st, M) Q := G_cst rfl rfl rfl rfl rfl
theorem x0_1031 : XX X d 0 (1031, L, .int (ii q) :: .int (ii p) :: st, M) Q = XX X d 0 (1032, L, .int (ii (p + q)) :: st, M) Q := H_add rfl (by decide) rfl
theorem x0_1032 (h : a = X.1 ∧ ¬ (x < 0 ∨ X.2.1 ≤ x.toNatClampNeg)) : XX X d 0 (1032, L, .int x :: .ref a :: st, M) Q = XX X d 0 (1033, L, .int (X.2.2 x.toNatClampNeg) :: st, M) Q := G_scr rfl rfl rfl rfl rfl (if_pos h)
theorem x0_1033 : XX X d 0 (1033, [some (.ref a), l1, l2, l3, l4, l5, l6, l7, l8], st, M) Q = XX X d 0 (1034, [some (.ref a), l1, l2, l3, l4, l5, l6, l7, l8], .ref a :: st, M) Q := H_ld rfl rfl rfl rfl rfl
theorem x0_1034 : XX X d 0 (1034, [l0, l1, l2, l3, l4, some (.int x), l6, l7, l8], st, M) Q = XX X d 0 (1036, [l0, l1, l2, l3, l4, some (.int x), l6, l7, l8], .int x :: st, M) Q := H_ld rfl rfl rfl rfl rfl
theorem x0_1036 : XX X d 0 (1036, L, st, M) Q = XX X d 0 (1037, L, .int (ii 2) :: st, M) Q := G_cst rfl rfl rfl rfl rfl
theorem x0_1037 : XX X d 0 (1037, L, .int (ii q) :: .int (ii p) :: st, M) Q = XX X d 0 (1038, L, .int (ii (p + q)) :: st, M) Q := H_add rfl (by decide) rfl
theorem x0_1038 (h : a = X.1 ∧ ¬ (x < 0 ∨ X.2.1 ≤ x.toNatClampNeg)) : XX X d 0 (1038, L, .int x :: .ref a :: st, M) Q = XX X d 0 (1039, L, .int (X.2.2 x.toNatClampNeg) :: st, M) Q := G_scr rfl rfl rfl rfl rfl (if_pos h)
theorem x0_1039 : XX X d 0 (1039, L, .int x :: st, M) Q = XX X d 0 (1040, L, .int (x.toUInt32 % 65536).toInt32 :: st, M) Q := G_sop rfl ⟨rfl, rfl, rfl, by decide⟩ rfl rfl
theorem x0_1040 : XX X d 0 (1040, [l0, l1, l2, some (.ref a), l4, l5, l6, l7, l8], st, M) Q = XX X d 0 (1041, [l0, l1, l2, some (.ref a), l4, l5, l6, l7, l8], .ref a :: st, M) Q := H_ld rfl rfl rfl rfl rfl
theorem x0_1041 {v1 v2 v3 v4 : Value} (hd : 0 < d) (hs : stB st = true) : XX X d 0 (1041, L, v4 :: v3 :: v2 :: v1 :: st, M) Q = CC X (d - 1) 247 [v1, v2, v3, v4] M (XC X d 0 1041 1044 L st Q) := H_static [v1, v2, v3, v4] rfl (by decide) rfl rfl (by decide) rfl rfl hd hs
theorem x0_1044 (h : wide (some l5) = false) : XX X d 0 (1044, [l0, l1, l2, l3, l4, l5, l6, l7, l8], .int x :: st, M) Q = XX X d 0 (1046, [l0, l1, l2, l3, l4, l5, some (.int x), l7, l8], st, M) Q := H_st rfl rfl rfl rfl rfl rfl rfl rfl (Or.inr h)
theorem x0_1046 : XX X d 0 (1046, [l0, l1, some (.ref a), l3, l4, l5, l6, l7, l8], st, M) Q = XX X d 0 (1047, [l0, l1, some (.ref a), l3, l4, l5, l6, l7, l8], .ref a :: st, M) Q := H_ld rfl rfl rfl rfl rfl
theorem x0_1047 : XX X d 0 (1047, [some (.ref a), l1, l2, l3, l4, l5, l6, l7, l8], st, M) Q = XX X d 0 (1048, [some (.ref a), l1, l2, l3, l4, l5, l6, l7, l8], .ref a :: st, M) Q := H_ld rfl rfl rfl rfl rfl
theorem x0_1048 : XX X d 0 (1048, [l0, l1, l2, l3, l4, some (.int x), l6, l7, l8], st, M) Q = XX X d 0 (1050, [l0, l1, l2, l3, l4, some (.int x), l6, l7, l8], .int x :: st, M) Q := H_ld rfl rfl rfl rfl rfl
theorem x0_1050 : XX X d 0 (1050, L, st, M) Q = XX X d 0 (1051, L, .int (ii 1) :: st, M) Q := G_cst rfl rfl rfl rfl rfl
theorem x0_1051 : XX X d 0 (1051, L, .int (ii q) :: .int (ii p) :: st, M) Q = XX X d 0 (1052, L, .int (ii (p + q)) :: st, M) Q := H_add rfl (by decide) rfl
theorem x0_1052 (h : a = X.1 ∧ ¬ (x < 0 ∨ X.2.1 ≤ x.toNatClampNeg)) : XX X d 0 (1052, L, .int x :: .ref a :: st, M) Q = XX X d 0 (1053, L, .int (X.2.2 x.toNatClampNeg) :: st, M) Q := G_scr rfl rfl rfl rfl rfl (if_pos h)
theorem x0_1053 : XX X d 0 (1053, [some (.ref a), l1, l2, l3, l4, l5, l6, l7, l8], st, M) Q = XX X d 0 (1054, [some (.ref a), l1, l2, l3, l4, l5, l6, l7, l8], .ref a :: st, M) Q := H_ld rfl rfl rfl rfl rfl
theorem x0_1054 : XX X d 0 (1054, [l0, l1, l2, l3, l4, some (.int x), l6, l7, l8], st, M) Q = XX X d 0 (1056, [l0, l1, l2, l3, l4, some (.int x), l6, l7, l8], .int x :: st, M) Q := H_ld rfl rfl rfl rfl rfl
theorem x0_1056 : XX X d 0 (1056, L, st, M) Q = XX X d 0 (1057, L, .int (ii 2) :: st, M) Q := G_cst rfl rfl rfl rfl rfl
theorem x0_1057 : XX X d 0 (1057, L, .int (ii q) :: .int (ii p) :: st, M) Q = XX X d 0 (1058, L, .int (ii (p + q)) :: st, M) Q := H_add rfl (by decide) rfl
theorem x0_1058 (h : a = X.1 ∧ ¬ (x < 0 ∨ X.2.1 ≤ x.toNatClampNeg)) : XX X d 0 (1058, L, .int x :: .ref a :: st, M) Q = XX X d 0 (1059, L, .int (X.2.2 x.toNatClampNeg) :: st, M) Q := G_scr rfl rfl rfl rfl rfl (if_pos h)
theorem x0_1059 : XX X d 0 (1059, L, .int x :: st, M) Q = XX X d 0 (1060, L, .int (x.toUInt32 % 65536).toInt32 :: st, M) Q := G_sop rfl ⟨rfl, rfl, rfl, by decide⟩ rfl rfl
theorem x0_1060 {v1 v2 : Value} (hd : 0 < d) (hs : stB st = true) : XX X d 0 (1060, L, v2 :: v1 :: .ref a :: st, M) Q = (mcl M a = some 9 ∧ CC X (d - 1) 195 [.ref a, v1, v2] M (XC X d 0 1060 1063 L st Q)) := H_virt [v1, v2] rfl (by decide) rfl rfl rfl rfl rfl hd hs
theorem x0_1063 (h : wide (some l6) = false) : XX X d 0 (1063, [l0, l1, l2, l3, l4, l5, l6, l7, l8], .int x :: st, M) Q = XX X d 0 (1065, [l0, l1, l2, l3, l4, l5, l6, some (.int x), l8], st, M) Q := H_st rfl rfl rfl rfl rfl rfl rfl rfl (Or.inr h)
theorem x0_1065 : XX X d 0 (1065, [l0, l1, some (.ref a), l3, l4, l5, l6, l7, l8], st, M) Q = XX X d 0 (1066, [l0, l1, some (.ref a), l3, l4, l5, l6, l7, l8], .ref a :: st, M) Q := H_ld rfl rfl rfl rfl rfl
theorem x0_1066 (hd : 0 < d) (hs : stB st = true) : XX X d 0 (1066, L, .ref a :: st, M) Q = (mcl M a = some 9 ∧ CC X (d - 1) 143 [.ref a] M (XC X d 0 1066 1069 L st Q)) := H_virt [] rfl (by decide) rfl rfl rfl rfl rfl hd hs
theorem x0_1069 : XX X d 0 (1069, [l0, l1, l2, l3, l4, l5, some (.int x), l7, l8], st, M) Q = XX X d 0 (1071, [l0, l1, l2, l3, l4, l5, some (.int x), l7, l8], .int x :: st, M) Q := H_ld rfl rfl rfl rfl rfl
theorem x0_1071 (h : -2147483648 ≤ p ∧ p ≤ 2147483647 ∧ -2147483648 ≤ q ∧ q ≤ 2147483647) : XX X d 0 (1071, L, .int (ii q) :: .int (ii p) :: st, M) Q = bq (p = q) X d 0 1076 1074 L st M Q := H_if2 rfl ⟨rfl, rfl, rfl, by decide⟩ rfl rfl rfl rfl (D_eq h)
theorem x0_1074 : XX X d 0 (1074, L, st, M) Q = XX X d 0 (1075, L, .int (ii 0) :: st, M) Q := G_cst rfl rfl rfl rfl rfl
theorem x0_1075 (h : bz p) : XX X d 0 (1075, L, [.int (ii p)], M) Q = Q (.inl (some (.int (ii p)))) M := G_ret rfl ⟨⟨⟨rfl, rfl, rfl, by decide⟩, rfl, rfl⟩, rfl, rfl⟩ (bz_ok h)
theorem x0_1076 : XX X d 0 (1076, [l0, l1, l2, l3, l4, l5, some (.int x), l7, l8], st, M) Q = XX X d 0 (1078, [l0, l1, l2, l3, l4, l5, some (.int x), l7, l8], .int x :: st, M) Q := H_ld rfl rfl rfl rfl rfl
theorem x0_1078 (h : -2147483648 ≤ p ∧ p ≤ 2147483647) : XX X d 0 (1078, L, .int (ii p) :: st, M) Q = bq (p ≠ 0) X d 0 1093 1081 L st M Q := H_if rfl ⟨rfl, rfl, rfl, by decide⟩ rfl rfl rfl rfl (D_ne (b := 0) (by omega))
theorem x0_1078b : XX X d 0 (1078, L, .int (ii (b2i b)) :: st, M) Q = bq (b = true) X d 0 1093 1081 L st M Q := (x0_1078 (b2i_r b)).trans (by rw [b2i_n0])
theorem x0_1081 : XX X d 0 (1081, [l0, l1, l2, some (.ref a), l4, l5, l6, l7, l8], st, M) Q = XX X d 0 (1082, [l0, l1, l2, some (.ref a), l4, l5, l6, l7, l8], .ref a :: st, M) Q := H_ld rfl rfl rfl rfl rfl
theorem x0_1082 : XX X d 0 (1082, L, st, M) Q = XX X d 0 (1083, L, .int (ii 0) :: st, M) Q := G_cst rfl rfl rfl rfl rfl
theorem x0_1083 : XX X d 0 (1083, L, .int x :: .ref a :: st, M) Q = xa (M.2.2 a) (aldT .laload) x (fun v => XX X d 0 (1084, L, v :: st, M) Q) := G_ald rfl ⟨⟨rfl, rfl, rfl, by decide⟩, rfl, rfl⟩ rfl rfl
theorem x0_1084 : XX X d 0 (1084, [l0, l1, l2, l3, l4, l5, l6, some (.int x), l8], st, M) Q = XX X d 0 (1086, [l0, l1, l2, l3, l4, l5, l6, some (.int x), l8], .int x :: st, M) Q := H_ld rfl rfl rfl rfl rfl
theorem x0_1086 : XX X d 0 (1086, L, .int x :: st, M) Q = XX X d 0 (1087, L, .long x.toInt64 :: st, M) Q := G_sop rfl ⟨rfl, rfl, rfl, by decide⟩ rfl rfl
theorem x0_1087 : XX X d 0 (1087, L, .long y2 :: .long y :: st, M) Q = XX X d 0 (1088, L, .int (lg_cmp y y2) :: st, M) Q := G_sop rfl ⟨rfl, rfl, rfl, by decide⟩ rfl rfl
theorem x0_1088 (h : -2147483648 ≤ p ∧ p ≤ 2147483647) : XX X d 0 (1088, L, .int (ii p) :: st, M) Q = bq (p = 0) X d 0 1093 1091 L st M Q := H_if rfl ⟨rfl, rfl, rfl, by decide⟩ rfl rfl rfl rfl (D_eq (b := 0) (by omega))
theorem x0_1088b : XX X d 0 (1088, L, .int (ii (b2i b)) :: st, M) Q = bq (b = false) X d 0 1093 1091 L st M Q := (x0_1088 (b2i_r b)).trans (by rw [b2i_0])
theorem x0_1091 : XX X d 0 (1091, L, st, M) Q = XX X d 0 (1092, L, .int (ii 0) :: st, M) Q := G_cst rfl rfl rfl rfl rfl
theorem x0_1092 (h : bz p) : XX X d 0 (1092, L, [.int (ii p)], M) Q = Q (.inl (some (.int (ii p)))) M := G_ret rfl ⟨⟨⟨rfl, rfl, rfl, by decide⟩, rfl, rfl⟩, rfl, rfl⟩ (bz_ok h)
theorem x0_1093 : XX X d 0 (1093, L, st, M) Q = XX X d 0 (2632, L, st, M) Q := H_jmp rfl (by decide) rfl
theorem x0_1096 : XX X d 0 (1096, [l0, some (.ref a), l2, l3, l4, l5, l6, l7, l8], st, M) Q = XX X d 0 (1097, [l0, some (.ref a), l2, l3, l4, l5, l6, l7, l8], .ref a :: st, M) Q := H_ld rfl rfl rfl rfl rfl
theorem x0_1097 (hd : 0 < d) (hs : stB st = true) : XX X d 0 (1097, L, .ref a :: st, M) Q = (mcl M a = some 8 ∧ CC X (d - 1) 96 [.ref a] M (XC X d 0 1097 1100 L st Q)) := H_virt [] rfl (by decide) rfl rfl rfl rfl rfl hd hs
theorem x0_1100 : XX X d 0 (1100, [l0, l1, some (.ref a), l3, l4, l5, l6, l7, l8], st, M) Q = XX X d 0 (1101, [l0, l1, some (.ref a), l3, l4, l5, l6, l7, l8], .ref a :: st, M) Q := H_ld rfl rfl rfl rfl rfl
theorem x0_1101 (hd : 0 < d) (hs : stB st = true) : XX X d 0 (1101, L, .ref a :: st, M) Q = (mcl M a = some 9 ∧ CC X (d - 1) 196 [.ref a] M (XC X d 0 1101 1104 L st Q)) := H_virt [] rfl (by decide) rfl rfl rfl rfl rfl hd hs
theorem x0_1104 (h : -2147483648 ≤ p ∧ p ≤ 2147483647 ∧ -2147483648 ≤ q ∧ q ≤ 2147483647) : XX X d 0 (1104, L, .int (ii q) :: .int (ii p) :: st, M) Q = bq (p = q) X d 0 2632 1107 L st M Q := H_if2 rfl ⟨rfl, rfl, rfl, by decide⟩ rfl rfl rfl rfl (D_eq h)
theorem x0_1107 : XX X d 0 (1107, L, st, M) Q = XX X d 0 (1108, L, .int (ii 0) :: st, M) Q := G_cst rfl rfl rfl rfl rfl
theorem x0_1108 (h : bz p) : XX X d 0 (1108, L, [.int (ii p)], M) Q = Q (.inl (some (.int (ii p)))) M := G_ret rfl ⟨⟨⟨rfl, rfl, rfl, by decide⟩, rfl, rfl⟩, rfl, rfl⟩ (bz_ok h)
theorem x0_1109 : XX X d 0 (1109, [l0, some (.ref a), l2, l3, l4, l5, l6, l7, l8], st, M) Q = XX X d 0 (1110, [l0, some (.ref a), l2, l3, l4, l5, l6, l7, l8], .ref a :: st, M) Q := H_ld rfl rfl rfl rfl rfl
theorem x0_1110 : XX X d 0 (1110, [some (.ref a), l1, l2, l3, l4, l5, l6, l7, l8], st, M) Q = XX X d 0 (1111, [some (.ref a), l1, l2, l3, l4, l5, l6, l7, l8], .ref a :: st, M) Q := H_ld rfl rfl rfl rfl rfl
theorem x0_1111 : XX X d 0 (1111, [l0, l1, l2, l3, l4, some (.int x), l6, l7, l8], st, M) Q = XX X d 0 (1113, [l0, l1, l2, l3, l4, some (.int x), l6, l7, l8], .int x :: st, M) Q := H_ld rfl rfl rfl rfl rfl
theorem x0_1113 : XX X d 0 (1113, L, st, M) Q = XX X d 0 (1114, L, .int (ii 1) :: st, M) Q := G_cst rfl rfl rfl rfl rfl
theorem x0_1114 : XX X d 0 (1114, L, .int (ii q) :: .int (ii p) :: st, M) Q = XX X d 0 (1115, L, .int (ii (p + q)) :: st, M) Q := H_add rfl (by decide) rfl
theorem x0_1115 (h : a = X.1 ∧ ¬ (x < 0 ∨ X.2.1 ≤ x.toNatClampNeg)) : XX X d 0 (1115, L, .int x :: .ref a :: st, M) Q = XX X d 0 (1116, L, .int (X.2.2 x.toNatClampNeg) :: st, M) Q := G_scr rfl rfl rfl rfl rfl (if_pos h)
theorem x0_1116 : XX X d 0 (1116, [l0, l1, l2, some (.ref a), l4, l5, l6, l7, l8], st, M) Q = XX X d 0 (1117, [l0, l1, l2, some (.ref a), l4, l5, l6, l7, l8], .ref a :: st, M) Q := H_ld rfl rfl rfl rfl rfl
theorem x0_1117 {v1 v2 v3 : Value} (hd : 0 < d) (hs : stB st = true) : XX X d 0 (1117, L, v3 :: v2 :: v1 :: st, M) Q = CC X (d - 1) 248 [v1, v2, v3] M (XC X d 0 1117 1120 L st Q) := H_static [v1, v2, v3] rfl (by decide) rfl rfl (by decide) rfl rfl hd hs
theorem x0_1120 (h : wide (some l5) = false) : XX X d 0 (1120, [l0, l1, l2, l3, l4, l5, l6, l7, l8], .int x :: st, M) Q = XX X d 0 (1122, [l0, l1, l2, l3, l4, l5, some (.int x), l7, l8], st, M) Q := H_st rfl rfl rfl rfl rfl rfl rfl rfl (Or.inr h)
theorem x0_1122 : XX X d 0 (1122, [l0, l1, some (.ref a), l3, l4, l5, l6, l7, l8], st, M) Q = XX X d 0 (1123, [l0, l1, some (.ref a), l3, l4, l5, l6, l7, l8], .ref a :: st, M) Q := H_ld rfl rfl rfl rfl rfl
theorem x0_1123 : XX X d 0 (1123, [some (.ref a), l1, l2, l3, l4, l5, l6, l7, l8], st, M) Q = XX X d 0 (1124, [some (.ref a), l1, l2, l3, l4, l5, l6, l7, l8], .ref a :: st, M) Q := H_ld rfl rfl rfl rfl rfl
theorem x0_1124 : XX X d 0 (1124, [l0, l1, l2, l3, l4, some (.int x), l6, l7, l8], st, M) Q = XX X d 0 (1126, [l0, l1, l2, l3, l4, some (.int x), l6, l7, l8], .int x :: st, M) Q := H_ld rfl rfl rfl rfl rfl
theorem x0_1126 : XX X d 0 (1126, L, st, M) Q = XX X d 0 (1127, L, .int (ii 1) :: st, M) Q := G_cst rfl rfl rfl rfl rfl
theorem x0_1127 : XX X d 0 (1127, L, .int (ii q) :: .int (ii p) :: st, M) Q = XX X d 0 (1128, L, .int (ii (p + q)) :: st, M) Q := H_add rfl (by decide) rfl
theorem x0_1128 (h : a = X.1 ∧ ¬ (x < 0 ∨ X.2.1 ≤ x.toNatClampNeg)) : XX X d 0 (1128, L, .int x :: .ref a :: st, M) Q = XX X d 0 (1129, L, .int (X.2.2 x.toNatClampNeg) :: st, M) Q := G_scr rfl rfl rfl rfl rfl (if_pos h)
theorem x0_1129 {v1 : Value} (hd : 0 < d) (hs : stB st = true) : XX X d 0 (1129, L, v1 :: .ref a :: st, M) Q = (mcl M a = some 9 ∧ CC X (d - 1) 197 [.ref a, v1] M (XC X d 0 1129 1132 L st Q)) := H_virt [v1] rfl (by decide) rfl rfl rfl rfl rfl hd hs
theorem x0_1132 (h : wide (some l6) = false) : XX X d 0 (1132, [l0, l1, l2, l3, l4, l5, l6, l7, l8], .int x :: st, M) Q = XX X d 0 (1134, [l0, l1, l2, l3, l4, l5, l6, some (.int x), l8], st, M) Q := H_st rfl rfl rfl rfl rfl rfl rfl rfl (Or.inr h)
theorem x0_1134 : XX X d 0 (1134, [l0, l1, some (.ref a), l3, l4, l5, l6, l7, l8], st, M) Q = XX X d 0 (1135, [l0, l1, some (.ref a), l3, l4, l5, l6, l7, l8], .ref a :: st, M) Q := H_ld rfl rfl rfl rfl rfl
theorem x0_1135 (hd : 0 < d) (hs : stB st = true) : XX X d 0 (1135, L, .ref a :: st, M) Q = (mcl M a = some 9 ∧ CC X (d - 1) 143 [.ref a] M (XC X d 0 1135 1138 L st Q)) := H_virt [] rfl (by decide) rfl rfl rfl rfl rfl hd hs
theorem x0_1138 : XX X d 0 (1138, [l0, l1, l2, l3, l4, l5, some (.int x), l7, l8], st, M) Q = XX X d 0 (1140, [l0, l1, l2, l3, l4, l5, some (.int x), l7, l8], .int x :: st, M) Q := H_ld rfl rfl rfl rfl rfl
theorem x0_1140 (h : -2147483648 ≤ p ∧ p ≤ 2147483647 ∧ -2147483648 ≤ q ∧ q ≤ 2147483647) : XX X d 0 (1140, L, .int (ii q) :: .int (ii p) :: st, M) Q = bq (p = q) X d 0 1145 1143 L st M Q := H_if2 rfl ⟨rfl, rfl, rfl, by decide⟩ rfl rfl rfl rfl (D_eq h)
theorem x0_1143 : XX X d 0 (1143, L, st, M) Q = XX X d 0 (1144, L, .int (ii 0) :: st, M) Q := G_cst rfl rfl rfl rfl rfl
theorem x0_1144 (h : bz p) : XX X d 0 (1144, L, [.int (ii p)], M) Q = Q (.inl (some (.int (ii p)))) M := G_ret rfl ⟨⟨⟨rfl, rfl, rfl, by decide⟩, rfl, rfl⟩, rfl, rfl⟩ (bz_ok h)
theorem x0_1145 : XX X d 0 (1145, [l0, l1, l2, l3, l4, l5, some (.int x), l7, l8], st, M) Q = XX X d 0 (1147, [l0, l1, l2, l3, l4, l5, some (.int x), l7, l8], .int x :: st, M) Q := H_ld rfl rfl rfl rfl rfl
theorem x0_1147 (h : -2147483648 ≤ p ∧ p ≤ 2147483647) : XX X d 0 (1147, L, .int (ii p) :: st, M) Q = bq (p ≠ 0) X d 0 1162 1150 L st M Q := H_if rfl ⟨rfl, rfl, rfl, by decide⟩ rfl rfl rfl rfl (D_ne (b := 0) (by omega))
theorem x0_1147b : XX X d 0 (1147, L, .int (ii (b2i b)) :: st, M) Q = bq (b = true) X d 0 1162 1150 L st M Q := (x0_1147 (b2i_r b)).trans (by rw [b2i_n0])
theorem x0_1150 : XX X d 0 (1150, [l0, l1, l2, some (.ref a), l4, l5, l6, l7, l8], st, M) Q = XX X d 0 (1151, [l0, l1, l2, some (.ref a), l4, l5, l6, l7, l8], .ref a :: st, M) Q := H_ld rfl rfl rfl rfl rfl
theorem x0_1151 : XX X d 0 (1151, L, st, M) Q = XX X d 0 (1152, L, .int (ii 0) :: st, M) Q := G_cst rfl rfl rfl rfl rfl
theorem x0_1152 : XX X d 0 (1152, L, .int x :: .ref a :: st, M) Q = xa (M.2.2 a) (aldT .laload) x (fun v => XX X d 0 (1153, L, v :: st, M) Q) := G_ald rfl ⟨⟨rfl, rfl, rfl, by decide⟩, rfl, rfl⟩ rfl rfl
theorem x0_1153 : XX X d 0 (1153, [l0, l1, l2, l3, l4, l5, l6, some (.int x), l8], st, M) Q = XX X d 0 (1155, [l0, l1, l2, l3, l4, l5, l6, some (.int x), l8], .int x :: st, M) Q := H_ld rfl rfl rfl rfl rfl
theorem x0_1155 : XX X d 0 (1155, L, .int x :: st, M) Q = XX X d 0 (1156, L, .long x.toInt64 :: st, M) Q := G_sop rfl ⟨rfl, rfl, rfl, by decide⟩ rfl rfl
theorem x0_1156 : XX X d 0 (1156, L, .long y2 :: .long y :: st, M) Q = XX X d 0 (1157, L, .int (lg_cmp y y2) :: st, M) Q := G_sop rfl ⟨rfl, rfl, rfl, by decide⟩ rfl rfl
theorem x0_1157 (h : -2147483648 ≤ p ∧ p ≤ 2147483647) : XX X d 0 (1157, L, .int (ii p) :: st, M) Q = bq (p = 0) X d 0 1162 1160 L st M Q := H_if rfl ⟨rfl, rfl, rfl, by decide⟩ rfl rfl rfl rfl (D_eq (b := 0) (by omega))
theorem x0_1157b : XX X d 0 (1157, L, .int (ii (b2i b)) :: st, M) Q = bq (b = false) X d 0 1162 1160 L st M Q := (x0_1157 (b2i_r b)).trans (by rw [b2i_0])
theorem x0_1160 : XX X d 0 (1160, L, st, M) Q = XX X d 0 (1161, L, .int (ii 0) :: st, M) Q := G_cst rfl rfl rfl rfl rfl
theorem x0_1161 (h : bz p) : XX X d 0 (1161, L, [.int (ii p)], M) Q = Q (.inl (some (.int (ii p)))) M := G_ret rfl ⟨⟨⟨rfl, rfl, rfl, by decide⟩, rfl, rfl⟩, rfl, rfl⟩ (bz_ok h)
theorem x0_1162 : XX X d 0 (1162, L, st, M) Q = XX X d 0 (2632, L, st, M) Q := H_jmp rfl (by decide) rfl
theorem x0_1165 : XX X d 0 (1165, [l0, some (.ref a), l2, l3, l4, l5, l6, l7, l8], st, M) Q = XX X d 0 (1166, [l0, some (.ref a), l2, l3, l4, l5, l6, l7, l8], .ref a :: st, M) Q := H_ld rfl rfl rfl rfl rfl
theorem x0_1166 : XX X d 0 (1166, [some (.ref a), l1, l2, l3, l4, l5, l6, l7, l8], st, M) Q = XX X d 0 (1167, [some (.ref a), l1, l2, l3, l4, l5, l6, l7, l8], .ref a :: st, M) Q := H_ld rfl rfl rfl rfl rfl
theorem x0_1167 : XX X d 0 (1167, [l0, l1, l2, l3, l4, some (.int x), l6, l7, l8], st, M) Q = XX X d 0 (1169, [l0, l1, l2, l3, l4, some (.int x), l6, l7, l8], .int x :: st, M) Q := H_ld rfl rfl rfl rfl rfl
theorem x0_1169 : XX X d 0 (1169, L, st, M) Q = XX X d 0 (1170, L, .int (ii 1) :: st, M) Q := G_cst rfl rfl rfl rfl rfl
theorem x0_1170 : XX X d 0 (1170, L, .int (ii q) :: .int (ii p) :: st, M) Q = XX X d 0 (1171, L, .int (ii (p + q)) :: st, M) Q := H_add rfl (by decide) rfl
theorem x0_1171 (h : a = X.1 ∧ ¬ (x < 0 ∨ X.2.1 ≤ x.toNatClampNeg)) : XX X d 0 (1171, L, .int x :: .ref a :: st, M) Q = XX X d 0 (1172, L, .int (X.2.2 x.toNatClampNeg) :: st, M) Q := G_scr rfl rfl rfl rfl rfl (if_pos h)
theorem x0_1172 : XX X d 0 (1172, [l0, l1, l2, some (.ref a), l4, l5, l6, l7, l8], st, M) Q = XX X d 0 (1173, [l0, l1, l2, some (.ref a), l4, l5, l6, l7, l8], .ref a :: st, M) Q := H_ld rfl rfl rfl rfl rfl
theorem x0_1173 {v1 v2 v3 : Value} (hd : 0 < d) (hs : stB st = true) : XX X d 0 (1173, L, v3 :: v2 :: v1 :: st, M) Q = CC X (d - 1) 249 [v1, v2, v3] M (XC X d 0 1173 1176 L st Q) := H_static [v1, v2, v3] rfl (by decide) rfl rfl (by decide) rfl rfl hd hs
theorem x0_1176 (h : wide (some l5) = false) : XX X d 0 (1176, [l0, l1, l2, l3, l4, l5, l6, l7, l8], .int x :: st, M) Q = XX X d 0 (1178, [l0, l1, l2, l3, l4, l5, some (.int x), l7, l8], st, M) Q := H_st rfl rfl rfl rfl rfl rfl rfl rfl (Or.inr h)
theorem x0_1178 : XX X d 0 (1178, [l0, l1, some (.ref a), l3, l4, l5, l6, l7, l8], st, M) Q = XX X d 0 (1179, [l0, l1, some (.ref a), l3, l4, l5, l6, l7, l8], .ref a :: st, M) Q := H_ld rfl rfl rfl rfl rfl
theorem x0_1179 : XX X d 0 (1179, [some (.ref a), l1, l2, l3, l4, l5, l6, l7, l8], st, M) Q = XX X d 0 (1180, [some (.ref a), l1, l2, l3, l4, l5, l6, l7, l8], .ref a :: st, M) Q := H_ld rfl rfl rfl rfl rfl
theorem x0_1180 : XX X d 0 (1180, [l0, l1, l2, l3, l4, some (.int x), l6, l7, l8], st, M) Q = XX X d 0 (1182, [l0, l1, l2, l3, l4, some (.int x), l6, l7, l8], .int x :: st, M) Q := H_ld rfl rfl rfl rfl rfl
theorem x0_1182 : XX X d 0 (1182, L, st, M) Q = XX X d 0 (1183, L, .int (ii 1) :: st, M) Q := G_cst rfl rfl rfl rfl rfl
theorem x0_1183 : XX X d 0 (1183, L, .int (ii q) :: .int (ii p) :: st, M) Q = XX X d 0 (1184, L, .int (ii (p + q)) :: st, M) Q := H_add rfl (by decide) rfl
theorem x0_1184 (h : a = X.1 ∧ ¬ (x < 0 ∨ X.2.1 ≤ x.toNatClampNeg)) : XX X d 0 (1184, L, .int x :: .ref a :: st, M) Q = XX X d 0 (1185, L, .int (X.2.2 x.toNatClampNeg) :: st, M) Q := G_scr rfl rfl rfl rfl rfl (if_pos h)
theorem x0_1185 {v1 : Value} (hd : 0 < d) (hs : stB st = true) : XX X d 0 (1185, L, v1 :: .ref a :: st, M) Q = (mcl M a = some 9 ∧ CC X (d - 1) 199 [.ref a, v1] M (XC X d 0 1185 1188 L st Q)) := H_virt [v1] rfl (by decide) rfl rfl rfl rfl rfl hd hs
theorem x0_1188 (h : wide (some l6) = false) : XX X d 0 (1188, [l0, l1, l2, l3, l4, l5, l6, l7, l8], .int x :: st, M) Q = XX X d 0 (1190, [l0, l1, l2, l3, l4, l5, l6, some (.int x), l8], st, M) Q := H_st rfl rfl rfl rfl rfl rfl rfl rfl (Or.inr h)
theorem x0_1190 : XX X d 0 (1190, [l0, l1, some (.ref a), l3, l4, l5, l6, l7, l8], st, M) Q = XX X d 0 (1191, [l0, l1, some (.ref a), l3, l4, l5, l6, l7, l8], .ref a :: st, M) Q := H_ld rfl rfl rfl rfl rfl
theorem x0_1191 (hd : 0 < d) (hs : stB st = true) : XX X d 0 (1191, L, .ref a :: st, M) Q = (mcl M a = some 9 ∧ CC X (d - 1) 143 [.ref a] M (XC X d 0 1191 1194 L st Q)) := H_virt [] rfl (by decide) rfl rfl rfl rfl rfl hd hs
theorem x0_1194 : XX X d 0 (1194, [l0, l1, l2, l3, l4, l5, some (.int x), l7, l8], st, M) Q = XX X d 0 (1196, [l0, l1, l2, l3, l4, l5, some (.int x), l7, l8], .int x :: st, M) Q := H_ld rfl rfl rfl rfl rfl
theorem x0_1196 (h : -2147483648 ≤ p ∧ p ≤ 2147483647 ∧ -2147483648 ≤ q ∧ q ≤ 2147483647) : XX X d 0 (1196, L, .int (ii q) :: .int (ii p) :: st, M) Q = bq (p = q) X d 0 1201 1199 L st M Q := H_if2 rfl ⟨rfl, rfl, rfl, by decide⟩ rfl rfl rfl rfl (D_eq h)
theorem x0_1199 : XX X d 0 (1199, L, st, M) Q = XX X d 0 (1200, L, .int (ii 0) :: st, M) Q := G_cst rfl rfl rfl rfl rfl
theorem x0_1200 (h : bz p) : XX X d 0 (1200, L, [.int (ii p)], M) Q = Q (.inl (some (.int (ii p)))) M := G_ret rfl ⟨⟨⟨rfl, rfl, rfl, by decide⟩, rfl, rfl⟩, rfl, rfl⟩ (bz_ok h)
theorem x0_1201 : XX X d 0 (1201, [l0, l1, l2, l3, l4, l5, some (.int x), l7, l8], st, M) Q = XX X d 0 (1203, [l0, l1, l2, l3, l4, l5, some (.int x), l7, l8], .int x :: st, M) Q := H_ld rfl rfl rfl rfl rfl
theorem x0_1203 (h : -2147483648 ≤ p ∧ p ≤ 2147483647) : XX X d 0 (1203, L, .int (ii p) :: st, M) Q = bq (p ≠ 0) X d 0 1225 1206 L st M Q := H_if rfl ⟨rfl, rfl, rfl, by decide⟩ rfl rfl rfl rfl (D_ne (b := 0) (by omega))
theorem x0_1203b : XX X d 0 (1203, L, .int (ii (b2i b)) :: st, M) Q = bq (b = true) X d 0 1225 1206 L st M Q := (x0_1203 (b2i_r b)).trans (by rw [b2i_n0])
theorem x0_1206 : XX X d 0 (1206, [l0, l1, l2, some (.ref a), l4, l5, l6, l7, l8], st, M) Q = XX X d 0 (1207, [l0, l1, l2, some (.ref a), l4, l5, l6, l7, l8], .ref a :: st, M) Q := H_ld rfl rfl rfl rfl rfl
theorem x0_1207 : XX X d 0 (1207, L, st, M) Q = XX X d 0 (1208, L, .int (ii 0) :: st, M) Q := G_cst rfl rfl rfl rfl rfl
theorem x0_1208 : XX X d 0 (1208, L, .int x :: .ref a :: st, M) Q = xa (M.2.2 a) (aldT .laload) x (fun v => XX X d 0 (1209, L, v :: st, M) Q) := G_ald rfl ⟨⟨rfl, rfl, rfl, by decide⟩, rfl, rfl⟩ rfl rfl
theorem x0_1209 : XX X d 0 (1209, [l0, l1, l2, l3, l4, l5, l6, some (.int x), l8], st, M) Q = XX X d 0 (1211, [l0, l1, l2, l3, l4, l5, l6, some (.int x), l8], .int x :: st, M) Q := H_ld rfl rfl rfl rfl rfl
theorem x0_1211 (h : -2147483648 ≤ p ∧ p ≤ 2147483647) : XX X d 0 (1211, L, .int (ii p) :: st, M) Q = bq (p = 0) X d 0 1218 1214 L st M Q := H_if rfl ⟨rfl, rfl, rfl, by decide⟩ rfl rfl rfl rfl (D_eq (b := 0) (by omega))
theorem x0_1211b : XX X d 0 (1211, L, .int (ii (b2i b)) :: st, M) Q = bq (b = false) X d 0 1218 1214 L st M Q := (x0_1211 (b2i_r b)).trans (by rw [b2i_0])
theorem x0_1214 : XX X d 0 (1214, L, st, M) Q = XX X d 0 (1215, L, .long (Int64.ofInt 1) :: st, M) Q := G_cst rfl rfl rfl rfl rfl
theorem x0_1215 : XX X d 0 (1215, L, st, M) Q = XX X d 0 (1219, L, st, M) Q := H_jmp rfl (by decide) rfl
theorem x0_1218 : XX X d 0 (1218, L, st, M) Q = XX X d 0 (1219, L, .long (Int64.ofInt 0) :: st, M) Q := G_cst rfl rfl rfl rfl rfl
theorem x0_1219 : XX X d 0 (1219, L, .long y2 :: .long y :: st, M) Q = XX X d 0 (1220, L, .int (lg_cmp y y2) :: st, M) Q := G_sop rfl ⟨rfl, rfl, rfl, by decide⟩ rfl rfl
theorem x0_1220 (h : -2147483648 ≤ p ∧ p ≤ 2147483647) : XX X d 0 (1220, L, .int (ii p) :: st, M) Q = bq (p = 0) X d 0 1225 1223 L st M Q := H_if rfl ⟨rfl, rfl, rfl, by decide⟩ rfl rfl rfl rfl (D_eq (b := 0) (by omega))
theorem x0_1220b : XX X d 0 (1220, L, .int (ii (b2i b)) :: st, M) Q = bq (b = false) X d 0 1225 1223 L st M Q := (x0_1220 (b2i_r b)).trans (by rw [b2i_0])
theorem x0_1223 : XX X d 0 (1223, L, st, M) Q = XX X d 0 (1224, L, .int (ii 0) :: st, M) Q := G_cst rfl rfl rfl rfl rfl
theorem x0_1224 (h : bz p) : XX X d 0 (1224, L, [.int (ii p)], M) Q = Q (.inl (some (.int (ii p)))) M := G_ret rfl ⟨⟨⟨rfl, rfl, rfl, by decide⟩, rfl, rfl⟩, rfl, rfl⟩ (bz_ok h)
theorem x0_1225 : XX X d 0 (1225, L, st, M) Q = XX X d 0 (2632, L, st, M) Q := H_jmp rfl (by decide) rfl
theorem x0_1228 : XX X d 0 (1228, [l0, some (.ref a), l2, l3, l4, l5, l6, l7, l8], st, M) Q = XX X d 0 (1229, [l0, some (.ref a), l2, l3, l4, l5, l6, l7, l8], .ref a :: st, M) Q := H_ld rfl rfl rfl rfl rfl
theorem x0_1229 : XX X d 0 (1229, [some (.ref a), l1, l2, l3, l4, l5, l6, l7, l8], st, M) Q = XX X d 0 (1230, [some (.ref a), l1, l2, l3, l4, l5, l6, l7, l8], .ref a :: st, M) Q := H_ld rfl rfl rfl rfl rfl
theorem x0_1230 : XX X d 0 (1230, [l0, l1, l2, l3, l4, some (.int x), l6, l7, l8], st, M) Q = XX X d 0 (1232, [l0, l1, l2, l3, l4, some (.int x), l6, l7, l8], .int x :: st, M) Q := H_ld rfl rfl rfl rfl rfl
theorem x0_1232 : XX X d 0 (1232, L, st, M) Q = XX X d 0 (1233, L, .int (ii 1) :: st, M) Q := G_cst rfl rfl rfl rfl rfl
theorem x0_1233 : XX X d 0 (1233, L, .int (ii q) :: .int (ii p) :: st, M) Q = XX X d 0 (1234, L, .int (ii (p + q)) :: st, M) Q := H_add rfl (by decide) rfl
theorem x0_1234 (h : a = X.1 ∧ ¬ (x < 0 ∨ X.2.1 ≤ x.toNatClampNeg)) : XX X d 0 (1234, L, .int x :: .ref a :: st, M) Q = XX X d 0 (1235, L, .int (X.2.2 x.toNatClampNeg) :: st, M) Q := G_scr rfl rfl rfl rfl rfl (if_pos h)
theorem x0_1235 : XX X d 0 (1235, [l0, l1, l2, some (.ref a), l4, l5, l6, l7, l8], st, M) Q = XX X d 0 (1236, [l0, l1, l2, some (.ref a), l4, l5, l6, l7, l8], .ref a :: st, M) Q := H_ld rfl rfl rfl rfl rfl
theorem x0_1236 {v1 v2 v3 : Value} (hd : 0 < d) (hs : stB st = true) : XX X d 0 (1236, L, v3 :: v2 :: v1 :: st, M) Q = CC X (d - 1) 250 [v1, v2, v3] M (XC X d 0 1236 1239 L st Q) := H_static [v1, v2, v3] rfl (by decide) rfl rfl (by decide) rfl rfl hd hs
theorem x0_1239 (h : wide (some l5) = false) : XX X d 0 (1239, [l0, l1, l2, l3, l4, l5, l6, l7, l8], .int x :: st, M) Q = XX X d 0 (1241, [l0, l1, l2, l3, l4, l5, some (.int x), l7, l8], st, M) Q := H_st rfl rfl rfl rfl rfl rfl rfl rfl (Or.inr h)
theorem x0_1241 : XX X d 0 (1241, [l0, l1, some (.ref a), l3, l4, l5, l6, l7, l8], st, M) Q = XX X d 0 (1242, [l0, l1, some (.ref a), l3, l4, l5, l6, l7, l8], .ref a :: st, M) Q := H_ld rfl rfl rfl rfl rfl
theorem x0_1242 : XX X d 0 (1242, [some (.ref a), l1, l2, l3, l4, l5, l6, l7, l8], st, M) Q = XX X d 0 (1243, [some (.ref a), l1, l2, l3, l4, l5, l6, l7, l8], .ref a :: st, M) Q := H_ld rfl rfl rfl rfl rfl
theorem x0_1243 : XX X d 0 (1243, [l0, l1, l2, l3, l4, some (.int x), l6, l7, l8], st, M) Q = XX X d 0 (1245, [l0, l1, l2, l3, l4, some (.int x), l6, l7, l8], .int x :: st, M) Q := H_ld rfl rfl rfl rfl rfl
theorem x0_1245 : XX X d 0 (1245, L, st, M) Q = XX X d 0 (1246, L, .int (ii 1) :: st, M) Q := G_cst rfl rfl rfl rfl rfl
theorem x0_1246 : XX X d 0 (1246, L, .int (ii q) :: .int (ii p) :: st, M) Q = XX X d 0 (1247, L, .int (ii (p + q)) :: st, M) Q := H_add rfl (by decide) rfl
theorem x0_1247 (h : a = X.1 ∧ ¬ (x < 0 ∨ X.2.1 ≤ x.toNatClampNeg)) : XX X d 0 (1247, L, .int x :: .ref a :: st, M) Q = XX X d 0 (1248, L, .int (X.2.2 x.toNatClampNeg) :: st, M) Q := G_scr rfl rfl rfl rfl rfl (if_pos h)
theorem x0_1248 {v1 : Value} (hd : 0 < d) (hs : stB st = true) : XX X d 0 (1248, L, v1 :: .ref a :: st, M) Q = (mcl M a = some 9 ∧ CC X (d - 1) 200 [.ref a, v1] M (XC X d 0 1248 1251 L st Q)) := H_virt [v1] rfl (by decide) rfl rfl rfl rfl rfl hd hs
theorem x0_1251 (h : wide (some l6) = false) : XX X d 0 (1251, [l0, l1, l2, l3, l4, l5, l6, l7, l8], .int x :: st, M) Q = XX X d 0 (1253, [l0, l1, l2, l3, l4, l5, l6, some (.int x), l8], st, M) Q := H_st rfl rfl rfl rfl rfl rfl rfl rfl (Or.inr h)
theorem x0_1253 : XX X d 0 (1253, [l0, l1, some (.ref a), l3, l4, l5, l6, l7, l8], st, M) Q = XX X d 0 (1254, [l0, l1, some (.ref a), l3, l4, l5, l6, l7, l8], .ref a :: st, M) Q := H_ld rfl rfl rfl rfl rfl
theorem x0_1254 (hd : 0 < d) (hs : stB st = true) : XX X d 0 (1254, L, .ref a :: st, M) Q = (mcl M a = some 9 ∧ CC X (d - 1) 143 [.ref a] M (XC X d 0 1254 1257 L st Q)) := H_virt [] rfl (by decide) rfl rfl rfl rfl rfl hd hs
theorem x0_1257 : XX X d 0 (1257, [l0, l1, l2, l3, l4, l5, some (.int x), l7, l8], st, M) Q = XX X d 0 (1259, [l0, l1, l2, l3, l4, l5, some (.int x), l7, l8], .int x :: st, M) Q := H_ld rfl rfl rfl rfl rfl
theorem x0_1259 (h : -2147483648 ≤ p ∧ p ≤ 2147483647 ∧ -2147483648 ≤ q ∧ q ≤ 2147483647) : XX X d 0 (1259, L, .int (ii q) :: .int (ii p) :: st, M) Q = bq (p = q) X d 0 1264 1262 L st M Q := H_if2 rfl ⟨rfl, rfl, rfl, by decide⟩ rfl rfl rfl rfl (D_eq h)
theorem x0_1262 : XX X d 0 (1262, L, st, M) Q = XX X d 0 (1263, L, .int (ii 0) :: st, M) Q := G_cst rfl rfl rfl rfl rfl
theorem x0_1263 (h : bz p) : XX X d 0 (1263, L, [.int (ii p)], M) Q = Q (.inl (some (.int (ii p)))) M := G_ret rfl ⟨⟨⟨rfl, rfl, rfl, by decide⟩, rfl, rfl⟩, rfl, rfl⟩ (bz_ok h)
theorem x0_1264 : XX X d 0 (1264, [l0, l1, l2, l3, l4, l5, some (.int x), l7, l8], st, M) Q = XX X d 0 (1266, [l0, l1, l2, l3, l4, l5, some (.int x), l7, l8], .int x :: st, M) Q := H_ld rfl rfl rfl rfl rfl
theorem x0_1266 (h : -2147483648 ≤ p ∧ p ≤ 2147483647) : XX X d 0 (1266, L, .int (ii p) :: st, M) Q = bq (p ≠ 0) X d 0 1288 1269 L st M Q := H_if rfl ⟨rfl, rfl, rfl, by decide⟩ rfl rfl rfl rfl (D_ne (b := 0) (by omega))
theorem x0_1266b : XX X d 0 (1266, L, .int (ii (b2i b)) :: st, M) Q = bq (b = true) X d 0 1288 1269 L st M Q := (x0_1266 (b2i_r b)).trans (by rw [b2i_n0])
theorem x0_1269 : XX X d 0 (1269, [l0, l1, l2, some (.ref a), l4, l5, l6, l7, l8], st, M) Q = XX X d 0 (1270, [l0, l1, l2, some (.ref a), l4, l5, l6, l7, l8], .ref a :: st, M) Q := H_ld rfl rfl rfl rfl rfl
theorem x0_1270 : XX X d 0 (1270, L, st, M) Q = XX X d 0 (1271, L, .int (ii 0) :: st, M) Q := G_cst rfl rfl rfl rfl rfl
theorem x0_1271 : XX X d 0 (1271, L, .int x :: .ref a :: st, M) Q = xa (M.2.2 a) (aldT .laload) x (fun v => XX X d 0 (1272, L, v :: st, M) Q) := G_ald rfl ⟨⟨rfl, rfl, rfl, by decide⟩, rfl, rfl⟩ rfl rfl
theorem x0_1272 : XX X d 0 (1272, [l0, l1, l2, l3, l4, l5, l6, some (.int x), l8], st, M) Q = XX X d 0 (1274, [l0, l1, l2, l3, l4, l5, l6, some (.int x), l8], .int x :: st, M) Q := H_ld rfl rfl rfl rfl rfl
theorem x0_1274 (h : -2147483648 ≤ p ∧ p ≤ 2147483647) : XX X d 0 (1274, L, .int (ii p) :: st, M) Q = bq (p = 0) X d 0 1281 1277 L st M Q := H_if rfl ⟨rfl, rfl, rfl, by decide⟩ rfl rfl rfl rfl (D_eq (b := 0) (by omega))
theorem x0_1274b : XX X d 0 (1274, L, .int (ii (b2i b)) :: st, M) Q = bq (b = false) X d 0 1281 1277 L st M Q := (x0_1274 (b2i_r b)).trans (by rw [b2i_0])
theorem x0_1277 : XX X d 0 (1277, L, st, M) Q = XX X d 0 (1278, L, .long (Int64.ofInt 1) :: st, M) Q := G_cst rfl rfl rfl rfl rfl
theorem x0_1278 : XX X d 0 (1278, L, st, M) Q = XX X d 0 (1282, L, st, M) Q := H_jmp rfl (by decide) rfl
theorem x0_1281 : XX X d 0 (1281, L, st, M) Q = XX X d 0 (1282, L, .long (Int64.ofInt 0) :: st, M) Q := G_cst rfl rfl rfl rfl rfl
theorem x0_1282 : XX X d 0 (1282, L, .long y2 :: .long y :: st, M) Q = XX X d 0 (1283, L, .int (lg_cmp y y2) :: st, M) Q := G_sop rfl ⟨rfl, rfl, rfl, by decide⟩ rfl rfl
theorem x0_1283 (h : -2147483648 ≤ p ∧ p ≤ 2147483647) : XX X d 0 (1283, L, .int (ii p) :: st, M) Q = bq (p = 0) X d 0 1288 1286 L st M Q := H_if rfl ⟨rfl, rfl, rfl, by decide⟩ rfl rfl rfl rfl (D_eq (b := 0) (by omega))
theorem x0_1283b : XX X d 0 (1283, L, .int (ii (b2i b)) :: st, M) Q = bq (b = false) X d 0 1288 1286 L st M Q := (x0_1283 (b2i_r b)).trans (by rw [b2i_0])
theorem x0_1286 : XX X d 0 (1286, L, st, M) Q = XX X d 0 (1287, L, .int (ii 0) :: st, M) Q := G_cst rfl rfl rfl rfl rfl
theorem x0_1287 (h : bz p) : XX X d 0 (1287, L, [.int (ii p)], M) Q = Q (.inl (some (.int (ii p)))) M := G_ret rfl ⟨⟨⟨rfl, rfl, rfl, by decide⟩, rfl, rfl⟩, rfl, rfl⟩ (bz_ok h)
theorem x0_1288 : XX X d 0 (1288, L, st, M) Q = XX X d 0 (2632, L, st, M) Q := H_jmp rfl (by decide) rfl
theorem x0_1291 : XX X d 0 (1291, [l0, some (.ref a), l2, l3, l4, l5, l6, l7, l8], st, M) Q = XX X d 0 (1292, [l0, some (.ref a), l2, l3, l4, l5, l6, l7, l8], .ref a :: st, M) Q := H_ld rfl rfl rfl rfl rfl
theorem x0_1292 : XX X d 0 (1292, [some (.ref a), l1, l2, l3, l4, l5, l6, l7, l8], st, M) Q = XX X d 0 (1293, [some (.ref a), l1, l2, l3, l4, l5, l6, l7, l8], .ref a :: st, M) Q := H_ld rfl rfl rfl rfl rfl
theorem x0_1293 : XX X d 0 (1293, [l0, l1, l2, l3, l4, some (.int x), l6, l7, l8], st, M) Q = XX X d 0 (1295, [l0, l1, l2, l3, l4, some (.int x), l6, l7, l8], .int x :: st, M) Q := H_ld rfl rfl rfl rfl rfl
theorem x0_1295 : XX X d 0 (1295, L, st, M) Q = XX X d 0 (1296, L, .int (ii 1) :: st, M) Q := G_cst rfl rfl rfl rfl rfl
theorem x0_1296 : XX X d 0 (1296, L, .int (ii q) :: .int (ii p) :: st, M) Q = XX X d 0 (1297, L, .int (ii (p + q)) :: st, M) Q := H_add rfl (by decide) rfl
theorem x0_1297 (h : a = X.1 ∧ ¬ (x < 0 ∨ X.2.1 ≤ x.toNatClampNeg)) : XX X d 0 (1297, L, .int x :: .ref a :: st, M) Q = XX X d 0 (1298, L, .int (X.2.2 x.toNatClampNeg) :: st, M) Q := G_scr rfl rfl rfl rfl rfl (if_pos h)
theorem x0_1298 : XX X d 0 (1298, [some (.ref a), l1, l2, l3, l4, l5, l6, l7, l8], st, M) Q = XX X d 0 (1299, [some (.ref a), l1, l2, l3, l4, l5, l6, l7, l8], .ref a :: st, M) Q := H_ld rfl rfl rfl rfl rfl
theorem x0_1299 : XX X d 0 (1299, [l0, l1, l2, l3, l4, some (.int x), l6, l7, l8], st, M) Q = XX X d 0 (1301, [l0, l1, l2, l3, l4, some (.int x), l6, l7, l8], .int x :: st, M) Q := H_ld rfl rfl rfl rfl rfl
theorem x0_1301 : XX X d 0 (1301, L, st, M) Q = XX X d 0 (1302, L, .int (ii 2) :: st, M) Q := G_cst rfl rfl rfl rfl rfl
theorem x0_1302 : XX X d 0 (1302, L, .int (ii q) :: .int (ii p) :: st, M) Q = XX X d 0 (1303, L, .int (ii (p + q)) :: st, M) Q := H_add rfl (by decide) rfl
theorem x0_1303 (h : a = X.1 ∧ ¬ (x < 0 ∨ X.2.1 ≤ x.toNatClampNeg)) : XX X d 0 (1303, L, .int x :: .ref a :: st, M) Q = XX X d 0 (1304, L, .int (X.2.2 x.toNatClampNeg) :: st, M) Q := G_scr rfl rfl rfl rfl rfl (if_pos h)
theorem x0_1304 : XX X d 0 (1304, [l0, l1, l2, some (.ref a), l4, l5, l6, l7, l8], st, M) Q = XX X d 0 (1305, [l0, l1, l2, some (.ref a), l4, l5, l6, l7, l8], .ref a :: st, M) Q := H_ld rfl rfl rfl rfl rfl
theorem x0_1305 {v1 v2 v3 v4 : Value} (hd : 0 < d) (hs : stB st = true) : XX X d 0 (1305, L, v4 :: v3 :: v2 :: v1 :: st, M) Q = CC X (d - 1) 251 [v1, v2, v3, v4] M (XC X d 0 1305 1308 L st Q) := H_static [v1, v2, v3, v4] rfl (by decide) rfl rfl (by decide) rfl rfl hd hs
theorem x0_1308 (h : wide (some l5) = false) : XX X d 0 (1308, [l0, l1, l2, l3, l4, l5, l6, l7, l8], .int x :: st, M) Q = XX X d 0 (1310, [l0, l1, l2, l3, l4, l5, some (.int x), l7, l8], st, M) Q := H_st rfl rfl rfl rfl rfl rfl rfl rfl (Or.inr h)
theorem x0_1310 : XX X d 0 (1310, [l0, l1, some (.ref a), l3, l4, l5, l6, l7, l8], st, M) Q = XX X d 0 (1311, [l0, l1, some (.ref a), l3, l4, l5, l6, l7, l8], .ref a :: st, M) Q := H_ld rfl rfl rfl rfl rfl
theorem x0_1311 : XX X d 0 (1311, [some (.ref a), l1, l2, l3, l4, l5, l6, l7, l8], st, M) Q = XX X d 0 (1312, [some (.ref a), l1, l2, l3, l4, l5, l6, l7, l8], .ref a :: st, M) Q := H_ld rfl rfl rfl rfl rfl
theorem x0_1312 : XX X d 0 (1312, [l0, l1, l2, l3, l4, some (.int x), l6, l7, l8], st, M) Q = XX X d 0 (1314, [l0, l1, l2, l3, l4, some (.int x), l6, l7, l8], .int x :: st, M) Q := H_ld rfl rfl rfl rfl rfl
theorem x0_1314 : XX X d 0 (1314, L, st, M) Q = XX X d 0 (1315, L, .int (ii 1) :: st, M) Q := G_cst rfl rfl rfl rfl rfl
theorem x0_1315 : XX X d 0 (1315, L, .int (ii q) :: .int (ii p) :: st, M) Q = XX X d 0 (1316, L, .int (ii (p + q)) :: st, M) Q := H_add rfl (by decide) rfl
theorem x0_1316 (h : a = X.1 ∧ ¬ (x < 0 ∨ X.2.1 ≤ x.toNatClampNeg)) : XX X d 0 (1316, L, .int x :: .ref a :: st, M) Q = XX X d 0 (1317, L, .int (X.2.2 x.toNatClampNeg) :: st, M) Q := G_scr rfl rfl rfl rfl rfl (if_pos h)
theorem x0_1317 : XX X d 0 (1317, [some (.ref a), l1, l2, l3, l4, l5, l6, l7, l8], st, M) Q = XX X d 0 (1318, [some (.ref a), l1, l2, l3, l4, l5, l6, l7, l8], .ref a :: st, M) Q := H_ld rfl rfl rfl rfl rfl
theorem x0_1318 : XX X d 0 (1318, [l0, l1, l2, l3, l4, some (.int x), l6, l7, l8], st, M) Q = XX X d 0 (1320, [l0, l1, l2, l3, l4, some (.int x), l6, l7, l8], .int x :: st, M) Q := H_ld rfl rfl rfl rfl rfl
theorem x0_1320 : XX X d 0 (1320, L, st, M) Q = XX X d 0 (1321, L, .int (ii 2) :: st, M) Q := G_cst rfl rfl rfl rfl rfl
theorem x0_1321 : XX X d 0 (1321, L, .int (ii q) :: .int (ii p) :: st, M) Q = XX X d 0 (1322, L, .int (ii (p + q)) :: st, M) Q := H_add rfl (by decide) rfl
theorem x0_1322 (h : a = X.1 ∧ ¬ (x < 0 ∨ X.2.1 ≤ x.toNatClampNeg)) : XX X d 0 (1322, L, .int x :: .ref a :: st, M) Q = XX X d 0 (1323, L, .int (X.2.2 x.toNatClampNeg) :: st, M) Q := G_scr rfl rfl rfl rfl rfl (if_pos h)
theorem x0_1323 {v1 v2 : Value} (hd : 0 < d) (hs : stB st = true) : XX X d 0 (1323, L, v2 :: v1 :: .ref a :: st, M) Q = (mcl M a = some 9 ∧ CC X (d - 1) 204 [.ref a, v1, v2] M (XC X d 0 1323 1326 L st Q)) := H_virt [v1, v2] rfl (by decide) rfl rfl rfl rfl rfl hd hs
theorem x0_1326 (h : wide (some l6) = false) : XX X d 0 (1326, [l0, l1, l2, l3, l4, l5, l6, l7, l8], .int x :: st, M) Q = XX X d 0 (1328, [l0, l1, l2, l3, l4, l5, l6, some (.int x), l8], st, M) Q := H_st rfl rfl rfl rfl rfl rfl rfl rfl (Or.inr h)
theorem x0_1328 : XX X d 0 (1328, [l0, l1, some (.ref a), l3, l4, l5, l6, l7, l8], st, M) Q = XX X d 0 (1329, [l0, l1, some (.ref a), l3, l4, l5, l6, l7, l8], .ref a :: st, M) Q := H_ld rfl rfl rfl rfl rfl
theorem x0_1329 (hd : 0 < d) (hs : stB st = true) : XX X d 0 (1329, L, .ref a :: st, M) Q = (mcl M a = some 9 ∧ CC X (d - 1) 143 [.ref a] M (XC X d 0 1329 1332 L st Q)) := H_virt [] rfl (by decide) rfl rfl rfl rfl rfl hd hs
theorem x0_1332 : XX X d 0 (1332, [l0, l1, l2, l3, l4, l5, some (.int x), l7, l8], st, M) Q = XX X d 0 (1334, [l0, l1, l2, l3, l4, l5, some (.int x), l7, l8], .int x :: st, M) Q := H_ld rfl rfl rfl rfl rfl
theorem x0_1334 (h : -2147483648 ≤ p ∧ p ≤ 2147483647 ∧ -2147483648 ≤ q ∧ q ≤ 2147483647) : XX X d 0 (1334, L, .int (ii q) :: .int (ii p) :: st, M) Q = bq (p = q) X d 0 1339 1337 L st M Q := H_if2 rfl ⟨rfl, rfl, rfl, by decide⟩ rfl rfl rfl rfl (D_eq h)
theorem x0_1337 : XX X d 0 (1337, L, st, M) Q = XX X d 0 (1338, L, .int (ii 0) :: st, M) Q := G_cst rfl rfl rfl rfl rfl
theorem x0_1338 (h : bz p) : XX X d 0 (1338, L, [.int (ii p)], M) Q = Q (.inl (some (.int (ii p)))) M := G_ret rfl ⟨⟨⟨rfl, rfl, rfl, by decide⟩, rfl, rfl⟩, rfl, rfl⟩ (bz_ok h)
theorem x0_1339 : XX X d 0 (1339, [l0, l1, l2, l3, l4, l5, some (.int x), l7, l8], st, M) Q = XX X d 0 (1341, [l0, l1, l2, l3, l4, l5, some (.int x), l7, l8], .int x :: st, M) Q := H_ld rfl rfl rfl rfl rfl
theorem x0_1341 (h : -2147483648 ≤ p ∧ p ≤ 2147483647) : XX X d 0 (1341, L, .int (ii p) :: st, M) Q = bq (p ≠ 0) X d 0 1356 1344 L st M Q := H_if rfl ⟨rfl, rfl, rfl, by decide⟩ rfl rfl rfl rfl (D_ne (b := 0) (by omega))
theorem x0_1341b : XX X d 0 (1341, L, .int (ii (b2i b)) :: st, M) Q = bq (b = true) X d 0 1356 1344 L st M Q := (x0_1341 (b2i_r b)).trans (by rw [b2i_n0])
theorem x0_1344 : XX X d 0 (1344, [l0, l1, l2, some (.ref a), l4, l5, l6, l7, l8], st, M) Q = XX X d 0 (1345, [l0, l1, l2, some (.ref a), l4, l5, l6, l7, l8], .ref a :: st, M) Q := H_ld rfl rfl rfl rfl rfl
theorem x0_1345 : XX X d 0 (1345, L, st, M) Q = XX X d 0 (1346, L, .int (ii 0) :: st, M) Q := G_cst rfl rfl rfl rfl rfl
theorem x0_1346 : XX X d 0 (1346, L, .int x :: .ref a :: st, M) Q = xa (M.2.2 a) (aldT .laload) x (fun v => XX X d 0 (1347, L, v :: st, M) Q) := G_ald rfl ⟨⟨rfl, rfl, rfl, by decide⟩, rfl, rfl⟩ rfl rfl
theorem x0_1347 : XX X d 0 (1347, [l0, l1, l2, l3, l4, l5, l6, some (.int x), l8], st, M) Q = XX X d 0 (1349, [l0, l1, l2, l3, l4, l5, l6, some (.int x), l8], .int x :: st, M) Q := H_ld rfl rfl rfl rfl rfl
theorem x0_1349 : XX X d 0 (1349, L, .int x :: st, M) Q = XX X d 0 (1350, L, .long x.toInt64 :: st, M) Q := G_sop rfl ⟨rfl, rfl, rfl, by decide⟩ rfl rfl
theorem x0_1350 : XX X d 0 (1350, L, .long y2 :: .long y :: st, M) Q = XX X d 0 (1351, L, .int (lg_cmp y y2) :: st, M) Q := G_sop rfl ⟨rfl, rfl, rfl, by decide⟩ rfl rfl
theorem x0_1351 (h : -2147483648 ≤ p ∧ p ≤ 2147483647) : XX X d 0 (1351, L, .int (ii p) :: st, M) Q = bq (p = 0) X d 0 1356 1354 L st M Q := H_if rfl ⟨rfl, rfl, rfl, by decide⟩ rfl rfl rfl rfl (D_eq (b := 0) (by omega))
theorem x0_1351b : XX X d 0 (1351, L, .int (ii (b2i b)) :: st, M) Q = bq (b = false) X d 0 1356 1354 L st M Q := (x0_1351 (b2i_r b)).trans (by rw [b2i_0])
theorem x0_1354 : XX X d 0 (1354, L, st, M) Q = XX X d 0 (1355, L, .int (ii 0) :: st, M) Q := G_cst rfl rfl rfl rfl rfl
theorem x0_1355 (h : bz p) : XX X d 0 (1355, L, [.int (ii p)], M) Q = Q (.inl (some (.int (ii p)))) M := G_ret rfl ⟨⟨⟨rfl, rfl, rfl, by decide⟩, rfl, rfl⟩, rfl, rfl⟩ (bz_ok h)
theorem x0_1356 : XX X d 0 (1356, L, st, M) Q = XX X d 0 (2632, L, st, M) Q := H_jmp rfl (by decide) rfl
theorem x0_1359 : XX X d 0 (1359, [l0, some (.ref a), l2, l3, l4, l5, l6, l7, l8], st, M) Q = XX X d 0 (1360, [l0, some (.ref a), l2, l3, l4, l5, l6, l7, l8], .ref a :: st, M) Q := H_ld rfl rfl rfl rfl rfl
theorem x0_1360 : XX X d 0 (1360, [some (.ref a), l1, l2, l3, l4, l5, l6, l7, l8], st, M) Q = XX X d 0 (1361, [some (.ref a), l1, l2, l3, l4, l5, l6, l7, l8], .ref a :: st, M) Q := H_ld rfl rfl rfl rfl rfl
theorem x0_1361 : XX X d 0 (1361, [l0, l1, l2, l3, l4, some (.int x), l6, l7, l8], st, M) Q = XX X d 0 (1363, [l0, l1, l2, l3, l4, some (.int x), l6, l7, l8], .int x :: st, M) Q := H_ld rfl rfl rfl rfl rfl
theorem x0_1363 : XX X d 0 (1363, L, st, M) Q = XX X d 0 (1364, L, .int (ii 1) :: st, M) Q := G_cst rfl rfl rfl rfl rfl
theorem x0_1364 : XX X d 0 (1364, L, .int (ii q) :: .int (ii p) :: st, M) Q = XX X d 0 (1365, L, .int (ii (p + q)) :: st, M) Q := H_add rfl (by decide) rfl
theorem x0_1365 (h : a = X.1 ∧ ¬ (x < 0 ∨ X.2.1 ≤ x.toNatClampNeg)) : XX X d 0 (1365, L, .int x :: .ref a :: st, M) Q = XX X d 0 (1366, L, .int (X.2.2 x.toNatClampNeg) :: st, M) Q := G_scr rfl rfl rfl rfl rfl (if_pos h)
theorem x0_1366 : XX X d 0 (1366, [some (.ref a), l1, l2, l3, l4, l5, l6, l7, l8], st, M) Q = XX X d 0 (1367, [some (.ref a), l1, l2, l3, l4, l5, l6, l7, l8], .ref a :: st, M) Q := H_ld rfl rfl rfl rfl rfl
theorem x0_1367 : XX X d 0 (1367, [l0, l1, l2, l3, l4, some (.int x), l6, l7, l8], st, M) Q = XX X d 0 (1369, [l0, l1, l2, l3, l4, some (.int x), l6, l7, l8], .int x :: st, M) Q := H_ld rfl rfl rfl rfl rfl
theorem x0_1369 : XX X d 0 (1369, L, st, M) Q = XX X d 0 (1370, L, .int (ii 2) :: st, M) Q := G_cst rfl rfl rfl rfl rfl
theorem x0_1370 : XX X d 0 (1370, L, .int (ii q) :: .int (ii p) :: st, M) Q = XX X d 0 (1371, L, .int (ii (p + q)) :: st, M) Q := H_add rfl (by decide) rfl
theorem x0_1371 (h : a = X.1 ∧ ¬ (x < 0 ∨ X.2.1 ≤ x.toNatClampNeg)) : XX X d 0 (1371, L, .int x :: .ref a :: st, M) Q = XX X d 0 (1372, L, .int (X.2.2 x.toNatClampNeg) :: st, M) Q := G_scr rfl rfl rfl rfl rfl (if_pos h)
theorem x0_1372 : XX X d 0 (1372, [l0, l1, l2, some (.ref a), l4, l5, l6, l7, l8], st, M) Q = XX X d 0 (1373, [l0, l1, l2, some (.ref a), l4, l5, l6, l7, l8], .ref a :: st, M) Q := H_ld rfl rfl rfl rfl rfl
theorem x0_1373 {v1 v2 v3 v4 : Value} (hd : 0 < d) (hs : stB st = true) : XX X d 0 (1373, L, v4 :: v3 :: v2 :: v1 :: st, M) Q = CC X (d - 1) 252 [v1, v2, v3, v4] M (XC X d 0 1373 1376 L st Q) := H_static [v1, v2, v3, v4] rfl (by decide) rfl rfl (by decide) rfl rfl hd hs
theorem x0_1376 (h : wide (some l5) = false) : XX X d 0 (1376, [l0, l1, l2, l3, l4, l5, l6, l7, l8], .int x :: st, M) Q = XX X d 0 (1378, [l0, l1, l2, l3, l4, l5, some (.int x), l7, l8], st, M) Q := H_st rfl rfl rfl rfl rfl rfl rfl rfl (Or.inr h)
theorem x0_1378 : XX X d 0 (1378, [l0, l1, some (.ref a), l3, l4, l5, l6, l7, l8], st, M) Q = XX X d 0 (1379, [l0, l1, some (.ref a), l3, l4, l5, l6, l7, l8], .ref a :: st, M) Q := H_ld rfl rfl rfl rfl rfl
theorem x0_1379 : XX X d 0 (1379, [some (.ref a), l1, l2, l3, l4, l5, l6, l7, l8], st, M) Q = XX X d 0 (1380, [some (.ref a), l1, l2, l3, l4, l5, l6, l7, l8], .ref a :: st, M) Q := H_ld rfl rfl rfl rfl rfl
theorem x0_1380 : XX X d 0 (1380, [l0, l1, l2, l3, l4, some (.int x), l6, l7, l8], st, M) Q = XX X d 0 (1382, [l0, l1, l2, l3, l4, some (.int x), l6, l7, l8], .int x :: st, M) Q := H_ld rfl rfl rfl rfl rfl
theorem x0_1382 : XX X d 0 (1382, L, st, M) Q = XX X d 0 (1383, L, .int (ii 1) :: st, M) Q := G_cst rfl rfl rfl rfl rfl
theorem x0_1383 : XX X d 0 (1383, L, .int (ii q) :: .int (ii p) :: st, M) Q = XX X d 0 (1384, L, .int (ii (p + q)) :: st, M) Q := H_add rfl (by decide) rfl
theorem x0_1384 (h : a = X.1 ∧ ¬ (x < 0 ∨ X.2.1 ≤ x.toNatClampNeg)) : XX X d 0 (1384, L, .int x :: .ref a :: st, M) Q = XX X d 0 (1385, L, .int (X.2.2 x.toNatClampNeg) :: st, M) Q := G_scr rfl rfl rfl rfl rfl (if_pos h)
theorem x0_1385 : XX X d 0 (1385, [some (.ref a), l1, l2, l3, l4, l5, l6, l7, l8], st, M) Q = XX X d 0 (1386, [some (.ref a), l1, l2, l3, l4, l5, l6, l7, l8], .ref a :: st, M) Q := H_ld rfl rfl rfl rfl rfl
theorem x0_1386 : XX X d 0 (1386, [l0, l1, l2, l3, l4, some (.int x), l6, l7, l8], st, M) Q = XX X d 0 (1388, [l0, l1, l2, l3, l4, some (.int x), l6, l7, l8], .int x :: st, M) Q := H_ld rfl rfl rfl rfl rfl
theorem x0_1388 : XX X d 0 (1388, L, st, M) Q = XX X d 0 (1389, L, .int (ii 2) :: st, M) Q := G_cst rfl rfl rfl rfl rfl
theorem x0_1389 : XX X d 0 (1389, L, .int (ii q) :: .int (ii p) :: st, M) Q = XX X d 0 (1390, L, .int (ii (p + q)) :: st, M) Q := H_add rfl (by decide) rfl
theorem x0_1390 (h : a = X.1 ∧ ¬ (x < 0 ∨ X.2.1 ≤ x.toNatClampNeg)) : XX X d 0 (1390, L, .int x :: .ref a :: st, M) Q = XX X d 0 (1391, L, .int (X.2.2 x.toNatClampNeg) :: st, M) Q := G_scr rfl rfl rfl rfl rfl (if_pos h)
theorem x0_1391 {v1 v2 : Value} (hd : 0 < d) (hs : stB st = true) : XX X d 0 (1391, L, v2 :: v1 :: .ref a :: st, M) Q = (mcl M a = some 9 ∧ CC X (d - 1) 205 [.ref a, v1, v2] M (XC X d 0 1391 1394 L st Q)) := H_virt [v1, v2] rfl (by decide) rfl rfl rfl rfl rfl hd hs
theorem x0_1394 (h : wide (some l6) = false) : XX X d 0 (1394, [l0, l1, l2, l3, l4, l5, l6, l7, l8], .int x :: st, M) Q = XX X d 0 (1396, [l0, l1, l2, l3, l4, l5, l6, some (.int x), l8], st, M) Q := H_st rfl rfl rfl rfl rfl rfl rfl rfl (Or.inr h)
theorem x0_1396 : XX X d 0 (1396, [l0, l1, some (.ref a), l3, l4, l5, l6, l7, l8], st, M) Q = XX X d 0 (1397, [l0, l1, some (.ref a), l3, l4, l5, l6, l7, l8], .ref a :: st, M) Q := H_ld rfl rfl rfl rfl rfl
theorem x0_1397 (hd : 0 < d) (hs : stB st = true) : XX X d 0 (1397, L, .ref a :: st, M) Q = (mcl M a = some 9 ∧ CC X (d - 1) 143 [.ref a] M (XC X d 0 1397 1400 L st Q)) := H_virt [] rfl (by decide) rfl rfl rfl rfl rfl hd hs
theorem x0_1400 : XX X d 0 (1400, [l0, l1, l2, l3, l4, l5, some (.int x), l7, l8], st, M) Q = XX X d 0 (1402, [l0, l1, l2, l3, l4, l5, some (.int x), l7, l8], .int x :: st, M) Q := H_ld rfl rfl rfl rfl rfl
theorem x0_1402 (h : -2147483648 ≤ p ∧ p ≤ 2147483647 ∧ -2147483648 ≤ q ∧ q ≤ 2147483647) : XX X d 0 (1402, L, .int (ii q) :: .int (ii p) :: st, M) Q = bq (p = q) X d 0 1407 1405 L st M Q := H_if2 rfl ⟨rfl, rfl, rfl, by decide⟩ rfl rfl rfl rfl (D_eq h)
theorem x0_1405 : XX X d 0 (1405, L, st, M) Q = XX X d 0 (1406, L, .int (ii 0) :: st, M) Q := G_cst rfl rfl rfl rfl rfl
theorem x0_1406 (h : bz p) : XX X d 0 (1406, L, [.int (ii p)], M) Q = Q (.inl (some (.int (ii p)))) M := G_ret rfl ⟨⟨⟨rfl, rfl, rfl, by decide⟩, rfl, rfl⟩, rfl, rfl⟩ (bz_ok h)
theorem x0_1407 : XX X d 0 (1407, [l0, l1, l2, l3, l4, l5, some (.int x), l7, l8], st, M) Q = XX X d 0 (1409, [l0, l1, l2, l3, l4, l5, some (.int x), l7, l8], .int x :: st, M) Q := H_ld rfl rfl rfl rfl rfl
theorem x0_1409 (h : -2147483648 ≤ p ∧ p ≤ 2147483647) : XX X d 0 (1409, L, .int (ii p) :: st, M) Q = bq (p ≠ 0) X d 0 1424 1412 L st M Q := H_if rfl ⟨rfl, rfl, rfl, by decide⟩ rfl rfl rfl rfl (D_ne (b := 0) (by omega))
theorem x0_1409b : XX X d 0 (1409, L, .int (ii (b2i b)) :: st, M) Q = bq (b = true) X d 0 1424 1412 L st M Q := (x0_1409 (b2i_r b)).trans (by rw [b2i_n0])
theorem x0_1412 : XX X d 0 (1412, [l0, l1, l2, some (.ref a), l4, l5, l6, l7, l8], st, M) Q = XX X d 0 (1413, [l0, l1, l2, some (.ref a), l4, l5, l6, l7, l8], .ref a :: st, M) Q := H_ld rfl rfl rfl rfl rfl
theorem x0_1413 : XX X d 0 (1413, L, st, M) Q = XX X d 0 (1414, L, .int (ii 0) :: st, M) Q := G_cst rfl rfl rfl rfl rfl
theorem x0_1414 : XX X d 0 (1414, L, .int x :: .ref a :: st, M) Q = xa (M.2.2 a) (aldT .laload) x (fun v => XX X d 0 (1415, L, v :: st, M) Q) := G_ald rfl ⟨⟨rfl, rfl, rfl, by decide⟩, rfl, rfl⟩ rfl rfl
theorem x0_1415 : XX X d 0 (1415, [l0, l1, l2, l3, l4, l5, l6, some (.int x), l8], st, M) Q = XX X d 0 (1417, [l0, l1, l2, l3, l4, l5, l6, some (.int x), l8], .int x :: st, M) Q := H_ld rfl rfl rfl rfl rfl
theorem x0_1417 : XX X d 0 (1417, L, .int x :: st, M) Q = XX X d 0 (1418, L, .long x.toInt64 :: st, M) Q := G_sop rfl ⟨rfl, rfl, rfl, by decide⟩ rfl rfl
theorem x0_1418 : XX X d 0 (1418, L, .long y2 :: .long y :: st, M) Q = XX X d 0 (1419, L, .int (lg_cmp y y2) :: st, M) Q := G_sop rfl ⟨rfl, rfl, rfl, by decide⟩ rfl rfl
theorem x0_1419 (h : -2147483648 ≤ p ∧ p ≤ 2147483647) : XX X d 0 (1419, L, .int (ii p) :: st, M) Q = bq (p = 0) X d 0 1424 1422 L st M Q := H_if rfl ⟨rfl, rfl, rfl, by decide⟩ rfl rfl rfl rfl (D_eq (b := 0) (by omega))
theorem x0_1419b : XX X d 0 (1419, L, .int (ii (b2i b)) :: st, M) Q = bq (b = false) X d 0 1424 1422 L st M Q := (x0_1419 (b2i_r b)).trans (by rw [b2i_0])
theorem x0_1422 : XX X d 0 (1422, L, st, M) Q = XX X d 0 (1423, L, .int (ii 0) :: st, M) Q := G_cst rfl rfl rfl rfl rfl
theorem x0_1423 (h : bz p) : XX X d 0 (1423, L, [.int (ii p)], M) Q = Q (.inl (some (.int (ii p)))) M := G_ret rfl ⟨⟨⟨rfl, rfl, rfl, by decide⟩, rfl, rfl⟩, rfl, rfl⟩ (bz_ok h)
theorem x0_1424 : XX X d 0 (1424, L, st, M) Q = XX X d 0 (2632, L, st, M) Q := H_jmp rfl (by decide) rfl
theorem x0_1427 : XX X d 0 (1427, [l0, some (.ref a), l2, l3, l4, l5, l6, l7, l8], st, M) Q = XX X d 0 (1428, [l0, some (.ref a), l2, l3, l4, l5, l6, l7, l8], .ref a :: st, M) Q := H_ld rfl rfl rfl rfl rfl
theorem x0_1428 : XX X d 0 (1428, [some (.ref a), l1, l2, l3, l4, l5, l6, l7, l8], st, M) Q = XX X d 0 (1429, [some (.ref a), l1, l2, l3, l4, l5, l6, l7, l8], .ref a :: st, M) Q := H_ld rfl rfl rfl rfl rfl
theorem x0_1429 : XX X d 0 (1429, [l0, l1, l2, l3, l4, some (.int x), l6, l7, l8], st, M) Q = XX X d 0 (1431, [l0, l1, l2, l3, l4, some (.int x), l6, l7, l8], .int x :: st, M) Q := H_ld rfl rfl rfl rfl rfl
theorem x0_1431 : XX X d 0 (1431, L, st, M) Q = XX X d 0 (1432, L, .int (ii 1) :: st, M) Q := G_cst rfl rfl rfl rfl rfl
theorem x0_1432 : XX X d 0 (1432, L, .int (ii q) :: .int (ii p) :: st, M) Q = XX X d 0 (1433, L, .int (ii (p + q)) :: st, M) Q := H_add rfl (by decide) rfl
theorem x0_1433 (h : a = X.1 ∧ ¬ (x < 0 ∨ X.2.1 ≤ x.toNatClampNeg)) : XX X d 0 (1433, L, .int x :: .ref a :: st, M) Q = XX X d 0 (1434, L, .int (X.2.2 x.toNatClampNeg) :: st, M) Q := G_scr rfl rfl rfl rfl rfl (if_pos h)
theorem x0_1434 : XX X d 0 (1434, [some (.ref a), l1, l2, l3, l4, l5, l6, l7, l8], st, M) Q = XX X d 0 (1435, [some (.ref a), l1, l2, l3, l4, l5, l6, l7, l8], .ref a :: st, M) Q := H_ld rfl rfl rfl rfl rfl
theorem x0_1435 : XX X d 0 (1435, [l0, l1, l2, l3, l4, some (.int x), l6, l7, l8], st, M) Q = XX X d 0 (1437, [l0, l1, l2, l3, l4, some (.int x), l6, l7, l8], .int x :: st, M) Q := H_ld rfl rfl rfl rfl rfl
theorem x0_1437 : XX X d 0 (1437, L, st, M) Q = XX X d 0 (1438, L, .int (ii 2) :: st, M) Q := G_cst rfl rfl rfl rfl rfl
theorem x0_1438 : XX X d 0 (1438, L, .int (ii q) :: .int (ii p) :: st, M) Q = XX X d 0 (1439, L, .int (ii (p + q)) :: st, M) Q := H_add rfl (by decide) rfl
theorem x0_1439 (h : a = X.1 ∧ ¬ (x < 0 ∨ X.2.1 ≤ x.toNatClampNeg)) : XX X d 0 (1439, L, .int x :: .ref a :: st, M) Q = XX X d 0 (1440, L, .int (X.2.2 x.toNatClampNeg) :: st, M) Q := G_scr rfl rfl rfl rfl rfl (if_pos h)
theorem x0_1440 : XX X d 0 (1440, [l0, l1, l2, some (.ref a), l4, l5, l6, l7, l8], st, M) Q = XX X d 0 (1441, [l0, l1, l2, some (.ref a), l4, l5, l6, l7, l8], .ref a :: st, M) Q := H_ld rfl rfl rfl rfl rfl
theorem x0_1441 {v1 v2 v3 v4 : Value} (hd : 0 < d) (hs : stB st = true) : XX X d 0 (1441, L, v4 :: v3 :: v2 :: v1 :: st, M) Q = CC X (d - 1) 253 [v1, v2, v3, v4] M (XC X d 0 1441 1444 L st Q) := H_static [v1, v2, v3, v4] rfl (by decide) rfl rfl (by decide) rfl rfl hd hs
theorem x0_1444 (h : wide (some l5) = false) : XX X d 0 (1444, [l0, l1, l2, l3, l4, l5, l6, l7, l8], .int x :: st, M) Q = XX X d 0 (1446, [l0, l1, l2, l3, l4, l5, some (.int x), l7, l8], st, M) Q := H_st rfl rfl rfl rfl rfl rfl rfl rfl (Or.inr h)
theorem x0_1446 : XX X d 0 (1446, [l0, l1, some (.ref a), l3, l4, l5, l6, l7, l8], st, M) Q = XX X d 0 (1447, [l0, l1, some (.ref a), l3, l4, l5, l6, l7, l8], .ref a :: st, M) Q := H_ld rfl rfl rfl rfl rfl
theorem x0_1447 : XX X d 0 (1447, [some (.ref a), l1, l2, l3, l4, l5, l6, l7, l8], st, M) Q = XX X d 0 (1448, [some (.ref a), l1, l2, l3, l4, l5, l6, l7, l8], .ref a :: st, M) Q := H_ld rfl rfl rfl rfl rfl
theorem x0_1448 : XX X d 0 (1448, [l0, l1, l2, l3, l4, some (.int x), l6, l7, l8], st, M) Q = XX X d 0 (1450, [l0, l1, l2, l3, l4, some (.int x), l6, l7, l8], .int x :: st, M) Q := H_ld rfl rfl rfl rfl rfl
theorem x0_1450 : XX X d 0 (1450, L, st, M) Q = XX X d 0 (1451, L, .int (ii 1) :: st, M) Q := G_cst rfl rfl rfl rfl rfl
theorem x0_1451 : XX X d 0 (1451, L, .int (ii q) :: .int (ii p) :: st, M) Q = XX X d 0 (1452, L, .int (ii (p + q)) :: st, M) Q := H_add rfl (by decide) rfl
theorem x0_1452 (h : a = X.1 ∧ ¬ (x < 0 ∨ X.2.1 ≤ x.toNatClampNeg)) : XX X d 0 (1452, L, .int x :: .ref a :: st, M) Q = XX X d 0 (1453, L, .int (X.2.2 x.toNatClampNeg) :: st, M) Q := G_scr rfl rfl rfl rfl rfl (if_pos h)
theorem x0_1453 : XX X d 0 (1453, [some (.ref a), l1, l2, l3, l4, l5, l6, l7, l8], st, M) Q = XX X d 0 (1454, [some (.ref a), l1, l2, l3, l4, l5, l6, l7, l8], .ref a :: st, M) Q := H_ld rfl rfl rfl rfl rfl
theorem x0_1454 : XX X d 0 (1454, [l0, l1, l2, l3, l4, some (.int x), l6, l7, l8], st, M) Q = XX X d 0 (1456, [l0, l1, l2, l3, l4, some (.int x), l6, l7, l8], .int x :: st, M) Q := H_ld rfl rfl rfl rfl rfl
theorem x0_1456 : XX X d 0 (1456, L, st, M) Q = XX X d 0 (1457, L, .int (ii 2) :: st, M) Q := G_cst rfl rfl rfl rfl rfl
theorem x0_1457 : XX X d 0 (1457, L, .int (ii q) :: .int (ii p) :: st, M) Q = XX X d 0 (1458, L, .int (ii (p + q)) :: st, M) Q := H_add rfl (by decide) rfl
theorem x0_1458 (h : a = X.1 ∧ ¬ (x < 0 ∨ X.2.1 ≤ x.toNatClampNeg)) : XX X d 0 (1458, L, .int x :: .ref a :: st, M) Q = XX X d 0 (1459, L, .int (X.2.2 x.toNatClampNeg) :: st, M) Q := G_scr rfl rfl rfl rfl rfl (if_pos h)
theorem x0_1459 {v1 v2 : Value} (hd : 0 < d) (hs : stB st = true) : XX X d 0 (1459, L, v2 :: v1 :: .ref a :: st, M) Q = (mcl M a = some 9 ∧ CC X (d - 1) 206 [.ref a, v1, v2] M (XC X d 0 1459 1462 L st Q)) := H_virt [v1, v2] rfl (by decide) rfl rfl rfl rfl rfl hd hs
theorem x0_1462 (h : wide (some l6) = false) : XX X d 0 (1462, [l0, l1, l2, l3, l4, l5, l6, l7, l8], .int x :: st, M) Q = XX X d 0 (1464, [l0, l1, l2, l3, l4, l5, l6, some (.int x), l8], st, M) Q := H_st rfl rfl rfl rfl rfl rfl rfl rfl (Or.inr h)
theorem x0_1464 : XX X d 0 (1464, [l0, l1, some (.ref a), l3, l4, l5, l6, l7, l8], st, M) Q = XX X d 0 (1465, [l0, l1, some (.ref a), l3, l4, l5, l6, l7, l8], .ref a :: st, M) Q := H_ld rfl rfl rfl rfl rfl
theorem x0_1465 (hd : 0 < d) (hs : stB st = true) : XX X d 0 (1465, L, .ref a :: st, M) Q = (mcl M a = some 9 ∧ CC X (d - 1) 143 [.ref a] M (XC X d 0 1465 1468 L st Q)) := H_virt [] rfl (by decide) rfl rfl rfl rfl rfl hd hs
theorem x0_1468 : XX X d 0 (1468, [l0, l1, l2, l3, l4, l5, some (.int x), l7, l8], st, M) Q = XX X d 0 (1470, [l0, l1, l2, l3, l4, l5, some (.int x), l7, l8], .int x :: st, M) Q := H_ld rfl rfl rfl rfl rfl
theorem x0_1470 (h : -2147483648 ≤ p ∧ p ≤ 2147483647 ∧ -2147483648 ≤ q ∧ q ≤ 2147483647) : XX X d 0 (1470, L, .int (ii q) :: .int (ii p) :: st, M) Q = bq (p = q) X d 0 1475 1473 L st M Q := H_if2 rfl ⟨rfl, rfl, rfl, by decide⟩ rfl rfl rfl rfl (D_eq h)
theorem x0_1473 : XX X d 0 (1473, L, st, M) Q = XX X d 0 (1474, L, .int (ii 0) :: st, M) Q := G_cst rfl rfl rfl rfl rfl
theorem x0_1474 (h : bz p) : XX X d 0 (1474, L, [.int (ii p)], M) Q = Q (.inl (some (.int (ii p)))) M := G_ret rfl ⟨⟨⟨rfl, rfl, rfl, by decide⟩, rfl, rfl⟩, rfl, rfl⟩ (bz_ok h)
theorem x0_1475 : XX X d 0 (1475, [l0, l1, l2, l3, l4, l5, some (.int x), l7, l8], st, M) Q = XX X d 0 (1477, [l0, l1, l2, l3, l4, l5, some (.int x), l7, l8], .int x :: st, M) Q := H_ld rfl rfl rfl rfl rfl
theorem x0_1477 (h : -2147483648 ≤ p ∧ p ≤ 2147483647) : XX X d 0 (1477, L, .int (ii p) :: st, M) Q = bq (p ≠ 0) X d 0 1492 1480 L st M Q := H_if rfl ⟨rfl, rfl, rfl, by decide⟩ rfl rfl rfl rfl (D_ne (b := 0) (by omega))
theorem x0_1477b : XX X d 0 (1477, L, .int (ii (b2i b)) :: st, M) Q = bq (b = true) X d 0 1492 1480 L st M Q := (x0_1477 (b2i_r b)).trans (by rw [b2i_n0])
theorem x0_1480 : XX X d 0 (1480, [l0, l1, l2, some (.ref a), l4, l5, l6, l7, l8], st, M) Q = XX X d 0 (1481, [l0, l1, l2, some (.ref a), l4, l5, l6, l7, l8], .ref a :: st, M) Q := H_ld rfl rfl rfl rfl rfl
theorem x0_1481 : XX X d 0 (1481, L, st, M) Q = XX X d 0 (1482, L, .int (ii 0) :: st, M) Q := G_cst rfl rfl rfl rfl rfl
theorem x0_1482 : XX X d 0 (1482, L, .int x :: .ref a :: st, M) Q = xa (M.2.2 a) (aldT .laload) x (fun v => XX X d 0 (1483, L, v :: st, M) Q) := G_ald rfl ⟨⟨rfl, rfl, rfl, by decide⟩, rfl, rfl⟩ rfl rfl
theorem x0_1483 : XX X d 0 (1483, [l0, l1, l2, l3, l4, l5, l6, some (.int x), l8], st, M) Q = XX X d 0 (1485, [l0, l1, l2, l3, l4, l5, l6, some (.int x), l8], .int x :: st, M) Q := H_ld rfl rfl rfl rfl rfl
theorem x0_1485 : XX X d 0 (1485, L, .int x :: st, M) Q = XX X d 0 (1486, L, .long x.toInt64 :: st, M) Q := G_sop rfl ⟨rfl, rfl, rfl, by decide⟩ rfl rfl
theorem x0_1486 : XX X d 0 (1486, L, .long y2 :: .long y :: st, M) Q = XX X d 0 (1487, L, .int (lg_cmp y y2) :: st, M) Q := G_sop rfl ⟨rfl, rfl, rfl, by decide⟩ rfl rfl
theorem x0_1487 (h : -2147483648 ≤ p ∧ p ≤ 2147483647) : XX X d 0 (1487, L, .int (ii p) :: st, M) Q = bq (p = 0) X d 0 1492 1490 L st M Q := H_if rfl ⟨rfl, rfl, rfl, by decide⟩ rfl rfl rfl rfl (D_eq (b := 0) (by omega))
theorem x0_1487b : XX X d 0 (1487, L, .int (ii (b2i b)) :: st, M) Q = bq (b = false) X d 0 1492 1490 L st M Q := (x0_1487 (b2i_r b)).trans (by rw [b2i_0])
theorem x0_1490 : XX X d 0 (1490, L, st, M) Q = XX X d 0 (1491, L, .int (ii 0) :: st, M) Q := G_cst rfl rfl rfl rfl rfl
theorem x0_1491 (h : bz p) : XX X d 0 (1491, L, [.int (ii p)], M) Q = Q (.inl (some (.int (ii p)))) M := G_ret rfl ⟨⟨⟨rfl, rfl, rfl, by decide⟩, rfl, rfl⟩, rfl, rfl⟩ (bz_ok h)
theorem x0_1492 : XX X d 0 (1492, L, st, M) Q = XX X d 0 (2632, L, st, M) Q := H_jmp rfl (by decide) rfl
theorem x0_1495 : XX X d 0 (1495, [l0, some (.ref a), l2, l3, l4, l5, l6, l7, l8], st, M) Q = XX X d 0 (1496, [l0, some (.ref a), l2, l3, l4, l5, l6, l7, l8], .ref a :: st, M) Q := H_ld rfl rfl rfl rfl rfl
theorem x0_1496 : XX X d 0 (1496, [some (.ref a), l1, l2, l3, l4, l5, l6, l7, l8], st, M) Q = XX X d 0 (1497, [some (.ref a), l1, l2, l3, l4, l5, l6, l7, l8], .ref a :: st, M) Q := H_ld rfl rfl rfl rfl rfl
theorem x0_1497 : XX X d 0 (1497, [l0, l1, l2, l3, l4, some (.int x), l6, l7, l8], st, M) Q = XX X d 0 (1499, [l0, l1, l2, l3, l4, some (.int x), l6, l7, l8], .int x :: st, M) Q := H_ld rfl rfl rfl rfl rfl
theorem x0_1499 : XX X d 0 (1499, L, st, M) Q = XX X d 0 (1500, L, .int (ii 1) :: st, M) Q := G_cst rfl rfl rfl rfl rfl
theorem x0_1500 : XX X d 0 (1500, L, .int (ii q) :: .int (ii p) :: st, M) Q = XX X d 0 (1501, L, .int (ii (p + q)) :: st, M) Q := H_add rfl (by decide) rfl
theorem x0_1501 (h : a = X.1 ∧ ¬ (x < 0 ∨ X.2.1 ≤ x.toNatClampNeg)) : XX X d 0 (1501, L, .int x :: .ref a :: st, M) Q = XX X d 0 (1502, L, .int (X.2.2 x.toNatClampNeg) :: st, M) Q := G_scr rfl rfl rfl rfl rfl (if_pos h)
theorem x0_1502 : XX X d 0 (1502, [some (.ref a), l1, l2, l3, l4, l5, l6, l7, l8], st, M) Q = XX X d 0 (1503, [some (.ref a), l1, l2, l3, l4, l5, l6, l7, l8], .ref a :: st, M) Q := H_ld rfl rfl rfl rfl rfl
theorem x0_1503 : XX X d 0 (1503, [l0, l1, l2, l3, l4, some (.int x), l6, l7, l8], st, M) Q = XX X d 0 (1505, [l0, l1, l2, l3, l4, some (.int x), l6, l7, l8], .int x :: st, M) Q := H_ld rfl rfl rfl rfl rfl
theorem x0_1505 : XX X d 0 (1505, L, st, M) Q = XX X d 0 (1506, L, .int (ii 2) :: st, M) Q := G_cst rfl rfl rfl rfl rfl
theorem x0_1506 : XX X d 0 (1506, L, .int (ii q) :: .int (ii p) :: st, M) Q = XX X d 0 (1507, L, .int (ii (p + q)) :: st, M) Q := H_add rfl (by decide) rfl
theorem x0_1507 (h : a = X.1 ∧ ¬ (x < 0 ∨ X.2.1 ≤ x.toNatClampNeg)) : XX X d 0 (1507, L, .int x :: .ref a :: st, M) Q = XX X d 0 (1508, L, .int (X.2.2 x.toNatClampNeg) :: st, M) Q := G_scr rfl rfl rfl rfl rfl (if_pos h)
theorem x0_1508 : XX X d 0 (1508, [l0, l1, l2, some (.ref a), l4, l5, l6, l7, l8], st, M) Q = XX X d 0 (1509, [l0, l1, l2, some (.ref a), l4, l5, l6, l7, l8], .ref a :: st, M) Q := H_ld rfl rfl rfl rfl rfl
theorem x0_1509 {v1 v2 v3 v4 : Value} (hd : 0 < d) (hs : stB st = true) : XX X d 0 (1509, L, v4 :: v3 :: v2 :: v1 :: st, M) Q = CC X (d - 1) 254 [v1, v2, v3, v4] M (XC X d 0 1509 1512 L st Q) := H_static [v1, v2, v3, v4] rfl (by decide) rfl rfl (by decide) rfl rfl hd hs
theorem x0_1512 (h : wide (some l5) = false) : XX X d 0 (1512, [l0, l1, l2, l3, l4, l5, l6, l7, l8], .int x :: st, M) Q = XX X d 0 (1514, [l0, l1, l2, l3, l4, l5, some (.int x), l7, l8], st, M) Q := H_st rfl rfl rfl rfl rfl rfl rfl rfl (Or.inr h)
theorem x0_1514 : XX X d 0 (1514, [l0, l1, some (.ref a), l3, l4, l5, l6, l7, l8], st, M) Q = XX X d 0 (1515, [l0, l1, some (.ref a), l3, l4, l5, l6, l7, l8], .ref a :: st, M) Q := H_ld rfl rfl rfl rfl rfl
theorem x0_1515 : XX X d 0 (1515, [some (.ref a), l1, l2, l3, l4, l5, l6, l7, l8], st, M) Q = XX X d 0 (1516, [some (.ref a), l1, l2, l3, l4, l5, l6, l7, l8], .ref a :: st, M) Q := H_ld rfl rfl rfl rfl rfl
theorem x0_1516 : XX X d 0 (1516, [l0, l1, l2, l3, l4, some (.int x), l6, l7, l8], st, M) Q = XX X d 0 (1518, [l0, l1, l2, l3, l4, some (.int x), l6, l7, l8], .int x :: st, M) Q := H_ld rfl rfl rfl rfl rfl
theorem x0_1518 : XX X d 0 (1518, L, st, M) Q = XX X d 0 (1519, L, .int (ii 1) :: st, M) Q := G_cst rfl rfl rfl rfl rfl
theorem x0_1519 : XX X d 0 (1519, L, .int (ii q) :: .int (ii p) :: st, M) Q = XX X d 0 (1520, L, .int (ii (p + q)) :: st, M) Q := H_add rfl (by decide) rfl
theorem x0_1520 (h : a = X.1 ∧ ¬ (x < 0 ∨ X.2.1 ≤ x.toNatClampNeg)) : XX X d 0 (1520, L, .int x :: .ref a :: st, M) Q = XX X d 0 (1521, L, .int (X.2.2 x.toNatClampNeg) :: st, M) Q := G_scr rfl rfl rfl rfl rfl (if_pos h)
theorem x0_1521 : XX X d 0 (1521, [some (.ref a), l1, l2, l3, l4, l5, l6, l7, l8], st, M) Q = XX X d 0 (1522, [some (.ref a), l1, l2, l3, l4, l5, l6, l7, l8], .ref a :: st, M) Q := H_ld rfl rfl rfl rfl rfl
theorem x0_1522 : XX X d 0 (1522, [l0, l1, l2, l3, l4, some (.int x), l6, l7, l8], st, M) Q = XX X d 0 (1524, [l0, l1, l2, l3, l4, some (.int x), l6, l7, l8], .int x :: st, M) Q := H_ld rfl rfl rfl rfl rfl
theorem x0_1524 : XX X d 0 (1524, L, st, M) Q = XX X d 0 (1525, L, .int (ii 2) :: st, M) Q := G_cst rfl rfl rfl rfl rfl
theorem x0_1525 : XX X d 0 (1525, L, .int (ii q) :: .int (ii p) :: st, M) Q = XX X d 0 (1526, L, .int (ii (p + q)) :: st, M) Q := H_add rfl (by decide) rfl
theorem x0_1526 (h : a = X.1 ∧ ¬ (x < 0 ∨ X.2.1 ≤ x.toNatClampNeg)) : XX X d 0 (1526, L, .int x :: .ref a :: st, M) Q = XX X d 0 (1527, L, .int (X.2.2 x.toNatClampNeg) :: st, M) Q := G_scr rfl rfl rfl rfl rfl (if_pos h)
theorem x0_1527 {v1 v2 : Value} (hd : 0 < d) (hs : stB st = true) : XX X d 0 (1527, L, v2 :: v1 :: .ref a :: st, M) Q = (mcl M a = some 9 ∧ CC X (d - 1) 207 [.ref a, v1, v2] M (XC X d 0 1527 1530 L st Q)) := H_virt [v1, v2] rfl (by decide) rfl rfl rfl rfl rfl hd hs
theorem x0_1530 (h : wide (some l6) = false) : XX X d 0 (1530, [l0, l1, l2, l3, l4, l5, l6, l7, l8], .int x :: st, M) Q = XX X d 0 (1532, [l0, l1, l2, l3, l4, l5, l6, some (.int x), l8], st, M) Q := H_st rfl rfl rfl rfl rfl rfl rfl rfl (Or.inr h)
theorem x0_1532 : XX X d 0 (1532, [l0, l1, some (.ref a), l3, l4, l5, l6, l7, l8], st, M) Q = XX X d 0 (1533, [l0, l1, some (.ref a), l3, l4, l5, l6, l7, l8], .ref a :: st, M) Q := H_ld rfl rfl rfl rfl rfl
theorem x0_1533 (hd : 0 < d) (hs : stB st = true) : XX X d 0 (1533, L, .ref a :: st, M) Q = (mcl M a = some 9 ∧ CC X (d - 1) 143 [.ref a] M (XC X d 0 1533 1536 L st Q)) := H_virt [] rfl (by decide) rfl rfl rfl rfl rfl hd hs
theorem x0_1536 : XX X d 0 (1536, [l0, l1, l2, l3, l4, l5, some (.int x), l7, l8], st, M) Q = XX X d 0 (1538, [l0, l1, l2, l3, l4, l5, some (.int x), l7, l8], .int x :: st, M) Q := H_ld rfl rfl rfl rfl rfl
theorem x0_1538 (h : -2147483648 ≤ p ∧ p ≤ 2147483647 ∧ -2147483648 ≤ q ∧ q ≤ 2147483647) : XX X d 0 (1538, L, .int (ii q) :: .int (ii p) :: st, M) Q = bq (p = q) X d 0 1543 1541 L st M Q := H_if2 rfl ⟨rfl, rfl, rfl, by decide⟩ rfl rfl rfl rfl (D_eq h)
theorem x0_1541 : XX X d 0 (1541, L, st, M) Q = XX X d 0 (1542, L, .int (ii 0) :: st, M) Q := G_cst rfl rfl rfl rfl rfl
theorem x0_1542 (h : bz p) : XX X d 0 (1542, L, [.int (ii p)], M) Q = Q (.inl (some (.int (ii p)))) M := G_ret rfl ⟨⟨⟨rfl, rfl, rfl, by decide⟩, rfl, rfl⟩, rfl, rfl⟩ (bz_ok h)
theorem x0_1543 : XX X d 0 (1543, [l0, l1, l2, l3, l4, l5, some (.int x), l7, l8], st, M) Q = XX X d 0 (1545, [l0, l1, l2, l3, l4, l5, some (.int x), l7, l8], .int x :: st, M) Q := H_ld rfl rfl rfl rfl rfl
theorem x0_1545 (h : -2147483648 ≤ p ∧ p ≤ 2147483647) : XX X d 0 (1545, L, .int (ii p) :: st, M) Q = bq (p ≠ 0) X d 0 1560 1548 L st M Q := H_if rfl ⟨rfl, rfl, rfl, by decide⟩ rfl rfl rfl rfl (D_ne (b := 0) (by omega))
theorem x0_1545b : XX X d 0 (1545, L, .int (ii (b2i b)) :: st, M) Q = bq (b = true) X d 0 1560 1548 L st M Q := (x0_1545 (b2i_r b)).trans (by rw [b2i_n0])
theorem x0_1548 : XX X d 0 (1548, [l0, l1, l2, some (.ref a), l4, l5, l6, l7, l8], st, M) Q = XX X d 0 (1549, [l0, l1, l2, some (.ref a), l4, l5, l6, l7, l8], .ref a :: st, M) Q := H_ld rfl rfl rfl rfl rfl
theorem x0_1549 : XX X d 0 (1549, L, st, M) Q = XX X d 0 (1550, L, .int (ii 0) :: st, M) Q := G_cst rfl rfl rfl rfl rfl
theorem x0_1550 : XX X d 0 (1550, L, .int x :: .ref a :: st, M) Q = xa (M.2.2 a) (aldT .laload) x (fun v => XX X d 0 (1551, L, v :: st, M) Q) := G_ald rfl ⟨⟨rfl, rfl, rfl, by decide⟩, rfl, rfl⟩ rfl rfl
theorem x0_1551 : XX X d 0 (1551, [l0, l1, l2, l3, l4, l5, l6, some (.int x), l8], st, M) Q = XX X d 0 (1553, [l0, l1, l2, l3, l4, l5, l6, some (.int x), l8], .int x :: st, M) Q := H_ld rfl rfl rfl rfl rfl
theorem x0_1553 : XX X d 0 (1553, L, .int x :: st, M) Q = XX X d 0 (1554, L, .long x.toInt64 :: st, M) Q := G_sop rfl ⟨rfl, rfl, rfl, by decide⟩ rfl rfl
theorem x0_1554 : XX X d 0 (1554, L, .long y2 :: .long y :: st, M) Q = XX X d 0 (1555, L, .int (lg_cmp y y2) :: st, M) Q := G_sop rfl ⟨rfl, rfl, rfl, by decide⟩ rfl rfl
theorem x0_1555 (h : -2147483648 ≤ p ∧ p ≤ 2147483647) : XX X d 0 (1555, L, .int (ii p) :: st, M) Q = bq (p = 0) X d 0 1560 1558 L st M Q := H_if rfl ⟨rfl, rfl, rfl, by decide⟩ rfl rfl rfl rfl (D_eq (b := 0) (by omega))
theorem x0_1555b : XX X d 0 (1555, L, .int (ii (b2i b)) :: st, M) Q = bq (b = false) X d 0 1560 1558 L st M Q := (x0_1555 (b2i_r b)).trans (by rw [b2i_0])
theorem x0_1558 : XX X d 0 (1558, L, st, M) Q = XX X d 0 (1559, L, .int (ii 0) :: st, M) Q := G_cst rfl rfl rfl rfl rfl
theorem x0_1559 (h : bz p) : XX X d 0 (1559, L, [.int (ii p)], M) Q = Q (.inl (some (.int (ii p)))) M := G_ret rfl ⟨⟨⟨rfl, rfl, rfl, by decide⟩, rfl, rfl⟩, rfl, rfl⟩ (bz_ok h)
theorem x0_1560 : XX X d 0 (1560, L, st, M) Q = XX X d 0 (2632, L, st, M) Q := H_jmp rfl (by decide) rfl
theorem x0_1563 : XX X d 0 (1563, [l0, some (.ref a), l2, l3, l4, l5, l6, l7, l8], st, M) Q = XX X d 0 (1564, [l0, some (.ref a), l2, l3, l4, l5, l6, l7, l8], .ref a :: st, M) Q := H_ld rfl rfl rfl rfl rfl
theorem x0_1564 : XX X d 0 (1564, [some (.ref a), l1, l2, l3, l4, l5, l6, l7, l8], st, M) Q = XX X d 0 (1565, [some (.ref a), l1, l2, l3, l4, l5, l6, l7, l8], .ref a :: st, M) Q := H_ld rfl rfl rfl rfl rfl
theorem x0_1565 : XX X d 0 (1565, [l0, l1, l2, l3, l4, some (.int x), l6, l7, l8], st, M) Q = XX X d 0 (1567, [l0, l1, l2, l3, l4, some (.int x), l6, l7, l8], .int x :: st, M) Q := H_ld rfl rfl rfl rfl rfl
theorem x0_1567 : XX X d 0 (1567, L, st, M) Q = XX X d 0 (1568, L, .int (ii 1) :: st, M) Q := G_cst rfl rfl rfl rfl rfl
theorem x0_1568 : XX X d 0 (1568, L, .int (ii q) :: .int (ii p) :: st, M) Q = XX X d 0 (1569, L, .int (ii (p + q)) :: st, M) Q := H_add rfl (by decide) rfl
theorem x0_1569 (h : a = X.1 ∧ ¬ (x < 0 ∨ X.2.1 ≤ x.toNatClampNeg)) : XX X d 0 (1569, L, .int x :: .ref a :: st, M) Q = XX X d 0 (1570, L, .int (X.2.2 x.toNatClampNeg) :: st, M) Q := G_scr rfl rfl rfl rfl rfl (if_pos h)
theorem x0_1570 : XX X d 0 (1570, [some (.ref a), l1, l2, l3, l4, l5, l6, l7, l8], st, M) Q = XX X d 0 (1571, [some (.ref a), l1, l2, l3, l4, l5, l6, l7, l8], .ref a :: st, M) Q := H_ld rfl rfl rfl rfl rfl
theorem x0_1571 : XX X d 0 (1571, [l0, l1, l2, l3, l4, some (.int x), l6, l7, l8], st, M) Q = XX X d 0 (1573, [l0, l1, l2, l3, l4, some (.int x), l6, l7, l8], .int x :: st, M) Q := H_ld rfl rfl rfl rfl rfl
theorem x0_1573 : XX X d 0 (1573, L, st, M) Q = XX X d 0 (1574, L, .int (ii 2) :: st, M) Q := G_cst rfl rfl rfl rfl rfl
theorem x0_1574 : XX X d 0 (1574, L, .int (ii q) :: .int (ii p) :: st, M) Q = XX X d 0 (1575, L, .int (ii (p + q)) :: st, M) Q := H_add rfl (by decide) rfl
theorem x0_1575 (h : a = X.1 ∧ ¬ (x < 0 ∨ X.2.1 ≤ x.toNatClampNeg)) : XX X d 0 (1575, L, .int x :: .ref a :: st, M) Q = XX X d 0 (1576, L, .int (X.2.2 x.toNatClampNeg) :: st, M) Q := G_scr rfl rfl rfl rfl rfl (if_pos h)
theorem x0_1576 : XX X d 0 (1576, [some (.ref a), l1, l2, l3, l4, l5, l6, l7, l8], st, M) Q = XX X d 0 (1577, [some (.ref a), l1, l2, l3, l4, l5, l6, l7, l8], .ref a :: st, M) Q := H_ld rfl rfl rfl rfl rfl
theorem x0_1577 : XX X d 0 (1577, [l0, l1, l2, l3, l4, some (.int x), l6, l7, l8], st, M) Q = XX X d 0 (1579, [l0, l1, l2, l3, l4, some (.int x), l6, l7, l8], .int x :: st, M) Q := H_ld rfl rfl rfl rfl rfl
theorem x0_1579 : XX X d 0 (1579, L, st, M) Q = XX X d 0 (1580, L, .int (ii 3) :: st, M) Q := G_cst rfl rfl rfl rfl rfl
theorem x0_1580 : XX X d 0 (1580, L, .int (ii q) :: .int (ii p) :: st, M) Q = XX X d 0 (1581, L, .int (ii (p + q)) :: st, M) Q := H_add rfl (by decide) rfl
theorem x0_1581 (h : a = X.1 ∧ ¬ (x < 0 ∨ X.2.1 ≤ x.toNatClampNeg)) : XX X d 0 (1581, L, .int x :: .ref a :: st, M) Q = XX X d 0 (1582, L, .int (X.2.2 x.toNatClampNeg) :: st, M) Q := G_scr rfl rfl rfl rfl rfl (if_pos h)
theorem x0_1582 : XX X d 0 (1582, [l0, l1, l2, some (.ref a), l4, l5, l6, l7, l8], st, M) Q = XX X d 0 (1583, [l0, l1, l2, some (.ref a), l4, l5, l6, l7, l8], .ref a :: st, M) Q := H_ld rfl rfl rfl rfl rfl
theorem x0_1583 {v1 v2 v3 v4 v5 : Value} (hd : 0 < d) (hs : stB st = true) : XX X d 0 (1583, L, v5 :: v4 :: v3 :: v2 :: v1 :: st, M) Q = CC X (d - 1) 255 [v1, v2, v3, v4, v5] M (XC X d 0 1583 1586 L st Q) := H_static [v1, v2, v3, v4, v5] rfl (by decide) rfl rfl (by decide) rfl rfl hd hs
theorem x0_1586 (h : wide (some l5) = false) : XX X d 0 (1586, [l0, l1, l2, l3, l4, l5, l6, l7, l8], .int x :: st, M) Q = XX X d 0 (1588, [l0, l1, l2, l3, l4, l5, some (.int x), l7, l8], st, M) Q := H_st rfl rfl rfl rfl rfl rfl rfl rfl (Or.inr h)
theorem x0_1588 : XX X d 0 (1588, [l0, l1, some (.ref a), l3, l4, l5, l6, l7, l8], st, M) Q = XX X d 0 (1589, [l0, l1, some (.ref a), l3, l4, l5, l6, l7, l8], .ref a :: st, M) Q := H_ld rfl rfl rfl rfl rfl
theorem x0_1589 : XX X d 0 (1589, [some (.ref a), l1, l2, l3, l4, l5, l6, l7, l8], st, M) Q = XX X d 0 (1590, [some (.ref a), l1, l2, l3, l4, l5, l6, l7, l8], .ref a :: st, M) Q := H_ld rfl rfl rfl rfl rfl
theorem x0_1590 : XX X d 0 (1590, [l0, l1, l2, l3, l4, some (.int x), l6, l7, l8], st, M) Q = XX X d 0 (1592, [l0, l1, l2, l3, l4, some (.int x), l6, l7, l8], .int x :: st, M) Q := H_ld rfl rfl rfl rfl rfl
theorem x0_1592 : XX X d 0 (1592, L, st, M) Q = XX X d 0 (1593, L, .int (ii 1) :: st, M) Q := G_cst rfl rfl rfl rfl rfl
theorem x0_1593 : XX X d 0 (1593, L, .int (ii q) :: .int (ii p) :: st, M) Q = XX X d 0 (1594, L, .int (ii (p + q)) :: st, M) Q := H_add rfl (by decide) rfl
theorem x0_1594 (h : a = X.1 ∧ ¬ (x < 0 ∨ X.2.1 ≤ x.toNatClampNeg)) : XX X d 0 (1594, L, .int x :: .ref a :: st, M) Q = XX X d 0 (1595, L, .int (X.2.2 x.toNatClampNeg) :: st, M) Q := G_scr rfl rfl rfl rfl rfl (if_pos h)
theorem x0_1595 : XX X d 0 (1595, [some (.ref a), l1, l2, l3, l4, l5, l6, l7, l8], st, M) Q = XX X d 0 (1596, [some (.ref a), l1, l2, l3, l4, l5, l6, l7, l8], .ref a :: st, M) Q := H_ld rfl rfl rfl rfl rfl
theorem x0_1596 : XX X d 0 (1596, [l0, l1, l2, l3, l4, some (.int x), l6, l7, l8], st, M) Q = XX X d 0 (1598, [l0, l1, l2, l3, l4, some (.int x), l6, l7, l8], .int x :: st, M) Q := H_ld rfl rfl rfl rfl rfl
theorem x0_1598 : XX X d 0 (1598, L, st, M) Q = XX X d 0 (1599, L, .int (ii 2) :: st, M) Q := G_cst rfl rfl rfl rfl rfl
theorem x0_1599 : XX X d 0 (1599, L, .int (ii q) :: .int (ii p) :: st, M) Q = XX X d 0 (1600, L, .int (ii (p + q)) :: st, M) Q := H_add rfl (by decide) rfl
theorem x0_1600 (h : a = X.1 ∧ ¬ (x < 0 ∨ X.2.1 ≤ x.toNatClampNeg)) : XX X d 0 (1600, L, .int x :: .ref a :: st, M) Q = XX X d 0 (1601, L, .int (X.2.2 x.toNatClampNeg) :: st, M) Q := G_scr rfl rfl rfl rfl rfl (if_pos h)
theorem x0_1601 : XX X d 0 (1601, [some (.ref a), l1, l2, l3, l4, l5, l6, l7, l8], st, M) Q = XX X d 0 (1602, [some (.ref a), l1, l2, l3, l4, l5, l6, l7, l8], .ref a :: st, M) Q := H_ld rfl rfl rfl rfl rfl
theorem x0_1602 : XX X d 0 (1602, [l0, l1, l2, l3, l4, some (.int x), l6, l7, l8], st, M) Q = XX X d 0 (1604, [l0, l1, l2, l3, l4, some (.int x), l6, l7, l8], .int x :: st, M) Q := H_ld rfl rfl rfl rfl rfl
theorem x0_1604 : XX X d 0 (1604, L, st, M) Q = XX X d 0 (1605, L, .int (ii 3) :: st, M) Q := G_cst rfl rfl rfl rfl rfl
theorem x0_1605 : XX X d 0 (1605, L, .int (ii q) :: .int (ii p) :: st, M) Q = XX X d 0 (1606, L, .int (ii (p + q)) :: st, M) Q := H_add rfl (by decide) rfl
theorem x0_1606 (h : a = X.1 ∧ ¬ (x < 0 ∨ X.2.1 ≤ x.toNatClampNeg)) : XX X d 0 (1606, L, .int x :: .ref a :: st, M) Q = XX X d 0 (1607, L, .int (X.2.2 x.toNatClampNeg) :: st, M) Q := G_scr rfl rfl rfl rfl rfl (if_pos h)
theorem x0_1607 {v1 v2 v3 : Value} (hd : 0 < d) (hs : stB st = true) : XX X d 0 (1607, L, v3 :: v2 :: v1 :: .ref a :: st, M) Q = (mcl M a = some 9 ∧ CC X (d - 1) 209 [.ref a, v1, v2, v3] M (XC X d 0 1607 1610 L st Q)) := H_virt [v1, v2, v3] rfl (by decide) rfl rfl rfl rfl rfl hd hs
theorem x0_1610 (h : wide (some l6) = false) : XX X d 0 (1610, [l0, l1, l2, l3, l4, l5, l6, l7, l8], .int x :: st, M) Q = XX X d 0 (1612, [l0, l1, l2, l3, l4, l5, l6, some (.int x), l8], st, M) Q := H_st rfl rfl rfl rfl rfl rfl rfl rfl (Or.inr h)
theorem x0_1612 : XX X d 0 (1612, [l0, l1, some (.ref a), l3, l4, l5, l6, l7, l8], st, M) Q = XX X d 0 (1613, [l0, l1, some (.ref a), l3, l4, l5, l6, l7, l8], .ref a :: st, M) Q := H_ld rfl rfl rfl rfl rfl
theorem x0_1613 (hd : 0 < d) (hs : stB st = true) : XX X d 0 (1613, L, .ref a :: st, M) Q = (mcl M a = some 9 ∧ CC X (d - 1) 143 [.ref a] M (XC X d 0 1613 1616 L st Q)) := H_virt [] rfl (by decide) rfl rfl rfl rfl rfl hd hs
theorem x0_1616 : XX X d 0 (1616, [l0, l1, l2, l3, l4, l5, some (.int x), l7, l8], st, M) Q = XX X d 0 (1618, [l0, l1, l2, l3, l4, l5, some (.int x), l7, l8], .int x :: st, M) Q := H_ld rfl rfl rfl rfl rfl
theorem x0_1618 (h : -2147483648 ≤ p ∧ p ≤ 2147483647 ∧ -2147483648 ≤ q ∧ q ≤ 2147483647) : XX X d 0 (1618, L, .int (ii q) :: .int (ii p) :: st, M) Q = bq (p = q) X d 0 1623 1621 L st M Q := H_if2 rfl ⟨rfl, rfl, rfl, by decide⟩ rfl rfl rfl rfl (D_eq h)
theorem x0_1621 : XX X d 0 (1621, L, st, M) Q = XX X d 0 (1622, L, .int (ii 0) :: st, M) Q := G_cst rfl rfl rfl rfl rfl
theorem x0_1622 (h : bz p) : XX X d 0 (1622, L, [.int (ii p)], M) Q = Q (.inl (some (.int (ii p)))) M := G_ret rfl ⟨⟨⟨rfl, rfl, rfl, by decide⟩, rfl, rfl⟩, rfl, rfl⟩ (bz_ok h)
theorem x0_1623 : XX X d 0 (1623, [l0, l1, l2, l3, l4, l5, some (.int x), l7, l8], st, M) Q = XX X d 0 (1625, [l0, l1, l2, l3, l4, l5, some (.int x), l7, l8], .int x :: st, M) Q := H_ld rfl rfl rfl rfl rfl
theorem x0_1625 (h : -2147483648 ≤ p ∧ p ≤ 2147483647) : XX X d 0 (1625, L, .int (ii p) :: st, M) Q = bq (p ≠ 0) X d 0 1647 1628 L st M Q := H_if rfl ⟨rfl, rfl, rfl, by decide⟩ rfl rfl rfl rfl (D_ne (b := 0) (by omega))
theorem x0_1625b : XX X d 0 (1625, L, .int (ii (b2i b)) :: st, M) Q = bq (b = true) X d 0 1647 1628 L st M Q := (x0_1625 (b2i_r b)).trans (by rw [b2i_n0])
theorem x0_1628 : XX X d 0 (1628, [l0, l1, l2, some (.ref a), l4, l5, l6, l7, l8], st, M) Q = XX X d 0 (1629, [l0, l1, l2, some (.ref a), l4, l5, l6, l7, l8], .ref a :: st, M) Q := H_ld rfl rfl rfl rfl rfl
theorem x0_1629 : XX X d 0 (1629, L, st, M) Q = XX X d 0 (1630, L, .int (ii 0) :: st, M) Q := G_cst rfl rfl rfl rfl rfl
theorem x0_1630 : XX X d 0 (1630, L, .int x :: .ref a :: st, M) Q = xa (M.2.2 a) (aldT .laload) x (fun v => XX X d 0 (1631, L, v :: st, M) Q) := G_ald rfl ⟨⟨rfl, rfl, rfl, by decide⟩, rfl, rfl⟩ rfl rfl
theorem x0_1631 : XX X d 0 (1631, [l0, l1, l2, l3, l4, l5, l6, some (.int x), l8], st, M) Q = XX X d 0 (1633, [l0, l1, l2, l3, l4, l5, l6, some (.int x), l8], .int x :: st, M) Q := H_ld rfl rfl rfl rfl rfl
theorem x0_1633 (h : -2147483648 ≤ p ∧ p ≤ 2147483647) : XX X d 0 (1633, L, .int (ii p) :: st, M) Q = bq (p = 0) X d 0 1640 1636 L st M Q := H_if rfl ⟨rfl, rfl, rfl, by decide⟩ rfl rfl rfl rfl (D_eq (b := 0) (by omega))
theorem x0_1633b : XX X d 0 (1633, L, .int (ii (b2i b)) :: st, M) Q = bq (b = false) X d 0 1640 1636 L st M Q := (x0_1633 (b2i_r b)).trans (by rw [b2i_0])
theorem x0_1636 : XX X d 0 (1636, L, st, M) Q = XX X d 0 (1637, L, .long (Int64.ofInt 1) :: st, M) Q := G_cst rfl rfl rfl rfl rfl
theorem x0_1637 : XX X d 0 (1637, L, st, M) Q = XX X d 0 (1641, L, st, M) Q := H_jmp rfl (by decide) rfl
theorem x0_1640 : XX X d 0 (1640, L, st, M) Q = XX X d 0 (1641, L, .long (Int64.ofInt 0) :: st, M) Q := G_cst rfl rfl rfl rfl rfl
theorem x0_1641 : XX X d 0 (1641, L, .long y2 :: .long y :: st, M) Q = XX X d 0 (1642, L, .int (lg_cmp y y2) :: st, M) Q := G_sop rfl ⟨rfl, rfl, rfl, by decide⟩ rfl rfl
theorem x0_1642 (h : -2147483648 ≤ p ∧ p ≤ 2147483647) : XX X d 0 (1642, L, .int (ii p) :: st, M) Q = bq (p = 0) X d 0 1647 1645 L st M Q := H_if rfl ⟨rfl, rfl, rfl, by decide⟩ rfl rfl rfl rfl (D_eq (b := 0) (by omega))
theorem x0_1642b : XX X d 0 (1642, L, .int (ii (b2i b)) :: st, M) Q = bq (b = false) X d 0 1647 1645 L st M Q := (x0_1642 (b2i_r b)).trans (by rw [b2i_0])
theorem x0_1645 : XX X d 0 (1645, L, st, M) Q = XX X d 0 (1646, L, .int (ii 0) :: st, M) Q := G_cst rfl rfl rfl rfl rfl
theorem x0_1646 (h : bz p) : XX X d 0 (1646, L, [.int (ii p)], M) Q = Q (.inl (some (.int (ii p)))) M := G_ret rfl ⟨⟨⟨rfl, rfl, rfl, by decide⟩, rfl, rfl⟩, rfl, rfl⟩ (bz_ok h)
theorem x0_1647 : XX X d 0 (1647, L, st, M) Q = XX X d 0 (2632, L, st, M) Q := H_jmp rfl (by decide) rfl
theorem x0_1650 : XX X d 0 (1650, [l0, some (.ref a), l2, l3, l4, l5, l6, l7, l8], st, M) Q = XX X d 0 (1651, [l0, some (.ref a), l2, l3, l4, l5, l6, l7, l8], .ref a :: st, M) Q := H_ld rfl rfl rfl rfl rfl
theorem x0_1651 : XX X d 0 (1651, [some (.ref a), l1, l2, l3, l4, l5, l6, l7, l8], st, M) Q = XX X d 0 (1652, [some (.ref a), l1, l2, l3, l4, l5, l6, l7, l8], .ref a :: st, M) Q := H_ld rfl rfl rfl rfl rfl
theorem x0_1652 : XX X d 0 (1652, [l0, l1, l2, l3, l4, some (.int x), l6, l7, l8], st, M) Q = XX X d 0 (1654, [l0, l1, l2, l3, l4, some (.int x), l6, l7, l8], .int x :: st, M) Q := H_ld rfl rfl rfl rfl rfl
theorem x0_1654 : XX X d 0 (1654, L, st, M) Q = XX X d 0 (1655, L, .int (ii 1) :: st, M) Q := G_cst rfl rfl rfl rfl rfl
theorem x0_1655 : XX X d 0 (1655, L, .int (ii q) :: .int (ii p) :: st, M) Q = XX X d 0 (1656, L, .int (ii (p + q)) :: st, M) Q := H_add rfl (by decide) rfl
theorem x0_1656 (h : a = X.1 ∧ ¬ (x < 0 ∨ X.2.1 ≤ x.toNatClampNeg)) : XX X d 0 (1656, L, .int x :: .ref a :: st, M) Q = XX X d 0 (1657, L, .int (X.2.2 x.toNatClampNeg) :: st, M) Q := G_scr rfl rfl rfl rfl rfl (if_pos h)
theorem x0_1657 : XX X d 0 (1657, [some (.ref a), l1, l2, l3, l4, l5, l6, l7, l8], st, M) Q = XX X d 0 (1658, [some (.ref a), l1, l2, l3, l4, l5, l6, l7, l8], .ref a :: st, M) Q := H_ld rfl rfl rfl rfl rfl
theorem x0_1658 : XX X d 0 (1658, [l0, l1, l2, l3, l4, some (.int x), l6, l7, l8], st, M) Q = XX X d 0 (1660, [l0, l1, l2, l3, l4, some (.int x), l6, l7, l8], .int x :: st, M) Q := H_ld rfl rfl rfl rfl rfl
theorem x0_1660 : XX X d 0 (1660, L, st, M) Q = XX X d 0 (1661, L, .int (ii 2) :: st, M) Q := G_cst rfl rfl rfl rfl rfl
theorem x0_1661 : XX X d 0 (1661, L, .int (ii q) :: .int (ii p) :: st, M) Q = XX X d 0 (1662, L, .int (ii (p + q)) :: st, M) Q := H_add rfl (by decide) rfl
theorem x0_1662 (h : a = X.1 ∧ ¬ (x < 0 ∨ X.2.1 ≤ x.toNatClampNeg)) : XX X d 0 (1662, L, .int x :: .ref a :: st, M) Q = XX X d 0 (1663, L, .int (X.2.2 x.toNatClampNeg) :: st, M) Q := G_scr rfl rfl rfl rfl rfl (if_pos h)
theorem x0_1663 : XX X d 0 (1663, [some (.ref a), l1, l2, l3, l4, l5, l6, l7, l8], st, M) Q = XX X d 0 (1664, [some (.ref a), l1, l2, l3, l4, l5, l6, l7, l8], .ref a :: st, M) Q := H_ld rfl rfl rfl rfl rfl
theorem x0_1664 : XX X d 0 (1664, [l0, l1, l2, l3, l4, some (.int x), l6, l7, l8], st, M) Q = XX X d 0 (1666, [l0, l1, l2, l3, l4, some (.int x), l6, l7, l8], .int x :: st, M) Q := H_ld rfl rfl rfl rfl rfl
theorem x0_1666 : XX X d 0 (1666, L, st, M) Q = XX X d 0 (1667, L, .int (ii 3) :: st, M) Q := G_cst rfl rfl rfl rfl rfl
theorem x0_1667 : XX X d 0 (1667, L, .int (ii q) :: .int (ii p) :: st, M) Q = XX X d 0 (1668, L, .int (ii (p + q)) :: st, M) Q := H_add rfl (by decide) rfl
theorem x0_1668 (h : a = X.1 ∧ ¬ (x < 0 ∨ X.2.1 ≤ x.toNatClampNeg)) : XX X d 0 (1668, L, .int x :: .ref a :: st, M) Q = XX X d 0 (1669, L, .int (X.2.2 x.toNatClampNeg) :: st, M) Q := G_scr rfl rfl rfl rfl rfl (if_pos h)
theorem x0_1669 : XX X d 0 (1669, [l0, l1, l2, some (.ref a), l4, l5, l6, l7, l8], st, M) Q = XX X d 0 (1670, [l0, l1, l2, some (.ref a), l4, l5, l6, l7, l8], .ref a :: st, M) Q := H_ld rfl rfl rfl rfl rfl
theorem x0_1670 {v1 v2 v3 v4 v5 : Value} (hd : 0 < d) (hs : stB st = true) : XX X d 0 (1670, L, v5 :: v4 :: v3 :: v2 :: v1 :: st, M) Q = CC X (d - 1) 256 [v1, v2, v3, v4, v5] M (XC X d 0 1670 1673 L st Q) := H_static [v1, v2, v3, v4, v5] rfl (by decide) rfl rfl (by decide) rfl rfl hd hs
theorem x0_1673 (h : wide (some l5) = false) : XX X d 0 (1673, [l0, l1, l2, l3, l4, l5, l6, l7, l8], .int x :: st, M) Q = XX X d 0 (1675, [l0, l1, l2, l3, l4, l5, some (.int x), l7, l8], st, M) Q := H_st rfl rfl rfl rfl rfl rfl rfl rfl (Or.inr h)
theorem x0_1675 : XX X d 0 (1675, [l0, l1, some (.ref a), l3, l4, l5, l6, l7, l8], st, M) Q = XX X d 0 (1676, [l0, l1, some (.ref a), l3, l4, l5, l6, l7, l8], .ref a :: st, M) Q := H_ld rfl rfl rfl rfl rfl
theorem x0_1676 : XX X d 0 (1676, [some (.ref a), l1, l2, l3, l4, l5, l6, l7, l8], st, M) Q = XX X d 0 (1677, [some (.ref a), l1, l2, l3, l4, l5, l6, l7, l8], .ref a :: st, M) Q := H_ld rfl rfl rfl rfl rfl
theorem x0_1677 : XX X d 0 (1677, [l0, l1, l2, l3, l4, some (.int x), l6, l7, l8], st, M) Q = XX X d 0 (1679, [l0, l1, l2, l3, l4, some (.int x), l6, l7, l8], .int x :: st, M) Q := H_ld rfl rfl rfl rfl rfl
theorem x0_1679 : XX X d 0 (1679, L, st, M) Q = XX X d 0 (1680, L, .int (ii 1) :: st, M) Q := G_cst rfl rfl rfl rfl rfl
theorem x0_1680 : XX X d 0 (1680, L, .int (ii q) :: .int (ii p) :: st, M) Q = XX X d 0 (1681, L, .int (ii (p + q)) :: st, M) Q := H_add rfl (by decide) rfl
theorem x0_1681 (h : a = X.1 ∧ ¬ (x < 0 ∨ X.2.1 ≤ x.toNatClampNeg)) : XX X d 0 (1681, L, .int x :: .ref a :: st, M) Q = XX X d 0 (1682, L, .int (X.2.2 x.toNatClampNeg) :: st, M) Q := G_scr rfl rfl rfl rfl rfl (if_pos h)
theorem x0_1682 : XX X d 0 (1682, [some (.ref a), l1, l2, l3, l4, l5, l6, l7, l8], st, M) Q = XX X d 0 (1683, [some (.ref a), l1, l2, l3, l4, l5, l6, l7, l8], .ref a :: st, M) Q := H_ld rfl rfl rfl rfl rfl
theorem x0_1683 : XX X d 0 (1683, [l0, l1, l2, l3, l4, some (.int x), l6, l7, l8], st, M) Q = XX X d 0 (1685, [l0, l1, l2, l3, l4, some (.int x), l6, l7, l8], .int x :: st, M) Q := H_ld rfl rfl rfl rfl rfl
theorem x0_1685 : XX X d 0 (1685, L, st, M) Q = XX X d 0 (1686, L, .int (ii 2) :: st, M) Q := G_cst rfl rfl rfl rfl rfl
theorem x0_1686 : XX X d 0 (1686, L, .int (ii q) :: .int (ii p) :: st, M) Q = XX X d 0 (1687, L, .int (ii (p + q)) :: st, M) Q := H_add rfl (by decide) rfl
theorem x0_1687 (h : a = X.1 ∧ ¬ (x < 0 ∨ X.2.1 ≤ x.toNatClampNeg)) : XX X d 0 (1687, L, .int x :: .ref a :: st, M) Q = XX X d 0 (1688, L, .int (X.2.2 x.toNatClampNeg) :: st, M) Q := G_scr rfl rfl rfl rfl rfl (if_pos h)
theorem x0_1688 : XX X d 0 (1688, [some (.ref a), l1, l2, l3, l4, l5, l6, l7, l8], st, M) Q = XX X d 0 (1689, [some (.ref a), l1, l2, l3, l4, l5, l6, l7, l8], .ref a :: st, M) Q := H_ld rfl rfl rfl rfl rfl
theorem x0_1689 : XX X d 0 (1689, [l0, l1, l2, l3, l4, some (.int x), l6, l7, l8], st, M) Q = XX X d 0 (1691, [l0, l1, l2, l3, l4, some (.int x), l6, l7, l8], .int x :: st, M) Q := H_ld rfl rfl rfl rfl rfl
theorem x0_1691 : XX X d 0 (1691, L, st, M) Q = XX X d 0 (1692, L, .int (ii 3) :: st, M) Q := G_cst rfl rfl rfl rfl rfl
theorem x0_1692 : XX X d 0 (1692, L, .int (ii q) :: .int (ii p) :: st, M) Q = XX X d 0 (1693, L, .int (ii (p + q)) :: st, M) Q := H_add rfl (by decide) rfl
theorem x0_1693 (h : a = X.1 ∧ ¬ (x < 0 ∨ X.2.1 ≤ x.toNatClampNeg)) : XX X d 0 (1693, L, .int x :: .ref a :: st, M) Q = XX X d 0 (1694, L, .int (X.2.2 x.toNatClampNeg) :: st, M) Q := G_scr rfl rfl rfl rfl rfl (if_pos h)
theorem x0_1694 {v1 v2 v3 : Value} (hd : 0 < d) (hs : stB st = true) : XX X d 0 (1694, L, v3 :: v2 :: v1 :: .ref a :: st, M) Q = (mcl M a = some 9 ∧ CC X (d - 1) 211 [.ref a, v1, v2, v3] M (XC X d 0 1694 1697 L st Q)) := H_virt [v1, v2, v3] rfl (by decide) rfl rfl rfl rfl rfl hd hs
theorem x0_1697 (h : wide (some l6) = false) : XX X d 0 (1697, [l0, l1, l2, l3, l4, l5, l6, l7, l8], .int x :: st, M) Q = XX X d 0 (1699, [l0, l1, l2, l3, l4, l5, l6, some (.int x), l8], st, M) Q := H_st rfl rfl rfl rfl rfl rfl rfl rfl (Or.inr h)
theorem x0_1699 : XX X d 0 (1699, [l0, l1, some (.ref a), l3, l4, l5, l6, l7, l8], st, M) Q = XX X d 0 (1700, [l0, l1, some (.ref a), l3, l4, l5, l6, l7, l8], .ref a :: st, M) Q := H_ld rfl rfl rfl rfl rfl
theorem x0_1700 (hd : 0 < d) (hs : stB st = true) : XX X d 0 (1700, L, .ref a :: st, M) Q = (mcl M a = some 9 ∧ CC X (d - 1) 143 [.ref a] M (XC X d 0 1700 1703 L st Q)) := H_virt [] rfl (by decide) rfl rfl rfl rfl rfl hd hs
theorem x0_1703 : XX X d 0 (1703, [l0, l1, l2, l3, l4, l5, some (.int x), l7, l8], st, M) Q = XX X d 0 (1705, [l0, l1, l2, l3, l4, l5, some (.int x), l7, l8], .int x :: st, M) Q := H_ld rfl rfl rfl rfl rfl
theorem x0_1705 (h : -2147483648 ≤ p ∧ p ≤ 2147483647 ∧ -2147483648 ≤ q ∧ q ≤ 2147483647) : XX X d 0 (1705, L, .int (ii q) :: .int (ii p) :: st, M) Q = bq (p = q) X d 0 1710 1708 L st M Q := H_if2 rfl ⟨rfl, rfl, rfl, by decide⟩ rfl rfl rfl rfl (D_eq h)
theorem x0_1708 : XX X d 0 (1708, L, st, M) Q = XX X d 0 (1709, L, .int (ii 0) :: st, M) Q := G_cst rfl rfl rfl rfl rfl
theorem x0_1709 (h : bz p) : XX X d 0 (1709, L, [.int (ii p)], M) Q = Q (.inl (some (.int (ii p)))) M := G_ret rfl ⟨⟨⟨rfl, rfl, rfl, by decide⟩, rfl, rfl⟩, rfl, rfl⟩ (bz_ok h)
theorem x0_1710 : XX X d 0 (1710, [l0, l1, l2, l3, l4, l5, some (.int x), l7, l8], st, M) Q = XX X d 0 (1712, [l0, l1, l2, l3, l4, l5, some (.int x), l7, l8], .int x :: st, M) Q := H_ld rfl rfl rfl rfl rfl
theorem x0_1712 (h : -2147483648 ≤ p ∧ p ≤ 2147483647) : XX X d 0 (1712, L, .int (ii p) :: st, M) Q = bq (p ≠ 0) X d 0 1727 1715 L st M Q := H_if rfl ⟨rfl, rfl, rfl, by decide⟩ rfl rfl rfl rfl (D_ne (b := 0) (by omega))
theorem x0_1712b : XX X d 0 (1712, L, .int (ii (b2i b)) :: st, M) Q = bq (b = true) X d 0 1727 1715 L st M Q := (x0_1712 (b2i_r b)).trans (by rw [b2i_n0])
theorem x0_1715 : XX X d 0 (1715, [l0, l1, l2, some (.ref a), l4, l5, l6, l7, l8], st, M) Q = XX X d 0 (1716, [l0, l1, l2, some (.ref a), l4, l5, l6, l7, l8], .ref a :: st, M) Q := H_ld rfl rfl rfl rfl rfl
theorem x0_1716 : XX X d 0 (1716, L, st, M) Q = XX X d 0 (1717, L, .int (ii 0) :: st, M) Q := G_cst rfl rfl rfl rfl rfl
theorem x0_1717 : XX X d 0 (1717, L, .int x :: .ref a :: st, M) Q = xa (M.2.2 a) (aldT .laload) x (fun v => XX X d 0 (1718, L, v :: st, M) Q) := G_ald rfl ⟨⟨rfl, rfl, rfl, by decide⟩, rfl, rfl⟩ rfl rfl
theorem x0_1718 : XX X d 0 (1718, [l0, l1, l2, l3, l4, l5, l6, some (.int x), l8], st, M) Q = XX X d 0 (1720, [l0, l1, l2, l3, l4, l5, l6, some (.int x), l8], .int x :: st, M) Q := H_ld rfl rfl rfl rfl rfl
theorem x0_1720 : XX X d 0 (1720, L, .int x :: st, M) Q = XX X d 0 (1721, L, .long x.toInt64 :: st, M) Q := G_sop rfl ⟨rfl, rfl, rfl, by decide⟩ rfl rfl
theorem x0_1721 : XX X d 0 (1721, L, .long y2 :: .long y :: st, M) Q = XX X d 0 (1722, L, .int (lg_cmp y y2) :: st, M) Q := G_sop rfl ⟨rfl, rfl, rfl, by decide⟩ rfl rfl
theorem x0_1722 (h : -2147483648 ≤ p ∧ p ≤ 2147483647) : XX X d 0 (1722, L, .int (ii p) :: st, M) Q = bq (p = 0) X d 0 1727 1725 L st M Q := H_if rfl ⟨rfl, rfl, rfl, by decide⟩ rfl rfl rfl rfl (D_eq (b := 0) (by omega))
theorem x0_1722b : XX X d 0 (1722, L, .int (ii (b2i b)) :: st, M) Q = bq (b = false) X d 0 1727 1725 L st M Q := (x0_1722 (b2i_r b)).trans (by rw [b2i_0])
theorem x0_1725 : XX X d 0 (1725, L, st, M) Q = XX X d 0 (1726, L, .int (ii 0) :: st, M) Q := G_cst rfl rfl rfl rfl rfl
theorem x0_1726 (h : bz p) : XX X d 0 (1726, L, [.int (ii p)], M) Q = Q (.inl (some (.int (ii p)))) M := G_ret rfl ⟨⟨⟨rfl, rfl, rfl, by decide⟩, rfl, rfl⟩, rfl, rfl⟩ (bz_ok h)
theorem x0_1727 : XX X d 0 (1727, L, st, M) Q = XX X d 0 (2632, L, st, M) Q := H_jmp rfl (by decide) rfl
theorem x0_1730 : XX X d 0 (1730, [l0, some (.ref a), l2, l3, l4, l5, l6, l7, l8], st, M) Q = XX X d 0 (1731, [l0, some (.ref a), l2, l3, l4, l5, l6, l7, l8], .ref a :: st, M) Q := H_ld rfl rfl rfl rfl rfl
theorem x0_1731 : XX X d 0 (1731, [some (.ref a), l1, l2, l3, l4, l5, l6, l7, l8], st, M) Q = XX X d 0 (1732, [some (.ref a), l1, l2, l3, l4, l5, l6, l7, l8], .ref a :: st, M) Q := H_ld rfl rfl rfl rfl rfl
theorem x0_1732 : XX X d 0 (1732, [l0, l1, l2, l3, l4, some (.int x), l6, l7, l8], st, M) Q = XX X d 0 (1734, [l0, l1, l2, l3, l4, some (.int x), l6, l7, l8], .int x :: st, M) Q := H_ld rfl rfl rfl rfl rfl
theorem x0_1734 : XX X d 0 (1734, L, st, M) Q = XX X d 0 (1735, L, .int (ii 1) :: st, M) Q := G_cst rfl rfl rfl rfl rfl
theorem x0_1735 : XX X d 0 (1735, L, .int (ii q) :: .int (ii p) :: st, M) Q = XX X d 0 (1736, L, .int (ii (p + q)) :: st, M) Q := H_add rfl (by decide) rfl
theorem x0_1736 (h : a = X.1 ∧ ¬ (x < 0 ∨ X.2.1 ≤ x.toNatClampNeg)) : XX X d 0 (1736, L, .int x :: .ref a :: st, M) Q = XX X d 0 (1737, L, .int (X.2.2 x.toNatClampNeg) :: st, M) Q := G_scr rfl rfl rfl rfl rfl (if_pos h)
theorem x0_1737 : XX X d 0 (1737, [some (.ref a), l1, l2, l3, l4, l5, l6, l7, l8], st, M) Q = XX X d 0 (1738, [some (.ref a), l1, l2, l3, l4, l5, l6, l7, l8], .ref a :: st, M) Q := H_ld rfl rfl rfl rfl rfl
theorem x0_1738 : XX X d 0 (1738, [l0, l1, l2, l3, l4, some (.int x), l6, l7, l8], st, M) Q = XX X d 0 (1740, [l0, l1, l2, l3, l4, some (.int x), l6, l7, l8], .int x :: st, M) Q := H_ld rfl rfl rfl rfl rfl
theorem x0_1740 : XX X d 0 (1740, L, st, M) Q = XX X d 0 (1741, L, .int (ii 2) :: st, M) Q := G_cst rfl rfl rfl rfl rfl
theorem x0_1741 : XX X d 0 (1741, L, .int (ii q) :: .int (ii p) :: st, M) Q = XX X d 0 (1742, L, .int (ii (p + q)) :: st, M) Q := H_add rfl (by decide) rfl
theorem x0_1742 (h : a = X.1 ∧ ¬ (x < 0 ∨ X.2.1 ≤ x.toNatClampNeg)) : XX X d 0 (1742, L, .int x :: .ref a :: st, M) Q = XX X d 0 (1743, L, .int (X.2.2 x.toNatClampNeg) :: st, M) Q := G_scr rfl rfl rfl rfl rfl (if_pos h)
theorem x0_1743 : XX X d 0 (1743, [some (.ref a), l1, l2, l3, l4, l5, l6, l7, l8], st, M) Q = XX X d 0 (1744, [some (.ref a), l1, l2, l3, l4, l5, l6, l7, l8], .ref a :: st, M) Q := H_ld rfl rfl rfl rfl rfl
theorem x0_1744 : XX X d 0 (1744, [l0, l1, l2, l3, l4, some (.int x), l6, l7, l8], st, M) Q = XX X d 0 (1746, [l0, l1, l2, l3, l4, some (.int x), l6, l7, l8], .int x :: st, M) Q := H_ld rfl rfl rfl rfl rfl
theorem x0_1746 : XX X d 0 (1746, L, st, M) Q = XX X d 0 (1747, L, .int (ii 3) :: st, M) Q := G_cst rfl rfl rfl rfl rfl
theorem x0_1747 : XX X d 0 (1747, L, .int (ii q) :: .int (ii p) :: st, M) Q = XX X d 0 (1748, L, .int (ii (p + q)) :: st, M) Q := H_add rfl (by decide) rfl
theorem x0_1748 (h : a = X.1 ∧ ¬ (x < 0 ∨ X.2.1 ≤ x.toNatClampNeg)) : XX X d 0 (1748, L, .int x :: .ref a :: st, M) Q = XX X d 0 (1749, L, .int (X.2.2 x.toNatClampNeg) :: st, M) Q := G_scr rfl rfl rfl rfl rfl (if_pos h)
theorem x0_1749 : XX X d 0 (1749, [l0, l1, l2, some (.ref a), l4, l5, l6, l7, l8], st, M) Q = XX X d 0 (1750, [l0, l1, l2, some (.ref a), l4, l5, l6, l7, l8], .ref a :: st, M) Q := H_ld rfl rfl rfl rfl rfl
theorem x0_1750 {v1 v2 v3 v4 v5 : Value} (hd : 0 < d) (hs : stB st = true) : XX X d 0 (1750, L, v5 :: v4 :: v3 :: v2 :: v1 :: st, M) Q = CC X (d - 1) 257 [v1, v2, v3, v4, v5] M (XC X d 0 1750 1753 L st Q) := H_static [v1, v2, v3, v4, v5] rfl (by decide) rfl rfl (by decide) rfl rfl hd hs
theorem x0_1753 (h : wide (some l5) = false) : XX X d 0 (1753, [l0, l1, l2, l3, l4, l5, l6, l7, l8], .int x :: st, M) Q = XX X d 0 (1755, [l0, l1, l2, l3, l4, l5, some (.int x), l7, l8], st, M) Q := H_st rfl rfl rfl rfl rfl rfl rfl rfl (Or.inr h)
theorem x0_1755 : XX X d 0 (1755, [l0, l1, some (.ref a), l3, l4, l5, l6, l7, l8], st, M) Q = XX X d 0 (1756, [l0, l1, some (.ref a), l3, l4, l5, l6, l7, l8], .ref a :: st, M) Q := H_ld rfl rfl rfl rfl rfl
theorem x0_1756 : XX X d 0 (1756, [some (.ref a), l1, l2, l3, l4, l5, l6, l7, l8], st, M) Q = XX X d 0 (1757, [some (.ref a), l1, l2, l3, l4, l5, l6, l7, l8], .ref a :: st, M) Q := H_ld rfl rfl rfl rfl rfl
theorem x0_1757 : XX X d 0 (1757, [l0, l1, l2, l3, l4, some (.int x), l6, l7, l8], st, M) Q = XX X d 0 (1759, [l0, l1, l2, l3, l4, some (.int x), l6, l7, l8], .int x :: st, M) Q := H_ld rfl rfl rfl rfl rfl
theorem x0_1759 : XX X d 0 (1759, L, st, M) Q = XX X d 0 (1760, L, .int (ii 1) :: st, M) Q := G_cst rfl rfl rfl rfl rfl
theorem x0_1760 : XX X d 0 (1760, L, .int (ii q) :: .int (ii p) :: st, M) Q = XX X d 0 (1761, L, .int (ii (p + q)) :: st, M) Q := H_add rfl (by decide) rfl
theorem x0_1761 (h : a = X.1 ∧ ¬ (x < 0 ∨ X.2.1 ≤ x.toNatClampNeg)) : XX X d 0 (1761, L, .int x :: .ref a :: st, M) Q = XX X d 0 (1762, L, .int (X.2.2 x.toNatClampNeg) :: st, M) Q := G_scr rfl rfl rfl rfl rfl (if_pos h)
theorem x0_1762 : XX X d 0 (1762, [some (.ref a), l1, l2, l3, l4, l5, l6, l7, l8], st, M) Q = XX X d 0 (1763, [some (.ref a), l1, l2, l3, l4, l5, l6, l7, l8], .ref a :: st, M) Q := H_ld rfl rfl rfl rfl rfl
theorem x0_1763 : XX X d 0 (1763, [l0, l1, l2, l3, l4, some (.int x), l6, l7, l8], st, M) Q = XX X d 0 (1765, [l0, l1, l2, l3, l4, some (.int x), l6, l7, l8], .int x :: st, M) Q := H_ld rfl rfl rfl rfl rfl
theorem x0_1765 : XX X d 0 (1765, L, st, M) Q = XX X d 0 (1766, L, .int (ii 2) :: st, M) Q := G_cst rfl rfl rfl rfl rfl
theorem x0_1766 : XX X d 0 (1766, L, .int (ii q) :: .int (ii p) :: st, M) Q = XX X d 0 (1767, L, .int (ii (p + q)) :: st, M) Q := H_add rfl (by decide) rfl
theorem x0_1767 (h : a = X.1 ∧ ¬ (x < 0 ∨ X.2.1 ≤ x.toNatClampNeg)) : XX X d 0 (1767, L, .int x :: .ref a :: st, M) Q = XX X d 0 (1768, L, .int (X.2.2 x.toNatClampNeg) :: st, M) Q := G_scr rfl rfl rfl rfl rfl (if_pos h)
theorem x0_1768 : XX X d 0 (1768, [some (.ref a), l1, l2, l3, l4, l5, l6, l7, l8], st, M) Q = XX X d 0 (1769, [some (.ref a), l1, l2, l3, l4, l5, l6, l7, l8], .ref a :: st, M) Q := H_ld rfl rfl rfl rfl rfl
theorem x0_1769 : XX X d 0 (1769, [l0, l1, l2, l3, l4, some (.int x), l6, l7, l8], st, M) Q = XX X d 0 (1771, [l0, l1, l2, l3, l4, some (.int x), l6, l7, l8], .int x :: st, M) Q := H_ld rfl rfl rfl rfl rfl
theorem x0_1771 : XX X d 0 (1771, L, st, M) Q = XX X d 0 (1772, L, .int (ii 3) :: st, M) Q := G_cst rfl rfl rfl rfl rfl
theorem x0_1772 : XX X d 0 (1772, L, .int (ii q) :: .int (ii p) :: st, M) Q = XX X d 0 (1773, L, .int (ii (p + q)) :: st, M) Q := H_add rfl (by decide) rfl
theorem x0_1773 (h : a = X.1 ∧ ¬ (x < 0 ∨ X.2.1 ≤ x.toNatClampNeg)) : XX X d 0 (1773, L, .int x :: .ref a :: st, M) Q = XX X d 0 (1774, L, .int (X.2.2 x.toNatClampNeg) :: st, M) Q := G_scr rfl rfl rfl rfl rfl (if_pos h)
theorem x0_1774 {v1 v2 v3 : Value} (hd : 0 < d) (hs : stB st = true) : XX X d 0 (1774, L, v3 :: v2 :: v1 :: .ref a :: st, M) Q = (mcl M a = some 9 ∧ CC X (d - 1) 212 [.ref a, v1, v2, v3] M (XC X d 0 1774 1777 L st Q)) := H_virt [v1, v2, v3] rfl (by decide) rfl rfl rfl rfl rfl hd hs
theorem x0_1777 (h : wide (some l6) = false) : XX X d 0 (1777, [l0, l1, l2, l3, l4, l5, l6, l7, l8], .int x :: st, M) Q = XX X d 0 (1779, [l0, l1, l2, l3, l4, l5, l6, some (.int x), l8], st, M) Q := H_st rfl rfl rfl rfl rfl rfl rfl rfl (Or.inr h)
theorem x0_1779 : XX X d 0 (1779, [l0, l1, some (.ref a), l3, l4, l5, l6, l7, l8], st, M) Q = XX X d 0 (1780, [l0, l1, some (.ref a), l3, l4, l5, l6, l7, l8], .ref a :: st, M) Q := H_ld rfl rfl rfl rfl rfl
theorem x0_1780 (hd : 0 < d) (hs : stB st = true) : XX X d 0 (1780, L, .ref a :: st, M) Q = (mcl M a = some 9 ∧ CC X (d - 1) 143 [.ref a] M (XC X d 0 1780 1783 L st Q)) := H_virt [] rfl (by decide) rfl rfl rfl rfl rfl hd hs
theorem x0_1783 : XX X d 0 (1783, [l0, l1, l2, l3, l4, l5, some (.int x), l7, l8], st, M) Q = XX X d 0 (1785, [l0, l1, l2, l3, l4, l5, some (.int x), l7, l8], .int x :: st, M) Q := H_ld rfl rfl rfl rfl rfl
theorem x0_1785 (h : -2147483648 ≤ p ∧ p ≤ 2147483647 ∧ -2147483648 ≤ q ∧ q ≤ 2147483647) : XX X d 0 (1785, L, .int (ii q) :: .int (ii p) :: st, M) Q = bq (p = q) X d 0 1790 1788 L st M Q := H_if2 rfl ⟨rfl, rfl, rfl, by decide⟩ rfl rfl rfl rfl (D_eq h)
theorem x0_1788 : XX X d 0 (1788, L, st, M) Q = XX X d 0 (1789, L, .int (ii 0) :: st, M) Q := G_cst rfl rfl rfl rfl rfl
theorem x0_1789 (h : bz p) : XX X d 0 (1789, L, [.int (ii p)], M) Q = Q (.inl (some (.int (ii p)))) M := G_ret rfl ⟨⟨⟨rfl, rfl, rfl, by decide⟩, rfl, rfl⟩, rfl, rfl⟩ (bz_ok h)
theorem x0_1790 : XX X d 0 (1790, [l0, l1, l2, l3, l4, l5, some (.int x), l7, l8], st, M) Q = XX X d 0 (1792, [l0, l1, l2, l3, l4, l5, some (.int x), l7, l8], .int x :: st, M) Q := H_ld rfl rfl rfl rfl rfl
theorem x0_1792 (h : -2147483648 ≤ p ∧ p ≤ 2147483647) : XX X d 0 (1792, L, .int (ii p) :: st, M) Q = bq (p ≠ 0) X d 0 1807 1795 L st M Q := H_if rfl ⟨rfl, rfl, rfl, by decide⟩ rfl rfl rfl rfl (D_ne (b := 0) (by omega))
theorem x0_1792b : XX X d 0 (1792, L, .int (ii (b2i b)) :: st, M) Q = bq (b = true) X d 0 1807 1795 L st M Q := (x0_1792 (b2i_r b)).trans (by rw [b2i_n0])
theorem x0_1795 : XX X d 0 (1795, [l0, l1, l2, some (.ref a), l4, l5, l6, l7, l8], st, M) Q = XX X d 0 (1796, [l0, l1, l2, some (.ref a), l4, l5, l6, l7, l8], .ref a :: st, M) Q := H_ld rfl rfl rfl rfl rfl
theorem x0_1796 : XX X d 0 (1796, L, st, M) Q = XX X d 0 (1797, L, .int (ii 0) :: st, M) Q := G_cst rfl rfl rfl rfl rfl
theorem x0_1797 : XX X d 0 (1797, L, .int x :: .ref a :: st, M) Q = xa (M.2.2 a) (aldT .laload) x (fun v => XX X d 0 (1798, L, v :: st, M) Q) := G_ald rfl ⟨⟨rfl, rfl, rfl, by decide⟩, rfl, rfl⟩ rfl rfl
theorem x0_1798 : XX X d 0 (1798, [l0, l1, l2, l3, l4, l5, l6, some (.int x), l8], st, M) Q = XX X d 0 (1800, [l0, l1, l2, l3, l4, l5, l6, some (.int x), l8], .int x :: st, M) Q := H_ld rfl rfl rfl rfl rfl
theorem x0_1800 : XX X d 0 (1800, L, .int x :: st, M) Q = XX X d 0 (1801, L, .long x.toInt64 :: st, M) Q := G_sop rfl ⟨rfl, rfl, rfl, by decide⟩ rfl rfl
theorem x0_1801 : XX X d 0 (1801, L, .long y2 :: .long y :: st, M) Q = XX X d 0 (1802, L, .int (lg_cmp y y2) :: st, M) Q := G_sop rfl ⟨rfl, rfl, rfl, by decide⟩ rfl rfl
theorem x0_1802 (h : -2147483648 ≤ p ∧ p ≤ 2147483647) : XX X d 0 (1802, L, .int (ii p) :: st, M) Q = bq (p = 0) X d 0 1807 1805 L st M Q := H_if rfl ⟨rfl, rfl, rfl, by decide⟩ rfl rfl rfl rfl (D_eq (b := 0) (by omega))
theorem x0_1802b : XX X d 0 (1802, L, .int (ii (b2i b)) :: st, M) Q = bq (b = false) X d 0 1807 1805 L st M Q := (x0_1802 (b2i_r b)).trans (by rw [b2i_0])
theorem x0_1805 : XX X d 0 (1805, L, st, M) Q = XX X d 0 (1806, L, .int (ii 0) :: st, M) Q := G_cst rfl rfl rfl rfl rfl
theorem x0_1806 (h : bz p) : XX X d 0 (1806, L, [.int (ii p)], M) Q = Q (.inl (some (.int (ii p)))) M := G_ret rfl ⟨⟨⟨rfl, rfl, rfl, by decide⟩, rfl, rfl⟩, rfl, rfl⟩ (bz_ok h)
theorem x0_1807 : XX X d 0 (1807, L, st, M) Q = XX X d 0 (2632, L, st, M) Q := H_jmp rfl (by decide) rfl
theorem x0_1810 : XX X d 0 (1810, [l0, some (.ref a), l2, l3, l4, l5, l6, l7, l8], st, M) Q = XX X d 0 (1811, [l0, some (.ref a), l2, l3, l4, l5, l6, l7, l8], .ref a :: st, M) Q := H_ld rfl rfl rfl rfl rfl
theorem x0_1811 : XX X d 0 (1811, [some (.ref a), l1, l2, l3, l4, l5, l6, l7, l8], st, M) Q = XX X d 0 (1812, [some (.ref a), l1, l2, l3, l4, l5, l6, l7, l8], .ref a :: st, M) Q := H_ld rfl rfl rfl rfl rfl
theorem x0_1812 : XX X d 0 (1812, [l0, l1, l2, l3, l4, some (.int x), l6, l7, l8], st, M) Q = XX X d 0 (1814, [l0, l1, l2, l3, l4, some (.int x), l6, l7, l8], .int x :: st, M) Q := H_ld rfl rfl rfl rfl rfl
theorem x0_1814 : XX X d 0 (1814, L, st, M) Q = XX X d 0 (1815, L, .int (ii 1) :: st, M) Q := G_cst rfl rfl rfl rfl rfl
theorem x0_1815 : XX X d 0 (1815, L, .int (ii q) :: .int (ii p) :: st, M) Q = XX X d 0 (1816, L, .int (ii (p + q)) :: st, M) Q := H_add rfl (by decide) rfl
theorem x0_1816 (h : a = X.1 ∧ ¬ (x < 0 ∨ X.2.1 ≤ x.toNatClampNeg)) : XX X d 0 (1816, L, .int x :: .ref a :: st, M) Q = XX X d 0 (1817, L, .int (X.2.2 x.toNatClampNeg) :: st, M) Q := G_scr rfl rfl rfl rfl rfl (if_pos h)
theorem x0_1817 : XX X d 0 (1817, [l0, l1, l2, some (.ref a), l4, l5, l6, l7, l8], st, M) Q = XX X d 0 (1818, [l0, l1, l2, some (.ref a), l4, l5, l6, l7, l8], .ref a :: st, M) Q := H_ld rfl rfl rfl rfl rfl
theorem x0_1818 {v1 v2 v3 : Value} (hd : 0 < d) (hs : stB st = true) : XX X d 0 (1818, L, v3 :: v2 :: v1 :: st, M) Q = CC X (d - 1) 258 [v1, v2, v3] M (XC X d 0 1818 1821 L st Q) := H_static [v1, v2, v3] rfl (by decide) rfl rfl (by decide) rfl rfl hd hs
theorem x0_1821 (h : wide (some l5) = false) : XX X d 0 (1821, [l0, l1, l2, l3, l4, l5, l6, l7, l8], .int x :: st, M) Q = XX X d 0 (1823, [l0, l1, l2, l3, l4, l5, some (.int x), l7, l8], st, M) Q := H_st rfl rfl rfl rfl rfl rfl rfl rfl (Or.inr h)
theorem x0_1823 : XX X d 0 (1823, [l0, l1, some (.ref a), l3, l4, l5, l6, l7, l8], st, M) Q = XX X d 0 (1824, [l0, l1, some (.ref a), l3, l4, l5, l6, l7, l8], .ref a :: st, M) Q := H_ld rfl rfl rfl rfl rfl
theorem x0_1824 : XX X d 0 (1824, [some (.ref a), l1, l2, l3, l4, l5, l6, l7, l8], st, M) Q = XX X d 0 (1825, [some (.ref a), l1, l2, l3, l4, l5, l6, l7, l8], .ref a :: st, M) Q := H_ld rfl rfl rfl rfl rfl
theorem x0_1825 : XX X d 0 (1825, [l0, l1, l2, l3, l4, some (.int x), l6, l7, l8], st, M) Q = XX X d 0 (1827, [l0, l1, l2, l3, l4, some (.int x), l6, l7, l8], .int x :: st, M) Q := H_ld rfl rfl rfl rfl rfl
theorem x0_1827 : XX X d 0 (1827, L, st, M) Q = XX X d 0 (1828, L, .int (ii 1) :: st, M) Q := G_cst rfl rfl rfl rfl rfl
theorem x0_1828 : XX X d 0 (1828, L, .int (ii q) :: .int (ii p) :: st, M) Q = XX X d 0 (1829, L, .int (ii (p + q)) :: st, M) Q := H_add rfl (by decide) rfl
theorem x0_1829 (h : a = X.1 ∧ ¬ (x < 0 ∨ X.2.1 ≤ x.toNatClampNeg)) : XX X d 0 (1829, L, .int x :: .ref a :: st, M) Q = XX X d 0 (1830, L, .int (X.2.2 x.toNatClampNeg) :: st, M) Q := G_scr rfl rfl rfl rfl rfl (if_pos h)
theorem x0_1830 {v1 : Value} (hd : 0 < d) (hs : stB st = true) : XX X d 0 (1830, L, v1 :: .ref a :: st, M) Q = (mcl M a = some 9 ∧ CC X (d - 1) 213 [.ref a, v1] M (XC X d 0 1830 1833 L st Q)) := H_virt [v1] rfl (by decide) rfl rfl rfl rfl rfl hd hs
theorem x0_1833 (h : wide (some l6) = false) : XX X d 0 (1833, [l0, l1, l2, l3, l4, l5, l6, l7, l8], .int x :: st, M) Q = XX X d 0 (1835, [l0, l1, l2, l3, l4, l5, l6, some (.int x), l8], st, M) Q := H_st rfl rfl rfl rfl rfl rfl rfl rfl (Or.inr h)
theorem x0_1835 : XX X d 0 (1835, [l0, l1, some (.ref a), l3, l4, l5, l6, l7, l8], st, M) Q = XX X d 0 (1836, [l0, l1, some (.ref a), l3, l4, l5, l6, l7, l8], .ref a :: st, M) Q := H_ld rfl rfl rfl rfl rfl
theorem x0_1836 (hd : 0 < d) (hs : stB st = true) : XX X d 0 (1836, L, .ref a :: st, M) Q = (mcl M a = some 9 ∧ CC X (d - 1) 143 [.ref a] M (XC X d 0 1836 1839 L st Q)) := H_virt [] rfl (by decide) rfl rfl rfl rfl rfl hd hs
theorem x0_1839 : XX X d 0 (1839, [l0, l1, l2, l3, l4, l5, some (.int x), l7, l8], st, M) Q = XX X d 0 (1841, [l0, l1, l2, l3, l4, l5, some (.int x), l7, l8], .int x :: st, M) Q := H_ld rfl rfl rfl rfl rfl
theorem x0_1841 (h : -2147483648 ≤ p ∧ p ≤ 2147483647 ∧ -2147483648 ≤ q ∧ q ≤ 2147483647) : XX X d 0 (1841, L, .int (ii q) :: .int (ii p) :: st, M) Q = bq (p = q) X d 0 1846 1844 L st M Q := H_if2 rfl ⟨rfl, rfl, rfl, by decide⟩ rfl rfl rfl rfl (D_eq h)
theorem x0_1844 : XX X d 0 (1844, L, st, M) Q = XX X d 0 (1845, L, .int (ii 0) :: st, M) Q := G_cst rfl rfl rfl rfl rfl
theorem x0_1845 (h : bz p) : XX X d 0 (1845, L, [.int (ii p)], M) Q = Q (.inl (some (.int (ii p)))) M := G_ret rfl ⟨⟨⟨rfl, rfl, rfl, by decide⟩, rfl, rfl⟩, rfl, rfl⟩ (bz_ok h)
theorem x0_1846 : XX X d 0 (1846, [l0, l1, l2, l3, l4, l5, some (.int x), l7, l8], st, M) Q = XX X d 0 (1848, [l0, l1, l2, l3, l4, l5, some (.int x), l7, l8], .int x :: st, M) Q := H_ld rfl rfl rfl rfl rfl
theorem x0_1848 (h : -2147483648 ≤ p ∧ p ≤ 2147483647) : XX X d 0 (1848, L, .int (ii p) :: st, M) Q = bq (p ≠ 0) X d 0 1863 1851 L st M Q := H_if rfl ⟨rfl, rfl, rfl, by decide⟩ rfl rfl rfl rfl (D_ne (b := 0) (by omega))
theorem x0_1848b : XX X d 0 (1848, L, .int (ii (b2i b)) :: st, M) Q = bq (b = true) X d 0 1863 1851 L st M Q := (x0_1848 (b2i_r b)).trans (by rw [b2i_n0])
theorem x0_1851 : XX X d 0 (1851, [l0, l1, l2, some (.ref a), l4, l5, l6, l7, l8], st, M) Q = XX X d 0 (1852, [l0, l1, l2, some (.ref a), l4, l5, l6, l7, l8], .ref a :: st, M) Q := H_ld rfl rfl rfl rfl rfl
theorem x0_1852 : XX X d 0 (1852, L, st, M) Q = XX X d 0 (1853, L, .int (ii 0) :: st, M) Q := G_cst rfl rfl rfl rfl rfl
theorem x0_1853 : XX X d 0 (1853, L, .int x :: .ref a :: st, M) Q = xa (M.2.2 a) (aldT .laload) x (fun v => XX X d 0 (1854, L, v :: st, M) Q) := G_ald rfl ⟨⟨rfl, rfl, rfl, by decide⟩, rfl, rfl⟩ rfl rfl
theorem x0_1854 : XX X d 0 (1854, [l0, l1, l2, l3, l4, l5, l6, some (.int x), l8], st, M) Q = XX X d 0 (1856, [l0, l1, l2, l3, l4, l5, l6, some (.int x), l8], .int x :: st, M) Q := H_ld rfl rfl rfl rfl rfl
theorem x0_1856 : XX X d 0 (1856, L, .int x :: st, M) Q = XX X d 0 (1857, L, .long x.toInt64 :: st, M) Q := G_sop rfl ⟨rfl, rfl, rfl, by decide⟩ rfl rfl
theorem x0_1857 : XX X d 0 (1857, L, .long y2 :: .long y :: st, M) Q = XX X d 0 (1858, L, .int (lg_cmp y y2) :: st, M) Q := G_sop rfl ⟨rfl, rfl, rfl, by decide⟩ rfl rfl
theorem x0_1858 (h : -2147483648 ≤ p ∧ p ≤ 2147483647) : XX X d 0 (1858, L, .int (ii p) :: st, M) Q = bq (p = 0) X d 0 1863 1861 L st M Q := H_if rfl ⟨rfl, rfl, rfl, by decide⟩ rfl rfl rfl rfl (D_eq (b := 0) (by omega))
theorem x0_1858b : XX X d 0 (1858, L, .int (ii (b2i b)) :: st, M) Q = bq (b = false) X d 0 1863 1861 L st M Q := (x0_1858 (b2i_r b)).trans (by rw [b2i_0])
theorem x0_1861 : XX X d 0 (1861, L, st, M) Q = XX X d 0 (1862, L, .int (ii 0) :: st, M) Q := G_cst rfl rfl rfl rfl rfl
theorem x0_1862 (h : bz p) : XX X d 0 (1862, L, [.int (ii p)], M) Q = Q (.inl (some (.int (ii p)))) M := G_ret rfl ⟨⟨⟨rfl, rfl, rfl, by decide⟩, rfl, rfl⟩, rfl, rfl⟩ (bz_ok h)
theorem x0_1863 : XX X d 0 (1863, L, st, M) Q = XX X d 0 (2632, L, st, M) Q := H_jmp rfl (by decide) rfl
theorem x0_1866 : XX X d 0 (1866, [l0, some (.ref a), l2, l3, l4, l5, l6, l7, l8], st, M) Q = XX X d 0 (1867, [l0, some (.ref a), l2, l3, l4, l5, l6, l7, l8], .ref a :: st, M) Q := H_ld rfl rfl rfl rfl rfl
theorem x0_1867 : XX X d 0 (1867, [some (.ref a), l1, l2, l3, l4, l5, l6, l7, l8], st, M) Q = XX X d 0 (1868, [some (.ref a), l1, l2, l3, l4, l5, l6, l7, l8], .ref a :: st, M) Q := H_ld rfl rfl rfl rfl rfl
theorem x0_1868 : XX X d 0 (1868, [l0, l1, l2, l3, l4, some (.int x), l6, l7, l8], st, M) Q = XX X d 0 (1870, [l0, l1, l2, l3, l4, some (.int x), l6, l7, l8], .int x :: st, M) Q := H_ld rfl rfl rfl rfl rfl
theorem x0_1870 : XX X d 0 (1870, L, st, M) Q = XX X d 0 (1871, L, .int (ii 1) :: st, M) Q := G_cst rfl rfl rfl rfl rfl
theorem x0_1871 : XX X d 0 (1871, L, .int (ii q) :: .int (ii p) :: st, M) Q = XX X d 0 (1872, L, .int (ii (p + q)) :: st, M) Q := H_add rfl (by decide) rfl
theorem x0_1872 (h : a = X.1 ∧ ¬ (x < 0 ∨ X.2.1 ≤ x.toNatClampNeg)) : XX X d 0 (1872, L, .int x :: .ref a :: st, M) Q = XX X d 0 (1873, L, .int (X.2.2 x.toNatClampNeg) :: st, M) Q := G_scr rfl rfl rfl rfl rfl (if_pos h)
theorem x0_1873 : XX X d 0 (1873, [some (.ref a), l1, l2, l3, l4, l5, l6, l7, l8], st, M) Q = XX X d 0 (1874, [some (.ref a), l1, l2, l3, l4, l5, l6, l7, l8], .ref a :: st, M) Q := H_ld rfl rfl rfl rfl rfl
theorem x0_1874 : XX X d 0 (1874, [l0, l1, l2, l3, l4, some (.int x), l6, l7, l8], st, M) Q = XX X d 0 (1876, [l0, l1, l2, l3, l4, some (.int x), l6, l7, l8], .int x :: st, M) Q := H_ld rfl rfl rfl rfl rfl
theorem x0_1876 : XX X d 0 (1876, L, st, M) Q = XX X d 0 (1877, L, .int (ii 2) :: st, M) Q := G_cst rfl rfl rfl rfl rfl
theorem x0_1877 : XX X d 0 (1877, L, .int (ii q) :: .int (ii p) :: st, M) Q = XX X d 0 (1878, L, .int (ii (p + q)) :: st, M) Q := H_add rfl (by decide) rfl
theorem x0_1878 (h : a = X.1 ∧ ¬ (x < 0 ∨ X.2.1 ≤ x.toNatClampNeg)) : XX X d 0 (1878, L, .int x :: .ref a :: st, M) Q = XX X d 0 (1879, L, .int (X.2.2 x.toNatClampNeg) :: st, M) Q := G_scr rfl rfl rfl rfl rfl (if_pos h)
theorem x0_1879 : XX X d 0 (1879, [l0, l1, l2, some (.ref a), l4, l5, l6, l7, l8], st, M) Q = XX X d 0 (1880, [l0, l1, l2, some (.ref a), l4, l5, l6, l7, l8], .ref a :: st, M) Q := H_ld rfl rfl rfl rfl rfl
theorem x0_1880 {v1 v2 v3 v4 : Value} (hd : 0 < d) (hs : stB st = true) : XX X d 0 (1880, L, v4 :: v3 :: v2 :: v1 :: st, M) Q = CC X (d - 1) 259 [v1, v2, v3, v4] M (XC X d 0 1880 1883 L st Q) := H_static [v1, v2, v3, v4] rfl (by decide) rfl rfl (by decide) rfl rfl hd hs
theorem x0_1883 (h : wide (some l5) = false) : XX X d 0 (1883, [l0, l1, l2, l3, l4, l5, l6, l7, l8], .int x :: st, M) Q = XX X d 0 (1885, [l0, l1, l2, l3, l4, l5, some (.int x), l7, l8], st, M) Q := H_st rfl rfl rfl rfl rfl rfl rfl rfl (Or.inr h)
theorem x0_1885 : XX X d 0 (1885, [l0, l1, some (.ref a), l3, l4, l5, l6, l7, l8], st, M) Q = XX X d 0 (1886, [l0, l1, some (.ref a), l3, l4, l5, l6, l7, l8], .ref a :: st, M) Q := H_ld rfl rfl rfl rfl rfl
theorem x0_1886 : XX X d 0 (1886, [some (.ref a), l1, l2, l3, l4, l5, l6, l7, l8], st, M) Q = XX X d 0 (1887, [some (.ref a), l1, l2, l3, l4, l5, l6, l7, l8], .ref a :: st, M) Q := H_ld rfl rfl rfl rfl rfl
theorem x0_1887 : XX X d 0 (1887, [l0, l1, l2, l3, l4, some (.int x), l6, l7, l8], st, M) Q = XX X d 0 (1889, [l0, l1, l2, l3, l4, some (.int x), l6, l7, l8], .int x :: st, M) Q := H_ld rfl rfl rfl rfl rfl
theorem x0_1889 : XX X d 0 (1889, L, st, M) Q = XX X d 0 (1890, L, .int (ii 1) :: st, M) Q := G_cst rfl rfl rfl rfl rfl
theorem x0_1890 : XX X d 0 (1890, L, .int (ii q) :: .int (ii p) :: st, M) Q = XX X d 0 (1891, L, .int (ii (p + q)) :: st, M) Q := H_add rfl (by decide) rfl
theorem x0_1891 (h : a = X.1 ∧ ¬ (x < 0 ∨ X.2.1 ≤ x.toNatClampNeg)) : XX X d 0 (1891, L, .int x :: .ref a :: st, M) Q = XX X d 0 (1892, L, .int (X.2.2 x.toNatClampNeg) :: st, M) Q := G_scr rfl rfl rfl rfl rfl (if_pos h)
theorem x0_1892 : XX X d 0 (1892, [some (.ref a), l1, l2, l3, l4, l5, l6, l7, l8], st, M) Q = XX X d 0 (1893, [some (.ref a), l1, l2, l3, l4, l5, l6, l7, l8], .ref a :: st, M) Q := H_ld rfl rfl rfl rfl rfl
theorem x0_1893 : XX X d 0 (1893, [l0, l1, l2, l3, l4, some (.int x), l6, l7, l8], st, M) Q = XX X d 0 (1895, [l0, l1, l2, l3, l4, some (.int x), l6, l7, l8], .int x :: st, M) Q := H_ld rfl rfl rfl rfl rfl
theorem x0_1895 : XX X d 0 (1895, L, st, M) Q = XX X d 0 (1896, L, .int (ii 2) :: st, M) Q := G_cst rfl rfl rfl rfl rfl
theorem x0_1896 : XX X d 0 (1896, L, .int (ii q) :: .int (ii p) :: st, M) Q = XX X d 0 (1897, L, .int (ii (p + q)) :: st, M) Q := H_add rfl (by decide) rfl
theorem x0_1897 (h : a = X.1 ∧ ¬ (x < 0 ∨ X.2.1 ≤ x.toNatClampNeg)) : XX X d 0 (1897, L, .int x :: .ref a :: st, M) Q = XX X d 0 (1898, L, .int (X.2.2 x.toNatClampNeg) :: st, M) Q := G_scr rfl rfl rfl rfl rfl (if_pos h)
theorem x0_1898 {v1 v2 : Value} (hd : 0 < d) (hs : stB st = true) : XX X d 0 (1898, L, v2 :: v1 :: .ref a :: st, M) Q = (mcl M a = some 9 ∧ CC X (d - 1) 215 [.ref a, v1, v2] M (XC X d 0 1898 1901 L st Q)) := H_virt [v1, v2] rfl (by decide) rfl rfl rfl rfl rfl hd hs
theorem x0_1901 (h : wide (some l6) = false) : XX X d 0 (1901, [l0, l1, l2, l3, l4, l5, l6, l7, l8], .int x :: st, M) Q = XX X d 0 (1903, [l0, l1, l2, l3, l4, l5, l6, some (.int x), l8], st, M) Q := H_st rfl rfl rfl rfl rfl rfl rfl rfl (Or.inr h)
theorem x0_1903 : XX X d 0 (1903, [l0, l1, some (.ref a), l3, l4, l5, l6, l7, l8], st, M) Q = XX X d 0 (1904, [l0, l1, some (.ref a), l3, l4, l5, l6, l7, l8], .ref a :: st, M) Q := H_ld rfl rfl rfl rfl rfl
theorem x0_1904 (hd : 0 < d) (hs : stB st = true) : XX X d 0 (1904, L, .ref a :: st, M) Q = (mcl M a = some 9 ∧ CC X (d - 1) 143 [.ref a] M (XC X d 0 1904 1907 L st Q)) := H_virt [] rfl (by decide) rfl rfl rfl rfl rfl hd hs
theorem x0_1907 : XX X d 0 (1907, [l0, l1, l2, l3, l4, l5, some (.int x), l7, l8], st, M) Q = XX X d 0 (1909, [l0, l1, l2, l3, l4, l5, some (.int x), l7, l8], .int x :: st, M) Q := H_ld rfl rfl rfl rfl rfl
theorem x0_1909 (h : -2147483648 ≤ p ∧ p ≤ 2147483647 ∧ -2147483648 ≤ q ∧ q ≤ 2147483647) : XX X d 0 (1909, L, .int (ii q) :: .int (ii p) :: st, M) Q = bq (p = q) X d 0 1914 1912 L st M Q := H_if2 rfl ⟨rfl, rfl, rfl, by decide⟩ rfl rfl rfl rfl (D_eq h)
theorem x0_1912 : XX X d 0 (1912, L, st, M) Q = XX X d 0 (1913, L, .int (ii 0) :: st, M) Q := G_cst rfl rfl rfl rfl rfl
theorem x0_1913 (h : bz p) : XX X d 0 (1913, L, [.int (ii p)], M) Q = Q (.inl (some (.int (ii p)))) M := G_ret rfl ⟨⟨⟨rfl, rfl, rfl, by decide⟩, rfl, rfl⟩, rfl, rfl⟩ (bz_ok h)
theorem x0_1914 : XX X d 0 (1914, [l0, l1, l2, l3, l4, l5, some (.int x), l7, l8], st, M) Q = XX X d 0 (1916, [l0, l1, l2, l3, l4, l5, some (.int x), l7, l8], .int x :: st, M) Q := H_ld rfl rfl rfl rfl rfl
theorem x0_1916 (h : -2147483648 ≤ p ∧ p ≤ 2147483647) : XX X d 0 (1916, L, .int (ii p) :: st, M) Q = bq (p ≠ 0) X d 0 1931 1919 L st M Q := H_if rfl ⟨rfl, rfl, rfl, by decide⟩ rfl rfl rfl rfl (D_ne (b := 0) (by omega))
theorem x0_1916b : XX X d 0 (1916, L, .int (ii (b2i b)) :: st, M) Q = bq (b = true) X d 0 1931 1919 L st M Q := (x0_1916 (b2i_r b)).trans (by rw [b2i_n0])
theorem x0_1919 : XX X d 0 (1919, [l0, l1, l2, some (.ref a), l4, l5, l6, l7, l8], st, M) Q = XX X d 0 (1920, [l0, l1, l2, some (.ref a), l4, l5, l6, l7, l8], .ref a :: st, M) Q := H_ld rfl rfl rfl rfl rfl
theorem x0_1920 : XX X d 0 (1920, L, st, M) Q = XX X d 0 (1921, L, .int (ii 0) :: st, M) Q := G_cst rfl rfl rfl rfl rfl
theorem x0_1921 : XX X d 0 (1921, L, .int x :: .ref a :: st, M) Q = xa (M.2.2 a) (aldT .laload) x (fun v => XX X d 0 (1922, L, v :: st, M) Q) := G_ald rfl ⟨⟨rfl, rfl, rfl, by decide⟩, rfl, rfl⟩ rfl rfl
theorem x0_1922 : XX X d 0 (1922, [l0, l1, l2, l3, l4, l5, l6, some (.int x), l8], st, M) Q = XX X d 0 (1924, [l0, l1, l2, l3, l4, l5, l6, some (.int x), l8], .int x :: st, M) Q := H_ld rfl rfl rfl rfl rfl
theorem x0_1924 : XX X d 0 (1924, L, .int x :: st, M) Q = XX X d 0 (1925, L, .long x.toInt64 :: st, M) Q := G_sop rfl ⟨rfl, rfl, rfl, by decide⟩ rfl rfl
theorem x0_1925 : XX X d 0 (1925, L, .long y2 :: .long y :: st, M) Q = XX X d 0 (1926, L, .int (lg_cmp y y2) :: st, M) Q := G_sop rfl ⟨rfl, rfl, rfl, by decide⟩ rfl rfl
theorem x0_1926 (h : -2147483648 ≤ p ∧ p ≤ 2147483647) : XX X d 0 (1926, L, .int (ii p) :: st, M) Q = bq (p = 0) X d 0 1931 1929 L st M Q := H_if rfl ⟨rfl, rfl, rfl, by decide⟩ rfl rfl rfl rfl (D_eq (b := 0) (by omega))
theorem x0_1926b : XX X d 0 (1926, L, .int (ii (b2i b)) :: st, M) Q = bq (b = false) X d 0 1931 1929 L st M Q := (x0_1926 (b2i_r b)).trans (by rw [b2i_0])
theorem x0_1929 : XX X d 0 (1929, L, st, M) Q = XX X d 0 (1930, L, .int (ii 0) :: st, M) Q := G_cst rfl rfl rfl rfl rfl
theorem x0_1930 (h : bz p) : XX X d 0 (1930, L, [.int (ii p)], M) Q = Q (.inl (some (.int (ii p)))) M := G_ret rfl ⟨⟨⟨rfl, rfl, rfl, by decide⟩, rfl, rfl⟩, rfl, rfl⟩ (bz_ok h)
theorem x0_1931 : XX X d 0 (1931, L, st, M) Q = XX X d 0 (2632, L, st, M) Q := H_jmp rfl (by decide) rfl
theorem x0_1934 : XX X d 0 (1934, [l0, some (.ref a), l2, l3, l4, l5, l6, l7, l8], st, M) Q = XX X d 0 (1935, [l0, some (.ref a), l2, l3, l4, l5, l6, l7, l8], .ref a :: st, M) Q := H_ld rfl rfl rfl rfl rfl
theorem x0_1935 : XX X d 0 (1935, [some (.ref a), l1, l2, l3, l4, l5, l6, l7, l8], st, M) Q = XX X d 0 (1936, [some (.ref a), l1, l2, l3, l4, l5, l6, l7, l8], .ref a :: st, M) Q := H_ld rfl rfl rfl rfl rfl
theorem x0_1936 : XX X d 0 (1936, [l0, l1, l2, l3, l4, some (.int x), l6, l7, l8], st, M) Q = XX X d 0 (1938, [l0, l1, l2, l3, l4, some (.int x), l6, l7, l8], .int x :: st, M) Q := H_ld rfl rfl rfl rfl rfl
theorem x0_1938 : XX X d 0 (1938, L, st, M) Q = XX X d 0 (1939, L, .int (ii 1) :: st, M) Q := G_cst rfl rfl rfl rfl rfl
theorem x0_1939 : XX X d 0 (1939, L, .int (ii q) :: .int (ii p) :: st, M) Q = XX X d 0 (1940, L, .int (ii (p + q)) :: st, M) Q := H_add rfl (by decide) rfl
theorem x0_1940 (h : a = X.1 ∧ ¬ (x < 0 ∨ X.2.1 ≤ x.toNatClampNeg)) : XX X d 0 (1940, L, .int x :: .ref a :: st, M) Q = XX X d 0 (1941, L, .int (X.2.2 x.toNatClampNeg) :: st, M) Q := G_scr rfl rfl rfl rfl rfl (if_pos h)
theorem x0_1941 : XX X d 0 (1941, [some (.ref a), l1, l2, l3, l4, l5, l6, l7, l8], st, M) Q = XX X d 0 (1942, [some (.ref a), l1, l2, l3, l4, l5, l6, l7, l8], .ref a :: st, M) Q := H_ld rfl rfl rfl rfl rfl
theorem x0_1942 : XX X d 0 (1942, [l0, l1, l2, l3, l4, some (.int x), l6, l7, l8], st, M) Q = XX X d 0 (1944, [l0, l1, l2, l3, l4, some (.int x), l6, l7, l8], .int x :: st, M) Q := H_ld rfl rfl rfl rfl rfl
theorem x0_1944 : XX X d 0 (1944, L, st, M) Q = XX X d 0 (1945, L, .int (ii 2) :: st, M) Q := G_cst rfl rfl rfl rfl rfl
theorem x0_1945 : XX X d 0 (1945, L, .int (ii q) :: .int (ii p) :: st, M) Q = XX X d 0 (1946, L, .int (ii (p + q)) :: st, M) Q := H_add rfl (by decide) rfl
theorem x0_1946 (h : a = X.1 ∧ ¬ (x < 0 ∨ X.2.1 ≤ x.toNatClampNeg)) : XX X d 0 (1946, L, .int x :: .ref a :: st, M) Q = XX X d 0 (1947, L, .int (X.2.2 x.toNatClampNeg) :: st, M) Q := G_scr rfl rfl rfl rfl rfl (if_pos h)
theorem x0_1947 : XX X d 0 (1947, [l0, l1, l2, some (.ref a), l4, l5, l6, l7, l8], st, M) Q = XX X d 0 (1948, [l0, l1, l2, some (.ref a), l4, l5, l6, l7, l8], .ref a :: st, M) Q := H_ld rfl rfl rfl rfl rfl
theorem x0_1948 {v1 v2 v3 v4 : Value} (hd : 0 < d) (hs : stB st = true) : XX X d 0 (1948, L, v4 :: v3 :: v2 :: v1 :: st, M) Q = CC X (d - 1) 260 [v1, v2, v3, v4] M (XC X d 0 1948 1951 L st Q) := H_static [v1, v2, v3, v4] rfl (by decide) rfl rfl (by decide) rfl rfl hd hs
theorem x0_1951 (h : wide (some l5) = false) : XX X d 0 (1951, [l0, l1, l2, l3, l4, l5, l6, l7, l8], .int x :: st, M) Q = XX X d 0 (1953, [l0, l1, l2, l3, l4, l5, some (.int x), l7, l8], st, M) Q := H_st rfl rfl rfl rfl rfl rfl rfl rfl (Or.inr h)
theorem x0_1953 : XX X d 0 (1953, [l0, l1, some (.ref a), l3, l4, l5, l6, l7, l8], st, M) Q = XX X d 0 (1954, [l0, l1, some (.ref a), l3, l4, l5, l6, l7, l8], .ref a :: st, M) Q := H_ld rfl rfl rfl rfl rfl
theorem x0_1954 : XX X d 0 (1954, [some (.ref a), l1, l2, l3, l4, l5, l6, l7, l8], st, M) Q = XX X d 0 (1955, [some (.ref a), l1, l2, l3, l4, l5, l6, l7, l8], .ref a :: st, M) Q := H_ld rfl rfl rfl rfl rfl
theorem x0_1955 : XX X d 0 (1955, [l0, l1, l2, l3, l4, some (.int x), l6, l7, l8], st, M) Q = XX X d 0 (1957, [l0, l1, l2, l3, l4, some (.int x), l6, l7, l8], .int x :: st, M) Q := H_ld rfl rfl rfl rfl rfl
theorem x0_1957 : XX X d 0 (1957, L, st, M) Q = XX X d 0 (1958, L, .int (ii 1) :: st, M) Q := G_cst rfl rfl rfl rfl rfl
theorem x0_1958 : XX X d 0 (1958, L, .int (ii q) :: .int (ii p) :: st, M) Q = XX X d 0 (1959, L, .int (ii (p + q)) :: st, M) Q := H_add rfl (by decide) rfl
theorem x0_1959 (h : a = X.1 ∧ ¬ (x < 0 ∨ X.2.1 ≤ x.toNatClampNeg)) : XX X d 0 (1959, L, .int x :: .ref a :: st, M) Q = XX X d 0 (1960, L, .int (X.2.2 x.toNatClampNeg) :: st, M) Q := G_scr rfl rfl rfl rfl rfl (if_pos h)
theorem x0_1960 : XX X d 0 (1960, [some (.ref a), l1, l2, l3, l4, l5, l6, l7, l8], st, M) Q = XX X d 0 (1961, [some (.ref a), l1, l2, l3, l4, l5, l6, l7, l8], .ref a :: st, M) Q := H_ld rfl rfl rfl rfl rfl
theorem x0_1961 : XX X d 0 (1961, [l0, l1, l2, l3, l4, some (.int x), l6, l7, l8], st, M) Q = XX X d 0 (1963, [l0, l1, l2, l3, l4, some (.int x), l6, l7, l8], .int x :: st, M) Q := H_ld rfl rfl rfl rfl rfl
theorem x0_1963 : XX X d 0 (1963, L, st, M) Q = XX X d 0 (1964, L, .int (ii 2) :: st, M) Q := G_cst rfl rfl rfl rfl rfl
theorem x0_1964 : XX X d 0 (1964, L, .int (ii q) :: .int (ii p) :: st, M) Q = XX X d 0 (1965, L, .int (ii (p + q)) :: st, M) Q := H_add rfl (by decide) rfl
theorem x0_1965 (h : a = X.1 ∧ ¬ (x < 0 ∨ X.2.1 ≤ x.toNatClampNeg)) : XX X d 0 (1965, L, .int x :: .ref a :: st, M) Q = XX X d 0 (1966, L, .int (X.2.2 x.toNatClampNeg) :: st, M) Q := G_scr rfl rfl rfl rfl rfl (if_pos h)
theorem x0_1966 {v1 v2 : Value} (hd : 0 < d) (hs : stB st = true) : XX X d 0 (1966, L, v2 :: v1 :: .ref a :: st, M) Q = (mcl M a = some 9 ∧ CC X (d - 1) 216 [.ref a, v1, v2] M (XC X d 0 1966 1969 L st Q)) := H_virt [v1, v2] rfl (by decide) rfl rfl rfl rfl rfl hd hs
theorem x0_1969 (h : wide (some l6) = false) : XX X d 0 (1969, [l0, l1, l2, l3, l4, l5, l6, l7, l8], .int x :: st, M) Q = XX X d 0 (1971, [l0, l1, l2, l3, l4, l5, l6, some (.int x), l8], st, M) Q := H_st rfl rfl rfl rfl rfl rfl rfl rfl (Or.inr h)
theorem x0_1971 : XX X d 0 (1971, [l0, l1, some (.ref a), l3, l4, l5, l6, l7, l8], st, M) Q = XX X d 0 (1972, [l0, l1, some (.ref a), l3, l4, l5, l6, l7, l8], .ref a :: st, M) Q := H_ld rfl rfl rfl rfl rfl
theorem x0_1972 (hd : 0 < d) (hs : stB st = true) : XX X d 0 (1972, L, .ref a :: st, M) Q = (mcl M a = some 9 ∧ CC X (d - 1) 143 [.ref a] M (XC X d 0 1972 1975 L st Q)) := H_virt [] rfl (by decide) rfl rfl rfl rfl rfl hd hs
theorem x0_1975 : XX X d 0 (1975, [l0, l1, l2, l3, l4, l5, some (.int x), l7, l8], st, M) Q = XX X d 0 (1977, [l0, l1, l2, l3, l4, l5, some (.int x), l7, l8], .int x :: st, M) Q := H_ld rfl rfl rfl rfl rfl
theorem x0_1977 (h : -2147483648 ≤ p ∧ p ≤ 2147483647 ∧ -2147483648 ≤ q ∧ q ≤ 2147483647) : XX X d 0 (1977, L, .int (ii q) :: .int (ii p) :: st, M) Q = bq (p = q) X d 0 1982 1980 L st M Q := H_if2 rfl ⟨rfl, rfl, rfl, by decide⟩ rfl rfl rfl rfl (D_eq h)
theorem x0_1980 : XX X d 0 (1980, L, st, M) Q = XX X d 0 (1981, L, .int (ii 0) :: st, M) Q := G_cst rfl rfl rfl rfl rfl
theorem x0_1981 (h : bz p) : XX X d 0 (1981, L, [.int (ii p)], M) Q = Q (.inl (some (.int (ii p)))) M := G_ret rfl ⟨⟨⟨rfl, rfl, rfl, by decide⟩, rfl, rfl⟩, rfl, rfl⟩ (bz_ok h)
theorem x0_1982 : XX X d 0 (1982, [l0, l1, l2, l3, l4, l5, some (.int x), l7, l8], st, M) Q = XX X d 0 (1984, [l0, l1, l2, l3, l4, l5, some (.int x), l7, l8], .int x :: st, M) Q := H_ld rfl rfl rfl rfl rfl
theorem x0_1984 (h : -2147483648 ≤ p ∧ p ≤ 2147483647) : XX X d 0 (1984, L, .int (ii p) :: st, M) Q = bq (p ≠ 0) X d 0 1999 1987 L st M Q := H_if rfl ⟨rfl, rfl, rfl, by decide⟩ rfl rfl rfl rfl (D_ne (b := 0) (by omega))
theorem x0_1984b : XX X d 0 (1984, L, .int (ii (b2i b)) :: st, M) Q = bq (b = true) X d 0 1999 1987 L st M Q := (x0_1984 (b2i_r b)).trans (by rw [b2i_n0])
theorem x0_1987 : XX X d 0 (1987, [l0, l1, l2, some (.ref a), l4, l5, l6, l7, l8], st, M) Q = XX X d 0 (1988, [l0, l1, l2, some (.ref a), l4, l5, l6, l7, l8], .ref a :: st, M) Q := H_ld rfl rfl rfl rfl rfl
theorem x0_1988 : XX X d 0 (1988, L, st, M) Q = XX X d 0 (1989, L, .int (ii 0) :: st, M) Q := G_cst rfl rfl rfl rfl rfl
theorem x0_1989 : XX X d 0 (1989, L, .int x :: .ref a :: st, M) Q = xa (M.2.2 a) (aldT .laload) x (fun v => XX X d 0 (1990, L, v :: st, M) Q) := G_ald rfl ⟨⟨rfl, rfl, rfl, by decide⟩, rfl, rfl⟩ rfl rfl
theorem x0_1990 : XX X d 0 (1990, [l0, l1, l2, l3, l4, l5, l6, some (.int x), l8], st, M) Q = XX X d 0 (1992, [l0, l1, l2, l3, l4, l5, l6, some (.int x), l8], .int x :: st, M) Q := H_ld rfl rfl rfl rfl rfl
theorem x0_1992 : XX X d 0 (1992, L, .int x :: st, M) Q = XX X d 0 (1993, L, .long x.toInt64 :: st, M) Q := G_sop rfl ⟨rfl, rfl, rfl, by decide⟩ rfl rfl
theorem x0_1993 : XX X d 0 (1993, L, .long y2 :: .long y :: st, M) Q = XX X d 0 (1994, L, .int (lg_cmp y y2) :: st, M) Q := G_sop rfl ⟨rfl, rfl, rfl, by decide⟩ rfl rfl
theorem x0_1994 (h : -2147483648 ≤ p ∧ p ≤ 2147483647) : XX X d 0 (1994, L, .int (ii p) :: st, M) Q = bq (p = 0) X d 0 1999 1997 L st M Q := H_if rfl ⟨rfl, rfl, rfl, by decide⟩ rfl rfl rfl rfl (D_eq (b := 0) (by omega))
theorem x0_1994b : XX X d 0 (1994, L, .int (ii (b2i b)) :: st, M) Q = bq (b = false) X d 0 1999 1997 L st M Q := (x0_1994 (b2i_r b)).trans (by rw [b2i_0])
theorem x0_1997 : XX X d 0 (1997, L, st, M) Q = XX X d 0 (1998, L, .int (ii 0) :: st, M) Q := G_cst rfl rfl rfl rfl rfl
theorem x0_1998 (h : bz p) : XX X d 0 (1998, L, [.int (ii p)], M) Q = Q (.inl (some (.int (ii p)))) M := G_ret rfl ⟨⟨⟨rfl, rfl, rfl, by decide⟩, rfl, rfl⟩, rfl, rfl⟩ (bz_ok h)
theorem x0_1999 : XX X d 0 (1999, L, st, M) Q = XX X d 0 (2632, L, st, M) Q := H_jmp rfl (by decide) rfl
theorem x0_2002 : XX X d 0 (2002, [l0, some (.ref a), l2, l3, l4, l5, l6, l7, l8], st, M) Q = XX X d 0 (2003, [l0, some (.ref a), l2, l3, l4, l5, l6, l7, l8], .ref a :: st, M) Q := H_ld rfl rfl rfl rfl rfl
theorem x0_2003 : XX X d 0 (2003, [some (.ref a), l1, l2, l3, l4, l5, l6, l7, l8], st, M) Q = XX X d 0 (2004, [some (.ref a), l1, l2, l3, l4, l5, l6, l7, l8], .ref a :: st, M) Q := H_ld rfl rfl rfl rfl rfl
theorem x0_2004 : XX X d 0 (2004, [l0, l1, l2, l3, l4, some (.int x), l6, l7, l8], st, M) Q = XX X d 0 (2006, [l0, l1, l2, l3, l4, some (.int x), l6, l7, l8], .int x :: st, M) Q := H_ld rfl rfl rfl rfl rfl
theorem x0_2006 : XX X d 0 (2006, L, st, M) Q = XX X d 0 (2007, L, .int (ii 1) :: st, M) Q := G_cst rfl rfl rfl rfl rfl
theorem x0_2007 : XX X d 0 (2007, L, .int (ii q) :: .int (ii p) :: st, M) Q = XX X d 0 (2008, L, .int (ii (p + q)) :: st, M) Q := H_add rfl (by decide) rfl
theorem x0_2008 (h : a = X.1 ∧ ¬ (x < 0 ∨ X.2.1 ≤ x.toNatClampNeg)) : XX X d 0 (2008, L, .int x :: .ref a :: st, M) Q = XX X d 0 (2009, L, .int (X.2.2 x.toNatClampNeg) :: st, M) Q := G_scr rfl rfl rfl rfl rfl (if_pos h)
theorem x0_2009 : XX X d 0 (2009, [l0, l1, l2, some (.ref a), l4, l5, l6, l7, l8], st, M) Q = XX X d 0 (2010, [l0, l1, l2, some (.ref a), l4, l5, l6, l7, l8], .ref a :: st, M) Q := H_ld rfl rfl rfl rfl rfl
theorem x0_2010 {v1 v2 v3 : Value} (hd : 0 < d) (hs : stB st = true) : XX X d 0 (2010, L, v3 :: v2 :: v1 :: st, M) Q = CC X (d - 1) 261 [v1, v2, v3] M (XC X d 0 2010 2013 L st Q) := H_static [v1, v2, v3] rfl (by decide) rfl rfl (by decide) rfl rfl hd hs
theorem x0_2013 (h : wide (some l5) = false) : XX X d 0 (2013, [l0, l1, l2, l3, l4, l5, l6, l7, l8], .int x :: st, M) Q = XX X d 0 (2015, [l0, l1, l2, l3, l4, l5, some (.int x), l7, l8], st, M) Q := H_st rfl rfl rfl rfl rfl rfl rfl rfl (Or.inr h)
theorem x0_2015 : XX X d 0 (2015, [l0, l1, some (.ref a), l3, l4, l5, l6, l7, l8], st, M) Q = XX X d 0 (2016, [l0, l1, some (.ref a), l3, l4, l5, l6, l7, l8], .ref a :: st, M) Q := H_ld rfl rfl rfl rfl rfl
theorem x0_2016 : XX X d 0 (2016, [some (.ref a), l1, l2, l3, l4, l5, l6, l7, l8], st, M) Q = XX X d 0 (2017, [some (.ref a), l1, l2, l3, l4, l5, l6, l7, l8], .ref a :: st, M) Q := H_ld rfl rfl rfl rfl rfl
theorem x0_2017 : XX X d 0 (2017, [l0, l1, l2, l3, l4, some (.int x), l6, l7, l8], st, M) Q = XX X d 0 (2019, [l0, l1, l2, l3, l4, some (.int x), l6, l7, l8], .int x :: st, M) Q := H_ld rfl rfl rfl rfl rfl
theorem x0_2019 : XX X d 0 (2019, L, st, M) Q = XX X d 0 (2020, L, .int (ii 1) :: st, M) Q := G_cst rfl rfl rfl rfl rfl
theorem x0_2020 : XX X d 0 (2020, L, .int (ii q) :: .int (ii p) :: st, M) Q = XX X d 0 (2021, L, .int (ii (p + q)) :: st, M) Q := H_add rfl (by decide) rfl
theorem x0_2021 (h : a = X.1 ∧ ¬ (x < 0 ∨ X.2.1 ≤ x.toNatClampNeg)) : XX X d 0 (2021, L, .int x :: .ref a :: st, M) Q = XX X d 0 (2022, L, .int (X.2.2 x.toNatClampNeg) :: st, M) Q := G_scr rfl rfl rfl rfl rfl (if_pos h)
theorem x0_2022 {v1 : Value} (hd : 0 < d) (hs : stB st = true) : XX X d 0 (2022, L, v1 :: .ref a :: st, M) Q = (mcl M a = some 9 ∧ CC X (d - 1) 217 [.ref a, v1] M (XC X d 0 2022 2025 L st Q)) := H_virt [v1] rfl (by decide) rfl rfl rfl rfl rfl hd hs
theorem x0_2025 (h : wide (some l6) = false) : XX X d 0 (2025, [l0, l1, l2, l3, l4, l5, l6, l7, l8], .int x :: st, M) Q = XX X d 0 (2027, [l0, l1, l2, l3, l4, l5, l6, some (.int x), l8], st, M) Q := H_st rfl rfl rfl rfl rfl rfl rfl rfl (Or.inr h)
theorem x0_2027 : XX X d 0 (2027, [l0, l1, some (.ref a), l3, l4, l5, l6, l7, l8], st, M) Q = XX X d 0 (2028, [l0, l1, some (.ref a), l3, l4, l5, l6, l7, l8], .ref a :: st, M) Q := H_ld rfl rfl rfl rfl rfl
theorem x0_2028 (hd : 0 < d) (hs : stB st = true) : XX X d 0 (2028, L, .ref a :: st, M) Q = (mcl M a = some 9 ∧ CC X (d - 1) 143 [.ref a] M (XC X d 0 2028 2031 L st Q)) := H_virt [] rfl (by decide) rfl rfl rfl rfl rfl hd hs
theorem x0_2031 : XX X d 0 (2031, [l0, l1, l2, l3, l4, l5, some (.int x), l7, l8], st, M) Q = XX X d 0 (2033, [l0, l1, l2, l3, l4, l5, some (.int x), l7, l8], .int x :: st, M) Q := H_ld rfl rfl rfl rfl rfl
theorem x0_2033 (h : -2147483648 ≤ p ∧ p ≤ 2147483647 ∧ -2147483648 ≤ q ∧ q ≤ 2147483647) : XX X d 0 (2033, L, .int (ii q) :: .int (ii p) :: st, M) Q = bq (p = q) X d 0 2038 2036 L st M Q := H_if2 rfl ⟨rfl, rfl, rfl, by decide⟩ rfl rfl rfl rfl (D_eq h)
theorem x0_2036 : XX X d 0 (2036, L, st, M) Q = XX X d 0 (2037, L, .int (ii 0) :: st, M) Q := G_cst rfl rfl rfl rfl rfl
theorem x0_2037 (h : bz p) : XX X d 0 (2037, L, [.int (ii p)], M) Q = Q (.inl (some (.int (ii p)))) M := G_ret rfl ⟨⟨⟨rfl, rfl, rfl, by decide⟩, rfl, rfl⟩, rfl, rfl⟩ (bz_ok h)
theorem x0_2038 : XX X d 0 (2038, [l0, l1, l2, l3, l4, l5, some (.int x), l7, l8], st, M) Q = XX X d 0 (2040, [l0, l1, l2, l3, l4, l5, some (.int x), l7, l8], .int x :: st, M) Q := H_ld rfl rfl rfl rfl rfl
theorem x0_2040 (h : -2147483648 ≤ p ∧ p ≤ 2147483647) : XX X d 0 (2040, L, .int (ii p) :: st, M) Q = bq (p ≠ 0) X d 0 2055 2043 L st M Q := H_if rfl ⟨rfl, rfl, rfl, by decide⟩ rfl rfl rfl rfl (D_ne (b := 0) (by omega))
theorem x0_2040b : XX X d 0 (2040, L, .int (ii (b2i b)) :: st, M) Q = bq (b = true) X d 0 2055 2043 L st M Q := (x0_2040 (b2i_r b)).trans (by rw [b2i_n0])
theorem x0_2043 : XX X d 0 (2043, [l0, l1, l2, some (.ref a), l4, l5, l6, l7, l8], st, M) Q = XX X d 0 (2044, [l0, l1, l2, some (.ref a), l4, l5, l6, l7, l8], .ref a :: st, M) Q := H_ld rfl rfl rfl rfl rfl
theorem x0_2044 : XX X d 0 (2044, L, st, M) Q = XX X d 0 (2045, L, .int (ii 0) :: st, M) Q := G_cst rfl rfl rfl rfl rfl
theorem x0_2045 : XX X d 0 (2045, L, .int x :: .ref a :: st, M) Q = xa (M.2.2 a) (aldT .laload) x (fun v => XX X d 0 (2046, L, v :: st, M) Q) := G_ald rfl ⟨⟨rfl, rfl, rfl, by decide⟩, rfl, rfl⟩ rfl rfl
theorem x0_2046 : XX X d 0 (2046, [l0, l1, l2, l3, l4, l5, l6, some (.int x), l8], st, M) Q = XX X d 0 (2048, [l0, l1, l2, l3, l4, l5, l6, some (.int x), l8], .int x :: st, M) Q := H_ld rfl rfl rfl rfl rfl
theorem x0_2048 : XX X d 0 (2048, L, .int x :: st, M) Q = XX X d 0 (2049, L, .long x.toInt64 :: st, M) Q := G_sop rfl ⟨rfl, rfl, rfl, by decide⟩ rfl rfl
theorem x0_2049 : XX X d 0 (2049, L, .long y2 :: .long y :: st, M) Q = XX X d 0 (2050, L, .int (lg_cmp y y2) :: st, M) Q := G_sop rfl ⟨rfl, rfl, rfl, by decide⟩ rfl rfl
theorem x0_2050 (h : -2147483648 ≤ p ∧ p ≤ 2147483647) : XX X d 0 (2050, L, .int (ii p) :: st, M) Q = bq (p = 0) X d 0 2055 2053 L st M Q := H_if rfl ⟨rfl, rfl, rfl, by decide⟩ rfl rfl rfl rfl (D_eq (b := 0) (by omega))
theorem x0_2050b : XX X d 0 (2050, L, .int (ii (b2i b)) :: st, M) Q = bq (b = false) X d 0 2055 2053 L st M Q := (x0_2050 (b2i_r b)).trans (by rw [b2i_0])
theorem x0_2053 : XX X d 0 (2053, L, st, M) Q = XX X d 0 (2054, L, .int (ii 0) :: st, M) Q := G_cst rfl rfl rfl rfl rfl
theorem x0_2054 (h : bz p) : XX X d 0 (2054, L, [.int (ii p)], M) Q = Q (.inl (some (.int (ii p)))) M := G_ret rfl ⟨⟨⟨rfl, rfl, rfl, by decide⟩, rfl, rfl⟩, rfl, rfl⟩ (bz_ok h)
theorem x0_2055 : XX X d 0 (2055, L, st, M) Q = XX X d 0 (2632, L, st, M) Q := H_jmp rfl (by decide) rfl
theorem x0_2058 : XX X d 0 (2058, [l0, some (.ref a), l2, l3, l4, l5, l6, l7, l8], st, M) Q = XX X d 0 (2059, [l0, some (.ref a), l2, l3, l4, l5, l6, l7, l8], .ref a :: st, M) Q := H_ld rfl rfl rfl rfl rfl
theorem x0_2059 : XX X d 0 (2059, [some (.ref a), l1, l2, l3, l4, l5, l6, l7, l8], st, M) Q = XX X d 0 (2060, [some (.ref a), l1, l2, l3, l4, l5, l6, l7, l8], .ref a :: st, M) Q := H_ld rfl rfl rfl rfl rfl
theorem x0_2060 : XX X d 0 (2060, [l0, l1, l2, l3, l4, some (.int x), l6, l7, l8], st, M) Q = XX X d 0 (2062, [l0, l1, l2, l3, l4, some (.int x), l6, l7, l8], .int x :: st, M) Q := H_ld rfl rfl rfl rfl rfl
theorem x0_2062 : XX X d 0 (2062, L, st, M) Q = XX X d 0 (2063, L, .int (ii 1) :: st, M) Q := G_cst rfl rfl rfl rfl rfl
theorem x0_2063 : XX X d 0 (2063, L, .int (ii q) :: .int (ii p) :: st, M) Q = XX X d 0 (2064, L, .int (ii (p + q)) :: st, M) Q := H_add rfl (by decide) rfl
theorem x0_2064 (h : a = X.1 ∧ ¬ (x < 0 ∨ X.2.1 ≤ x.toNatClampNeg)) : XX X d 0 (2064, L, .int x :: .ref a :: st, M) Q = XX X d 0 (2065, L, .int (X.2.2 x.toNatClampNeg) :: st, M) Q := G_scr rfl rfl rfl rfl rfl (if_pos h)
theorem x0_2065 : XX X d 0 (2065, [l0, l1, l2, some (.ref a), l4, l5, l6, l7, l8], st, M) Q = XX X d 0 (2066, [l0, l1, l2, some (.ref a), l4, l5, l6, l7, l8], .ref a :: st, M) Q := H_ld rfl rfl rfl rfl rfl
theorem x0_2066 {v1 v2 v3 : Value} (hd : 0 < d) (hs : stB st = true) : XX X d 0 (2066, L, v3 :: v2 :: v1 :: st, M) Q = CC X (d - 1) 262 [v1, v2, v3] M (XC X d 0 2066 2069 L st Q) := H_static [v1, v2, v3] rfl (by decide) rfl rfl (by decide) rfl rfl hd hs
theorem x0_2069 (h : wide (some l5) = false) : XX X d 0 (2069, [l0, l1, l2, l3, l4, l5, l6, l7, l8], .int x :: st, M) Q = XX X d 0 (2071, [l0, l1, l2, l3, l4, l5, some (.int x), l7, l8], st, M) Q := H_st rfl rfl rfl rfl rfl rfl rfl rfl (Or.inr h)
theorem x0_2071 : XX X d 0 (2071, [l0, l1, some (.ref a), l3, l4, l5, l6, l7, l8], st, M) Q = XX X d 0 (2072, [l0, l1, some (.ref a), l3, l4, l5, l6, l7, l8], .ref a :: st, M) Q := H_ld rfl rfl rfl rfl rfl
theorem x0_2072 : XX X d 0 (2072, [some (.ref a), l1, l2, l3, l4, l5, l6, l7, l8], st, M) Q = XX X d 0 (2073, [some (.ref a), l1, l2, l3, l4, l5, l6, l7, l8], .ref a :: st, M) Q := H_ld rfl rfl rfl rfl rfl
theorem x0_2073 : XX X d 0 (2073, [l0, l1, l2, l3, l4, some (.int x), l6, l7, l8], st, M) Q = XX X d 0 (2075, [l0, l1, l2, l3, l4, some (.int x), l6, l7, l8], .int x :: st, M) Q := H_ld rfl rfl rfl rfl rfl
theorem x0_2075 : XX X d 0 (2075, L, st, M) Q = XX X d 0 (2076, L, .int (ii 1) :: st, M) Q := G_cst rfl rfl rfl rfl rfl
theorem x0_2076 : XX X d 0 (2076, L, .int (ii q) :: .int (ii p) :: st, M) Q = XX X d 0 (2077, L, .int (ii (p + q)) :: st, M) Q := H_add rfl (by decide) rfl
theorem x0_2077 (h : a = X.1 ∧ ¬ (x < 0 ∨ X.2.1 ≤ x.toNatClampNeg)) : XX X d 0 (2077, L, .int x :: .ref a :: st, M) Q = XX X d 0 (2078, L, .int (X.2.2 x.toNatClampNeg) :: st, M) Q := G_scr rfl rfl rfl rfl rfl (if_pos h)
theorem x0_2078 {v1 : Value} (hd : 0 < d) (hs : stB st = true) : XX X d 0 (2078, L, v1 :: .ref a :: st, M) Q = (mcl M a = some 9 ∧ CC X (d - 1) 218 [.ref a, v1] M (XC X d 0 2078 2081 L st Q)) := H_virt [v1] rfl (by decide) rfl rfl rfl rfl rfl hd hs
theorem x0_2081 (h : wide (some l6) = false) : XX X d 0 (2081, [l0, l1, l2, l3, l4, l5, l6, l7, l8], .int x :: st, M) Q = XX X d 0 (2083, [l0, l1, l2, l3, l4, l5, l6, some (.int x), l8], st, M) Q := H_st rfl rfl rfl rfl rfl rfl rfl rfl (Or.inr h)
theorem x0_2083 : XX X d 0 (2083, [l0, l1, some (.ref a), l3, l4, l5, l6, l7, l8], st, M) Q = XX X d 0 (2084, [l0, l1, some (.ref a), l3, l4, l5, l6, l7, l8], .ref a :: st, M) Q := H_ld rfl rfl rfl rfl rfl
theorem x0_2084 (hd : 0 < d) (hs : stB st = true) : XX X d 0 (2084, L, .ref a :: st, M) Q = (mcl M a = some 9 ∧ CC X (d - 1) 143 [.ref a] M (XC X d 0 2084 2087 L st Q)) := H_virt [] rfl (by decide) rfl rfl rfl rfl rfl hd hs
theorem x0_2087 : XX X d 0 (2087, [l0, l1, l2, l3, l4, l5, some (.int x), l7, l8], st, M) Q = XX X d 0 (2089, [l0, l1, l2, l3, l4, l5, some (.int x), l7, l8], .int x :: st, M) Q := H_ld rfl rfl rfl rfl rfl
theorem x0_2089 (h : -2147483648 ≤ p ∧ p ≤ 2147483647 ∧ -2147483648 ≤ q ∧ q ≤ 2147483647) : XX X d 0 (2089, L, .int (ii q) :: .int (ii p) :: st, M) Q = bq (p = q) X d 0 2094 2092 L st M Q := H_if2 rfl ⟨rfl, rfl, rfl, by decide⟩ rfl rfl rfl rfl (D_eq h)
theorem x0_2092 : XX X d 0 (2092, L, st, M) Q = XX X d 0 (2093, L, .int (ii 0) :: st, M) Q := G_cst rfl rfl rfl rfl rfl
theorem x0_2093 (h : bz p) : XX X d 0 (2093, L, [.int (ii p)], M) Q = Q (.inl (some (.int (ii p)))) M := G_ret rfl ⟨⟨⟨rfl, rfl, rfl, by decide⟩, rfl, rfl⟩, rfl, rfl⟩ (bz_ok h)
theorem x0_2094 : XX X d 0 (2094, [l0, l1, l2, l3, l4, l5, some (.int x), l7, l8], st, M) Q = XX X d 0 (2096, [l0, l1, l2, l3, l4, l5, some (.int x), l7, l8], .int x :: st, M) Q := H_ld rfl rfl rfl rfl rfl
theorem x0_2096 (h : -2147483648 ≤ p ∧ p ≤ 2147483647) : XX X d 0 (2096, L, .int (ii p) :: st, M) Q = bq (p ≠ 0) X d 0 2111 2099 L st M Q := H_if rfl ⟨rfl, rfl, rfl, by decide⟩ rfl rfl rfl rfl (D_ne (b := 0) (by omega))
theorem x0_2096b : XX X d 0 (2096, L, .int (ii (b2i b)) :: st, M) Q = bq (b = true) X d 0 2111 2099 L st M Q := (x0_2096 (b2i_r b)).trans (by rw [b2i_n0])
theorem x0_2099 : XX X d 0 (2099, [l0, l1, l2, some (.ref a), l4, l5, l6, l7, l8], st, M) Q = XX X d 0 (2100, [l0, l1, l2, some (.ref a), l4, l5, l6, l7, l8], .ref a :: st, M) Q := H_ld rfl rfl rfl rfl rfl
theorem x0_2100 : XX X d 0 (2100, L, st, M) Q = XX X d 0 (2101, L, .int (ii 0) :: st, M) Q := G_cst rfl rfl rfl rfl rfl
theorem x0_2101 : XX X d 0 (2101, L, .int x :: .ref a :: st, M) Q = xa (M.2.2 a) (aldT .laload) x (fun v => XX X d 0 (2102, L, v :: st, M) Q) := G_ald rfl ⟨⟨rfl, rfl, rfl, by decide⟩, rfl, rfl⟩ rfl rfl
theorem x0_2102 : XX X d 0 (2102, [l0, l1, l2, l3, l4, l5, l6, some (.int x), l8], st, M) Q = XX X d 0 (2104, [l0, l1, l2, l3, l4, l5, l6, some (.int x), l8], .int x :: st, M) Q := H_ld rfl rfl rfl rfl rfl
theorem x0_2104 : XX X d 0 (2104, L, .int x :: st, M) Q = XX X d 0 (2105, L, .long x.toInt64 :: st, M) Q := G_sop rfl ⟨rfl, rfl, rfl, by decide⟩ rfl rfl
theorem x0_2105 : XX X d 0 (2105, L, .long y2 :: .long y :: st, M) Q = XX X d 0 (2106, L, .int (lg_cmp y y2) :: st, M) Q := G_sop rfl ⟨rfl, rfl, rfl, by decide⟩ rfl rfl
theorem x0_2106 (h : -2147483648 ≤ p ∧ p ≤ 2147483647) : XX X d 0 (2106, L, .int (ii p) :: st, M) Q = bq (p = 0) X d 0 2111 2109 L st M Q := H_if rfl ⟨rfl, rfl, rfl, by decide⟩ rfl rfl rfl rfl (D_eq (b := 0) (by omega))
theorem x0_2106b : XX X d 0 (2106, L, .int (ii (b2i b)) :: st, M) Q = bq (b = false) X d 0 2111 2109 L st M Q := (x0_2106 (b2i_r b)).trans (by rw [b2i_0])
theorem x0_2109 : XX X d 0 (2109, L, st, M) Q = XX X d 0 (2110, L, .int (ii 0) :: st, M) Q := G_cst rfl rfl rfl rfl rfl
theorem x0_2110 (h : bz p) : XX X d 0 (2110, L, [.int (ii p)], M) Q = Q (.inl (some (.int (ii p)))) M := G_ret rfl ⟨⟨⟨rfl, rfl, rfl, by decide⟩, rfl, rfl⟩, rfl, rfl⟩ (bz_ok h)
theorem x0_2111 : XX X d 0 (2111, L, st, M) Q = XX X d 0 (2632, L, st, M) Q := H_jmp rfl (by decide) rfl
theorem x0_2114 : XX X d 0 (2114, [l0, some (.ref a), l2, l3, l4, l5, l6, l7, l8], st, M) Q = XX X d 0 (2115, [l0, some (.ref a), l2, l3, l4, l5, l6, l7, l8], .ref a :: st, M) Q := H_ld rfl rfl rfl rfl rfl
theorem x0_2115 : XX X d 0 (2115, [some (.ref a), l1, l2, l3, l4, l5, l6, l7, l8], st, M) Q = XX X d 0 (2116, [some (.ref a), l1, l2, l3, l4, l5, l6, l7, l8], .ref a :: st, M) Q := H_ld rfl rfl rfl rfl rfl
theorem x0_2116 : XX X d 0 (2116, [l0, l1, l2, l3, l4, some (.int x), l6, l7, l8], st, M) Q = XX X d 0 (2118, [l0, l1, l2, l3, l4, some (.int x), l6, l7, l8], .int x :: st, M) Q := H_ld rfl rfl rfl rfl rfl
theorem x0_2118 : XX X d 0 (2118, L, st, M) Q = XX X d 0 (2119, L, .int (ii 1) :: st, M) Q := G_cst rfl rfl rfl rfl rfl
theorem x0_2119 : XX X d 0 (2119, L, .int (ii q) :: .int (ii p) :: st, M) Q = XX X d 0 (2120, L, .int (ii (p + q)) :: st, M) Q := H_add rfl (by decide) rfl
theorem x0_2120 (h : a = X.1 ∧ ¬ (x < 0 ∨ X.2.1 ≤ x.toNatClampNeg)) : XX X d 0 (2120, L, .int x :: .ref a :: st, M) Q = XX X d 0 (2121, L, .int (X.2.2 x.toNatClampNeg) :: st, M) Q := G_scr rfl rfl rfl rfl rfl (if_pos h)
theorem x0_2121 : XX X d 0 (2121, [l0, l1, l2, some (.ref a), l4, l5, l6, l7, l8], st, M) Q = XX X d 0 (2122, [l0, l1, l2, some (.ref a), l4, l5, l6, l7, l8], .ref a :: st, M) Q := H_ld rfl rfl rfl rfl rfl
theorem x0_2122 {v1 v2 v3 : Value} (hd : 0 < d) (hs : stB st = true) : XX X d 0 (2122, L, v3 :: v2 :: v1 :: st, M) Q = CC X (d - 1) 263 [v1, v2, v3] M (XC X d 0 2122 2125 L st Q) := H_static [v1, v2, v3] rfl (by decide) rfl rfl (by decide) rfl rfl hd hs
theorem x0_2125 (h : wide (some l5) = false) : XX X d 0 (2125, [l0, l1, l2, l3, l4, l5, l6, l7, l8], .int x :: st, M) Q = XX X d 0 (2127, [l0, l1, l2, l3, l4, l5, some (.int x), l7, l8], st, M) Q := H_st rfl rfl rfl rfl rfl rfl rfl rfl (Or.inr h)
theorem x0_2127 : XX X d 0 (2127, [l0, l1, some (.ref a), l3, l4, l5, l6, l7, l8], st, M) Q = XX X d 0 (2128, [l0, l1, some (.ref a), l3, l4, l5, l6, l7, l8], .ref a :: st, M) Q := H_ld rfl rfl rfl rfl rfl
theorem x0_2128 : XX X d 0 (2128, [some (.ref a), l1, l2, l3, l4, l5, l6, l7, l8], st, M) Q = XX X d 0 (2129, [some (.ref a), l1, l2, l3, l4, l5, l6, l7, l8], .ref a :: st, M) Q := H_ld rfl rfl rfl rfl rfl
theorem x0_2129 : XX X d 0 (2129, [l0, l1, l2, l3, l4, some (.int x), l6, l7, l8], st, M) Q = XX X d 0 (2131, [l0, l1, l2, l3, l4, some (.int x), l6, l7, l8], .int x :: st, M) Q := H_ld rfl rfl rfl rfl rfl
theorem x0_2131 : XX X d 0 (2131, L, st, M) Q = XX X d 0 (2132, L, .int (ii 1) :: st, M) Q := G_cst rfl rfl rfl rfl rfl
theorem x0_2132 : XX X d 0 (2132, L, .int (ii q) :: .int (ii p) :: st, M) Q = XX X d 0 (2133, L, .int (ii (p + q)) :: st, M) Q := H_add rfl (by decide) rfl
theorem x0_2133 (h : a = X.1 ∧ ¬ (x < 0 ∨ X.2.1 ≤ x.toNatClampNeg)) : XX X d 0 (2133, L, .int x :: .ref a :: st, M) Q = XX X d 0 (2134, L, .int (X.2.2 x.toNatClampNeg) :: st, M) Q := G_scr rfl rfl rfl rfl rfl (if_pos h)
theorem x0_2134 {v1 : Value} (hd : 0 < d) (hs : stB st = true) : XX X d 0 (2134, L, v1 :: .ref a :: st, M) Q = (mcl M a = some 9 ∧ CC X (d - 1) 219 [.ref a, v1] M (XC X d 0 2134 2137 L st Q)) := H_virt [v1] rfl (by decide) rfl rfl rfl rfl rfl hd hs
theorem x0_2137 (h : wide (some l6) = false) : XX X d 0 (2137, [l0, l1, l2, l3, l4, l5, l6, l7, l8], .int x :: st, M) Q = XX X d 0 (2139, [l0, l1, l2, l3, l4, l5, l6, some (.int x), l8], st, M) Q := H_st rfl rfl rfl rfl rfl rfl rfl rfl (Or.inr h)
theorem x0_2139 : XX X d 0 (2139, [l0, l1, some (.ref a), l3, l4, l5, l6, l7, l8], st, M) Q = XX X d 0 (2140, [l0, l1, some (.ref a), l3, l4, l5, l6, l7, l8], .ref a :: st, M) Q := H_ld rfl rfl rfl rfl rfl
theorem x0_2140 (hd : 0 < d) (hs : stB st = true) : XX X d 0 (2140, L, .ref a :: st, M) Q = (mcl M a = some 9 ∧ CC X (d - 1) 143 [.ref a] M (XC X d 0 2140 2143 L st Q)) := H_virt [] rfl (by decide) rfl rfl rfl rfl rfl hd hs
theorem x0_2143 : XX X d 0 (2143, [l0, l1, l2, l3, l4, l5, some (.int x), l7, l8], st, M) Q = XX X d 0 (2145, [l0, l1, l2, l3, l4, l5, some (.int x), l7, l8], .int x :: st, M) Q := H_ld rfl rfl rfl rfl rfl
theorem x0_2145 (h : -2147483648 ≤ p ∧ p ≤ 2147483647 ∧ -2147483648 ≤ q ∧ q ≤ 2147483647) : XX X d 0 (2145, L, .int (ii q) :: .int (ii p) :: st, M) Q = bq (p = q) X d 0 2150 2148 L st M Q := H_if2 rfl ⟨rfl, rfl, rfl, by decide⟩ rfl rfl rfl rfl (D_eq h)
theorem x0_2148 : XX X d 0 (2148, L, st, M) Q = XX X d 0 (2149, L, .int (ii 0) :: st, M) Q := G_cst rfl rfl rfl rfl rfl
theorem x0_2149 (h : bz p) : XX X d 0 (2149, L, [.int (ii p)], M) Q = Q (.inl (some (.int (ii p)))) M := G_ret rfl ⟨⟨⟨rfl, rfl, rfl, by decide⟩, rfl, rfl⟩, rfl, rfl⟩ (bz_ok h)
theorem x0_2150 : XX X d 0 (2150, [l0, l1, l2, l3, l4, l5, some (.int x), l7, l8], st, M) Q = XX X d 0 (2152, [l0, l1, l2, l3, l4, l5, some (.int x), l7, l8], .int x :: st, M) Q := H_ld rfl rfl rfl rfl rfl
theorem x0_2152 (h : -2147483648 ≤ p ∧ p ≤ 2147483647) : XX X d 0 (2152, L, .int (ii p) :: st, M) Q = bq (p ≠ 0) X d 0 2167 2155 L st M Q := H_if rfl ⟨rfl, rfl, rfl, by decide⟩ rfl rfl rfl rfl (D_ne (b := 0) (by omega))
theorem x0_2152b : XX X d 0 (2152, L, .int (ii (b2i b)) :: st, M) Q = bq (b = true) X d 0 2167 2155 L st M Q := (x0_2152 (b2i_r b)).trans (by rw [b2i_n0])
theorem x0_2155 : XX X d 0 (2155, [l0, l1, l2, some (.ref a), l4, l5, l6, l7, l8], st, M) Q = XX X d 0 (2156, [l0, l1, l2, some (.ref a), l4, l5, l6, l7, l8], .ref a :: st, M) Q := H_ld rfl rfl rfl rfl rfl
theorem x0_2156 : XX X d 0 (2156, L, st, M) Q = XX X d 0 (2157, L, .int (ii 0) :: st, M) Q := G_cst rfl rfl rfl rfl rfl
theorem x0_2157 : XX X d 0 (2157, L, .int x :: .ref a :: st, M) Q = xa (M.2.2 a) (aldT .laload) x (fun v => XX X d 0 (2158, L, v :: st, M) Q) := G_ald rfl ⟨⟨rfl, rfl, rfl, by decide⟩, rfl, rfl⟩ rfl rfl
theorem x0_2158 : XX X d 0 (2158, [l0, l1, l2, l3, l4, l5, l6, some (.int x), l8], st, M) Q = XX X d 0 (2160, [l0, l1, l2, l3, l4, l5, l6, some (.int x), l8], .int x :: st, M) Q := H_ld rfl rfl rfl rfl rfl
theorem x0_2160 : XX X d 0 (2160, L, .int x :: st, M) Q = XX X d 0 (2161, L, .long x.toInt64 :: st, M) Q := G_sop rfl ⟨rfl, rfl, rfl, by decide⟩ rfl rfl
theorem x0_2161 : XX X d 0 (2161, L, .long y2 :: .long y :: st, M) Q = XX X d 0 (2162, L, .int (lg_cmp y y2) :: st, M) Q := G_sop rfl ⟨rfl, rfl, rfl, by decide⟩ rfl rfl
theorem x0_2162 (h : -2147483648 ≤ p ∧ p ≤ 2147483647) : XX X d 0 (2162, L, .int (ii p) :: st, M) Q = bq (p = 0) X d 0 2167 2165 L st M Q := H_if rfl ⟨rfl, rfl, rfl, by decide⟩ rfl rfl rfl rfl (D_eq (b := 0) (by omega))
theorem x0_2162b : XX X d 0 (2162, L, .int (ii (b2i b)) :: st, M) Q = bq (b = false) X d 0 2167 2165 L st M Q := (x0_2162 (b2i_r b)).trans (by rw [b2i_0])
theorem x0_2165 : XX X d 0 (2165, L, st, M) Q = XX X d 0 (2166, L, .int (ii 0) :: st, M) Q := G_cst rfl rfl rfl rfl rfl
theorem x0_2166 (h : bz p) : XX X d 0 (2166, L, [.int (ii p)], M) Q = Q (.inl (some (.int (ii p)))) M := G_ret rfl ⟨⟨⟨rfl, rfl, rfl, by decide⟩, rfl, rfl⟩, rfl, rfl⟩ (bz_ok h)
theorem x0_2167 : XX X d 0 (2167, L, st, M) Q = XX X d 0 (2632, L, st, M) Q := H_jmp rfl (by decide) rfl
theorem x0_2170 : XX X d 0 (2170, [l0, some (.ref a), l2, l3, l4, l5, l6, l7, l8], st, M) Q = XX X d 0 (2171, [l0, some (.ref a), l2, l3, l4, l5, l6, l7, l8], .ref a :: st, M) Q := H_ld rfl rfl rfl rfl rfl
theorem x0_2171 : XX X d 0 (2171, [some (.ref a), l1, l2, l3, l4, l5, l6, l7, l8], st, M) Q = XX X d 0 (2172, [some (.ref a), l1, l2, l3, l4, l5, l6, l7, l8], .ref a :: st, M) Q := H_ld rfl rfl rfl rfl rfl
theorem x0_2172 : XX X d 0 (2172, [l0, l1, l2, l3, l4, some (.int x), l6, l7, l8], st, M) Q = XX X d 0 (2174, [l0, l1, l2, l3, l4, some (.int x), l6, l7, l8], .int x :: st, M) Q := H_ld rfl rfl rfl rfl rfl
theorem x0_2174 : XX X d 0 (2174, L, st, M) Q = XX X d 0 (2175, L, .int (ii 1) :: st, M) Q := G_cst rfl rfl rfl rfl rfl
theorem x0_2175 : XX X d 0 (2175, L, .int (ii q) :: .int (ii p) :: st, M) Q = XX X d 0 (2176, L, .int (ii (p + q)) :: st, M) Q := H_add rfl (by decide) rfl
theorem x0_2176 (h : a = X.1 ∧ ¬ (x < 0 ∨ X.2.1 ≤ x.toNatClampNeg)) : XX X d 0 (2176, L, .int x :: .ref a :: st, M) Q = XX X d 0 (2177, L, .int (X.2.2 x.toNatClampNeg) :: st, M) Q := G_scr rfl rfl rfl rfl rfl (if_pos h)
theorem x0_2177 : XX X d 0 (2177, [l0, l1, l2, l3, some (.ref a), l5, l6, l7, l8], st, M) Q = XX X d 0 (2179, [l0, l1, l2, l3, some (.ref a), l5, l6, l7, l8], .ref a :: st, M) Q := H_ld rfl rfl rfl rfl rfl
theorem x0_2179 {v1 v2 v3 : Value} (hd : 0 < d) (hs : stB st = true) : XX X d 0 (2179, L, v3 :: v2 :: v1 :: st, M) Q = CC X (d - 1) 264 [v1, v2, v3] M (XC X d 0 2179 2182 L st Q) := H_static [v1, v2, v3] rfl (by decide) rfl rfl (by decide) rfl rfl hd hs
theorem x0_2182 (h : wide (some l5) = false) : XX X d 0 (2182, [l0, l1, l2, l3, l4, l5, l6, l7, l8], .int x :: st, M) Q = XX X d 0 (2184, [l0, l1, l2, l3, l4, l5, some (.int x), l7, l8], st, M) Q := H_st rfl rfl rfl rfl rfl rfl rfl rfl (Or.inr h)
theorem x0_2184 : XX X d 0 (2184, [l0, l1, some (.ref a), l3, l4, l5, l6, l7, l8], st, M) Q = XX X d 0 (2185, [l0, l1, some (.ref a), l3, l4, l5, l6, l7, l8], .ref a :: st, M) Q := H_ld rfl rfl rfl rfl rfl
theorem x0_2185 : XX X d 0 (2185, [some (.ref a), l1, l2, l3, l4, l5, l6, l7, l8], st, M) Q = XX X d 0 (2186, [some (.ref a), l1, l2, l3, l4, l5, l6, l7, l8], .ref a :: st, M) Q := H_ld rfl rfl rfl rfl rfl
theorem x0_2186 : XX X d 0 (2186, [l0, l1, l2, l3, l4, some (.int x), l6, l7, l8], st, M) Q = XX X d 0 (2188, [l0, l1, l2, l3, l4, some (.int x), l6, l7, l8], .int x :: st, M) Q := H_ld rfl rfl rfl rfl rfl
theorem x0_2188 : XX X d 0 (2188, L, st, M) Q = XX X d 0 (2189, L, .int (ii 1) :: st, M) Q := G_cst rfl rfl rfl rfl rfl
theorem x0_2189 : XX X d 0 (2189, L, .int (ii q) :: .int (ii p) :: st, M) Q = XX X d 0 (2190, L, .int (ii (p + q)) :: st, M) Q := H_add rfl (by decide) rfl
theorem x0_2190 (h : a = X.1 ∧ ¬ (x < 0 ∨ X.2.1 ≤ x.toNatClampNeg)) : XX X d 0 (2190, L, .int x :: .ref a :: st, M) Q = XX X d 0 (2191, L, .int (X.2.2 x.toNatClampNeg) :: st, M) Q := G_scr rfl rfl rfl rfl rfl (if_pos h)
theorem x0_2191 {v1 : Value} (hd : 0 < d) (hs : stB st = true) : XX X d 0 (2191, L, v1 :: .ref a :: st, M) Q = (mcl M a = some 9 ∧ CC X (d - 1) 220 [.ref a, v1] M (XC X d 0 2191 2194 L st Q)) := H_virt [v1] rfl (by decide) rfl rfl rfl rfl rfl hd hs
theorem x0_2194 (h : wide (some l6) = false) : XX X d 0 (2194, [l0, l1, l2, l3, l4, l5, l6, l7, l8], .double w :: st, M) Q = XX X d 0 (2196, [l0, l1, l2, l3, l4, l5, l6, some (.double w), none], st, M) Q := H_st2 rfl rfl rfl rfl rfl rfl rfl rfl (Or.inr h)
theorem x0_2196 : XX X d 0 (2196, [l0, l1, some (.ref a), l3, l4, l5, l6, l7, l8], st, M) Q = XX X d 0 (2197, [l0, l1, some (.ref a), l3, l4, l5, l6, l7, l8], .ref a :: st, M) Q := H_ld rfl rfl rfl rfl rfl
theorem x0_2197 (hd : 0 < d) (hs : stB st = true) : XX X d 0 (2197, L, .ref a :: st, M) Q = (mcl M a = some 9 ∧ CC X (d - 1) 143 [.ref a] M (XC X d 0 2197 2200 L st Q)) := H_virt [] rfl (by decide) rfl rfl rfl rfl rfl hd hs
theorem x0_2200 : XX X d 0 (2200, [l0, l1, l2, l3, l4, l5, some (.int x), l7, l8], st, M) Q = XX X d 0 (2202, [l0, l1, l2, l3, l4, l5, some (.int x), l7, l8], .int x :: st, M) Q := H_ld rfl rfl rfl rfl rfl
theorem x0_2202 (h : -2147483648 ≤ p ∧ p ≤ 2147483647 ∧ -2147483648 ≤ q ∧ q ≤ 2147483647) : XX X d 0 (2202, L, .int (ii q) :: .int (ii p) :: st, M) Q = bq (p = q) X d 0 2207 2205 L st M Q := H_if2 rfl ⟨rfl, rfl, rfl, by decide⟩ rfl rfl rfl rfl (D_eq h)
theorem x0_2205 : XX X d 0 (2205, L, st, M) Q = XX X d 0 (2206, L, .int (ii 0) :: st, M) Q := G_cst rfl rfl rfl rfl rfl
theorem x0_2206 (h : bz p) : XX X d 0 (2206, L, [.int (ii p)], M) Q = Q (.inl (some (.int (ii p)))) M := G_ret rfl ⟨⟨⟨rfl, rfl, rfl, by decide⟩, rfl, rfl⟩, rfl, rfl⟩ (bz_ok h)
theorem x0_2207 : XX X d 0 (2207, [l0, l1, l2, l3, l4, l5, some (.int x), l7, l8], st, M) Q = XX X d 0 (2209, [l0, l1, l2, l3, l4, l5, some (.int x), l7, l8], .int x :: st, M) Q := H_ld rfl rfl rfl rfl rfl
theorem x0_2209 (h : -2147483648 ≤ p ∧ p ≤ 2147483647) : XX X d 0 (2209, L, .int (ii p) :: st, M) Q = bq (p ≠ 0) X d 0 2244 2212 L st M Q := H_if rfl ⟨rfl, rfl, rfl, by decide⟩ rfl rfl rfl rfl (D_ne (b := 0) (by omega))
theorem x0_2209b : XX X d 0 (2209, L, .int (ii (b2i b)) :: st, M) Q = bq (b = true) X d 0 2244 2212 L st M Q := (x0_2209 (b2i_r b)).trans (by rw [b2i_n0])
theorem x0_2212 : XX X d 0 (2212, [l0, l1, l2, l3, some (.ref a), l5, l6, l7, l8], st, M) Q = XX X d 0 (2214, [l0, l1, l2, l3, some (.ref a), l5, l6, l7, l8], .ref a :: st, M) Q := H_ld rfl rfl rfl rfl rfl
theorem x0_2214 : XX X d 0 (2214, L, st, M) Q = XX X d 0 (2215, L, .int (ii 0) :: st, M) Q := G_cst rfl rfl rfl rfl rfl
theorem x0_2215 : XX X d 0 (2215, L, .int x :: .ref a :: st, M) Q = xa (M.2.2 a) (aldT .daload) x (fun v => XX X d 0 (2216, L, v :: st, M) Q) := G_ald rfl ⟨⟨rfl, rfl, rfl, by decide⟩, rfl, rfl⟩ rfl rfl
theorem x0_2216 : XX X d 0 (2216, [l0, l1, l2, l3, l4, l5, l6, some (.double w), l8], st, M) Q = XX X d 0 (2218, [l0, l1, l2, l3, l4, l5, l6, some (.double w), l8], .double w :: st, M) Q := H_ld rfl rfl rfl rfl rfl
theorem x0_2218 : XX X d 0 (2218, L, .double w2 :: .double w :: st, M) Q = XX X d 0 (2219, L, .int (Op.cmpValue (FP.dcmp w w2) .l) :: st, M) Q := G_sop rfl ⟨rfl, rfl, rfl, by decide⟩ rfl rfl
theorem x0_2219 (h : -2147483648 ≤ p ∧ p ≤ 2147483647) : XX X d 0 (2219, L, .int (ii p) :: st, M) Q = bq (p = 0) X d 0 2244 2222 L st M Q := H_if rfl ⟨rfl, rfl, rfl, by decide⟩ rfl rfl rfl rfl (D_eq (b := 0) (by omega))
theorem x0_2219b : XX X d 0 (2219, L, .int (ii (b2i b)) :: st, M) Q = bq (b = false) X d 0 2244 2222 L st M Q := (x0_2219 (b2i_r b)).trans (by rw [b2i_0])
theorem x0_2222 : XX X d 0 (2222, [l0, l1, l2, l3, some (.ref a), l5, l6, l7, l8], st, M) Q = XX X d 0 (2224, [l0, l1, l2, l3, some (.ref a), l5, l6, l7, l8], .ref a :: st, M) Q := H_ld rfl rfl rfl rfl rfl
theorem x0_2224 : XX X d 0 (2224, L, st, M) Q = XX X d 0 (2225, L, .int (ii 0) :: st, M) Q := G_cst rfl rfl rfl rfl rfl
theorem x0_2225 : XX X d 0 (2225, L, .int x :: .ref a :: st, M) Q = xa (M.2.2 a) (aldT .daload) x (fun v => XX X d 0 (2226, L, v :: st, M) Q) := G_ald rfl ⟨⟨rfl, rfl, rfl, by decide⟩, rfl, rfl⟩ rfl rfl
theorem x0_2226 : XX X d 0 (2226, [l0, l1, l2, l3, some (.ref a), l5, l6, l7, l8], st, M) Q = XX X d 0 (2228, [l0, l1, l2, l3, some (.ref a), l5, l6, l7, l8], .ref a :: st, M) Q := H_ld rfl rfl rfl rfl rfl
theorem x0_2228 : XX X d 0 (2228, L, st, M) Q = XX X d 0 (2229, L, .int (ii 0) :: st, M) Q := G_cst rfl rfl rfl rfl rfl
theorem x0_2229 : XX X d 0 (2229, L, .int x :: .ref a :: st, M) Q = xa (M.2.2 a) (aldT .daload) x (fun v => XX X d 0 (2230, L, v :: st, M) Q) := G_ald rfl ⟨⟨rfl, rfl, rfl, by decide⟩, rfl, rfl⟩ rfl rfl
theorem x0_2230 : XX X d 0 (2230, L, .double w2 :: .double w :: st, M) Q = XX X d 0 (2231, L, .int (Op.cmpValue (FP.dcmp w w2) .l) :: st, M) Q := G_sop rfl ⟨rfl, rfl, rfl, by decide⟩ rfl rfl
theorem x0_2231 (h : -2147483648 ≤ p ∧ p ≤ 2147483647) : XX X d 0 (2231, L, .int (ii p) :: st, M) Q = bq (p = 0) X d 0 2242 2234 L st M Q := H_if rfl ⟨rfl, rfl, rfl, by decide⟩ rfl rfl rfl rfl (D_eq (b := 0) (by omega))
theorem x0_2231b : XX X d 0 (2231, L, .int (ii (b2i b)) :: st, M) Q = bq (b = false) X d 0 2242 2234 L st M Q := (x0_2231 (b2i_r b)).trans (by rw [b2i_0])
theorem x0_2234 : XX X d 0 (2234, [l0, l1, l2, l3, l4, l5, l6, some (.double w), l8], st, M) Q = XX X d 0 (2236, [l0, l1, l2, l3, l4, l5, l6, some (.double w), l8], .double w :: st, M) Q := H_ld rfl rfl rfl rfl rfl
theorem x0_2236 : XX X d 0 (2236, [l0, l1, l2, l3, l4, l5, l6, some (.double w), l8], st, M) Q = XX X d 0 (2238, [l0, l1, l2, l3, l4, l5, l6, some (.double w), l8], .double w :: st, M) Q := H_ld rfl rfl rfl rfl rfl
theorem x0_2238 : XX X d 0 (2238, L, .double w2 :: .double w :: st, M) Q = XX X d 0 (2239, L, .int (Op.cmpValue (FP.dcmp w w2) .l) :: st, M) Q := G_sop rfl ⟨rfl, rfl, rfl, by decide⟩ rfl rfl
theorem x0_2239 (h : -2147483648 ≤ p ∧ p ≤ 2147483647) : XX X d 0 (2239, L, .int (ii p) :: st, M) Q = bq (p ≠ 0) X d 0 2244 2242 L st M Q := H_if rfl ⟨rfl, rfl, rfl, by decide⟩ rfl rfl rfl rfl (D_ne (b := 0) (by omega))
theorem x0_2239b : XX X d 0 (2239, L, .int (ii (b2i b)) :: st, M) Q = bq (b = true) X d 0 2244 2242 L st M Q := (x0_2239 (b2i_r b)).trans (by rw [b2i_n0])
theorem x0_2242 : XX X d 0 (2242, L, st, M) Q = XX X d 0 (2243, L, .int (ii 0) :: st, M) Q := G_cst rfl rfl rfl rfl rfl
theorem x0_2243 (h : bz p) : XX X d 0 (2243, L, [.int (ii p)], M) Q = Q (.inl (some (.int (ii p)))) M := G_ret rfl ⟨⟨⟨rfl, rfl, rfl, by decide⟩, rfl, rfl⟩, rfl, rfl⟩ (bz_ok h)
theorem x0_2244 : XX X d 0 (2244, L, st, M) Q = XX X d 0 (2632, L, st, M) Q := H_jmp rfl (by decide) rfl
theorem x0_2247 : XX X d 0 (2247, [l0, some (.ref a), l2, l3, l4, l5, l6, l7, l8], st, M) Q = XX X d 0 (2248, [l0, some (.ref a), l2, l3, l4, l5, l6, l7, l8], .ref a :: st, M) Q := H_ld rfl rfl rfl rfl rfl
theorem x0_2248 : XX X d 0 (2248, [some (.ref a), l1, l2, l3, l4, l5, l6, l7, l8], st, M) Q = XX X d 0 (2249, [some (.ref a), l1, l2, l3, l4, l5, l6, l7, l8], .ref a :: st, M) Q := H_ld rfl rfl rfl rfl rfl
theorem x0_2249 : XX X d 0 (2249, [l0, l1, l2, l3, l4, some (.int x), l6, l7, l8], st, M) Q = XX X d 0 (2251, [l0, l1, l2, l3, l4, some (.int x), l6, l7, l8], .int x :: st, M) Q := H_ld rfl rfl rfl rfl rfl
theorem x0_2251 : XX X d 0 (2251, L, st, M) Q = XX X d 0 (2252, L, .int (ii 1) :: st, M) Q := G_cst rfl rfl rfl rfl rfl
theorem x0_2252 : XX X d 0 (2252, L, .int (ii q) :: .int (ii p) :: st, M) Q = XX X d 0 (2253, L, .int (ii (p + q)) :: st, M) Q := H_add rfl (by decide) rfl
theorem x0_2253 (h : a = X.1 ∧ ¬ (x < 0 ∨ X.2.1 ≤ x.toNatClampNeg)) : XX X d 0 (2253, L, .int x :: .ref a :: st, M) Q = XX X d 0 (2254, L, .int (X.2.2 x.toNatClampNeg) :: st, M) Q := G_scr rfl rfl rfl rfl rfl (if_pos h)
theorem x0_2254 : XX X d 0 (2254, [l0, l1, l2, l3, some (.ref a), l5, l6, l7, l8], st, M) Q = XX X d 0 (2256, [l0, l1, l2, l3, some (.ref a), l5, l6, l7, l8], .ref a :: st, M) Q := H_ld rfl rfl rfl rfl rfl
theorem x0_2256 {v1 v2 v3 : Value} (hd : 0 < d) (hs : stB st = true) : XX X d 0 (2256, L, v3 :: v2 :: v1 :: st, M) Q = CC X (d - 1) 265 [v1, v2, v3] M (XC X d 0 2256 2259 L st Q) := H_static [v1, v2, v3] rfl (by decide) rfl rfl (by decide) rfl rfl hd hs
theorem x0_2259 (h : wide (some l5) = false) : XX X d 0 (2259, [l0, l1, l2, l3, l4, l5, l6, l7, l8], .int x :: st, M) Q = XX X d 0 (2261, [l0, l1, l2, l3, l4, l5, some (.int x), l7, l8], st, M) Q := H_st rfl rfl rfl rfl rfl rfl rfl rfl (Or.inr h)
theorem x0_2261 : XX X d 0 (2261, [l0, l1, some (.ref a), l3, l4, l5, l6, l7, l8], st, M) Q = XX X d 0 (2262, [l0, l1, some (.ref a), l3, l4, l5, l6, l7, l8], .ref a :: st, M) Q := H_ld rfl rfl rfl rfl rfl
theorem x0_2262 : XX X d 0 (2262, [some (.ref a), l1, l2, l3, l4, l5, l6, l7, l8], st, M) Q = XX X d 0 (2263, [some (.ref a), l1, l2, l3, l4, l5, l6, l7, l8], .ref a :: st, M) Q := H_ld rfl rfl rfl rfl rfl
theorem x0_2263 : XX X d 0 (2263, [l0, l1, l2, l3, l4, some (.int x), l6, l7, l8], st, M) Q = XX X d 0 (2265, [l0, l1, l2, l3, l4, some (.int x), l6, l7, l8], .int x :: st, M) Q := H_ld rfl rfl rfl rfl rfl
theorem x0_2265 : XX X d 0 (2265, L, st, M) Q = XX X d 0 (2266, L, .int (ii 1) :: st, M) Q := G_cst rfl rfl rfl rfl rfl
theorem x0_2266 : XX X d 0 (2266, L, .int (ii q) :: .int (ii p) :: st, M) Q = XX X d 0 (2267, L, .int (ii (p + q)) :: st, M) Q := H_add rfl (by decide) rfl
theorem x0_2267 (h : a = X.1 ∧ ¬ (x < 0 ∨ X.2.1 ≤ x.toNatClampNeg)) : XX X d 0 (2267, L, .int x :: .ref a :: st, M) Q = XX X d 0 (2268, L, .int (X.2.2 x.toNatClampNeg) :: st, M) Q := G_scr rfl rfl rfl rfl rfl (if_pos h)
theorem x0_2268 {v1 : Value} (hd : 0 < d) (hs : stB st = true) : XX X d 0 (2268, L, v1 :: .ref a :: st, M) Q = (mcl M a = some 9 ∧ CC X (d - 1) 221 [.ref a, v1] M (XC X d 0 2268 2271 L st Q)) := H_virt [v1] rfl (by decide) rfl rfl rfl rfl rfl hd hs
theorem x0_2271 (h : wide (some l6) = false) : XX X d 0 (2271, [l0, l1, l2, l3, l4, l5, l6, l7, l8], .float z :: st, M) Q = XX X d 0 (2273, [l0, l1, l2, l3, l4, l5, l6, some (.float z), l8], st, M) Q := H_st rfl rfl rfl rfl rfl rfl rfl rfl (Or.inr h)
theorem x0_2273 : XX X d 0 (2273, [l0, l1, some (.ref a), l3, l4, l5, l6, l7, l8], st, M) Q = XX X d 0 (2274, [l0, l1, some (.ref a), l3, l4, l5, l6, l7, l8], .ref a :: st, M) Q := H_ld rfl rfl rfl rfl rfl
theorem x0_2274 (hd : 0 < d) (hs : stB st = true) : XX X d 0 (2274, L, .ref a :: st, M) Q = (mcl M a = some 9 ∧ CC X (d - 1) 143 [.ref a] M (XC X d 0 2274 2277 L st Q)) := H_virt [] rfl (by decide) rfl rfl rfl rfl rfl hd hs
theorem x0_2277 : XX X d 0 (2277, [l0, l1, l2, l3, l4, l5, some (.int x), l7, l8], st, M) Q = XX X d 0 (2279, [l0, l1, l2, l3, l4, l5, some (.int x), l7, l8], .int x :: st, M) Q := H_ld rfl rfl rfl rfl rfl
theorem x0_2279 (h : -2147483648 ≤ p ∧ p ≤ 2147483647 ∧ -2147483648 ≤ q ∧ q ≤ 2147483647) : XX X d 0 (2279, L, .int (ii q) :: .int (ii p) :: st, M) Q = bq (p = q) X d 0 2284 2282 L st M Q := H_if2 rfl ⟨rfl, rfl, rfl, by decide⟩ rfl rfl rfl rfl (D_eq h)
theorem x0_2282 : XX X d 0 (2282, L, st, M) Q = XX X d 0 (2283, L, .int (ii 0) :: st, M) Q := G_cst rfl rfl rfl rfl rfl
theorem x0_2283 (h : bz p) : XX X d 0 (2283, L, [.int (ii p)], M) Q = Q (.inl (some (.int (ii p)))) M := G_ret rfl ⟨⟨⟨rfl, rfl, rfl, by decide⟩, rfl, rfl⟩, rfl, rfl⟩ (bz_ok h)
theorem x0_2284 : XX X d 0 (2284, [l0, l1, l2, l3, l4, l5, some (.int x), l7, l8], st, M) Q = XX X d 0 (2286, [l0, l1, l2, l3, l4, l5, some (.int x), l7, l8], .int x :: st, M) Q := H_ld rfl rfl rfl rfl rfl
theorem x0_2286 (h : -2147483648 ≤ p ∧ p ≤ 2147483647) : XX X d 0 (2286, L, .int (ii p) :: st, M) Q = bq (p ≠ 0) X d 0 2322 2289 L st M Q := H_if rfl ⟨rfl, rfl, rfl, by decide⟩ rfl rfl rfl rfl (D_ne (b := 0) (by omega))
theorem x0_2286b : XX X d 0 (2286, L, .int (ii (b2i b)) :: st, M) Q = bq (b = true) X d 0 2322 2289 L st M Q := (x0_2286 (b2i_r b)).trans (by rw [b2i_n0])
theorem x0_2289 : XX X d 0 (2289, [l0, l1, l2, l3, some (.ref a), l5, l6, l7, l8], st, M) Q = XX X d 0 (2291, [l0, l1, l2, l3, some (.ref a), l5, l6, l7, l8], .ref a :: st, M) Q := H_ld rfl rfl rfl rfl rfl
theorem x0_2291 : XX X d 0 (2291, L, st, M) Q = XX X d 0 (2292, L, .int (ii 0) :: st, M) Q := G_cst rfl rfl rfl rfl rfl
theorem x0_2292 : XX X d 0 (2292, L, .int x :: .ref a :: st, M) Q = xa (M.2.2 a) (aldT .daload) x (fun v => XX X d 0 (2293, L, v :: st, M) Q) := G_ald rfl ⟨⟨rfl, rfl, rfl, by decide⟩, rfl, rfl⟩ rfl rfl
theorem x0_2293 : XX X d 0 (2293, [l0, l1, l2, l3, l4, l5, l6, some (.float z), l8], st, M) Q = XX X d 0 (2295, [l0, l1, l2, l3, l4, l5, l6, some (.float z), l8], .float z :: st, M) Q := H_ld rfl rfl rfl rfl rfl
theorem x0_2295 (h : nn64 (FP.f2d z) = true) : XX X d 0 (2295, L, .float z :: st, M) Q = XX X d 0 (2296, L, .double (FP.f2d z) :: st, M) Q := G_sop rfl ⟨rfl, rfl, rfl, by decide⟩ (if_pos h) rfl
theorem x0_2296 : XX X d 0 (2296, L, .double w2 :: .double w :: st, M) Q = XX X d 0 (2297, L, .int (Op.cmpValue (FP.dcmp w w2) .l) :: st, M) Q := G_sop rfl ⟨rfl, rfl, rfl, by decide⟩ rfl rfl
theorem x0_2297 (h : -2147483648 ≤ p ∧ p ≤ 2147483647) : XX X d 0 (2297, L, .int (ii p) :: st, M) Q = bq (p = 0) X d 0 2322 2300 L st M Q := H_if rfl ⟨rfl, rfl, rfl, by decide⟩ rfl rfl rfl rfl (D_eq (b := 0) (by omega))
theorem x0_2297b : XX X d 0 (2297, L, .int (ii (b2i b)) :: st, M) Q = bq (b = false) X d 0 2322 2300 L st M Q := (x0_2297 (b2i_r b)).trans (by rw [b2i_0])
theorem x0_2300 : XX X d 0 (2300, [l0, l1, l2, l3, some (.ref a), l5, l6, l7, l8], st, M) Q = XX X d 0 (2302, [l0, l1, l2, l3, some (.ref a), l5, l6, l7, l8], .ref a :: st, M) Q := H_ld rfl rfl rfl rfl rfl
theorem x0_2302 : XX X d 0 (2302, L, st, M) Q = XX X d 0 (2303, L, .int (ii 0) :: st, M) Q := G_cst rfl rfl rfl rfl rfl
theorem x0_2303 : XX X d 0 (2303, L, .int x :: .ref a :: st, M) Q = xa (M.2.2 a) (aldT .daload) x (fun v => XX X d 0 (2304, L, v :: st, M) Q) := G_ald rfl ⟨⟨rfl, rfl, rfl, by decide⟩, rfl, rfl⟩ rfl rfl
theorem x0_2304 : XX X d 0 (2304, [l0, l1, l2, l3, some (.ref a), l5, l6, l7, l8], st, M) Q = XX X d 0 (2306, [l0, l1, l2, l3, some (.ref a), l5, l6, l7, l8], .ref a :: st, M) Q := H_ld rfl rfl rfl rfl rfl
theorem x0_2306 : XX X d 0 (2306, L, st, M) Q = XX X d 0 (2307, L, .int (ii 0) :: st, M) Q := G_cst rfl rfl rfl rfl rfl
theorem x0_2307 : XX X d 0 (2307, L, .int x :: .ref a :: st, M) Q = xa (M.2.2 a) (aldT .daload) x (fun v => XX X d 0 (2308, L, v :: st, M) Q) := G_ald rfl ⟨⟨rfl, rfl, rfl, by decide⟩, rfl, rfl⟩ rfl rfl
theorem x0_2308 : XX X d 0 (2308, L, .double w2 :: .double w :: st, M) Q = XX X d 0 (2309, L, .int (Op.cmpValue (FP.dcmp w w2) .l) :: st, M) Q := G_sop rfl ⟨rfl, rfl, rfl, by decide⟩ rfl rfl
theorem x0_2309 (h : -2147483648 ≤ p ∧ p ≤ 2147483647) : XX X d 0 (2309, L, .int (ii p) :: st, M) Q = bq (p = 0) X d 0 2320 2312 L st M Q := H_if rfl ⟨rfl, rfl, rfl, by decide⟩ rfl rfl rfl rfl (D_eq (b := 0) (by omega))
theorem x0_2309b : XX X d 0 (2309, L, .int (ii (b2i b)) :: st, M) Q = bq (b = false) X d 0 2320 2312 L st M Q := (x0_2309 (b2i_r b)).trans (by rw [b2i_0])
theorem x0_2312 : XX X d 0 (2312, [l0, l1, l2, l3, l4, l5, l6, some (.float z), l8], st, M) Q = XX X d 0 (2314, [l0, l1, l2, l3, l4, l5, l6, some (.float z), l8], .float z :: st, M) Q := H_ld rfl rfl rfl rfl rfl
theorem x0_2314 : XX X d 0 (2314, [l0, l1, l2, l3, l4, l5, l6, some (.float z), l8], st, M) Q = XX X d 0 (2316, [l0, l1, l2, l3, l4, l5, l6, some (.float z), l8], .float z :: st, M) Q := H_ld rfl rfl rfl rfl rfl
theorem x0_2316 : XX X d 0 (2316, L, .float z2 :: .float z :: st, M) Q = XX X d 0 (2317, L, .int (Op.cmpValue (FP.fcmp z z2) .l) :: st, M) Q := G_sop rfl ⟨rfl, rfl, rfl, by decide⟩ rfl rfl
theorem x0_2317 (h : -2147483648 ≤ p ∧ p ≤ 2147483647) : XX X d 0 (2317, L, .int (ii p) :: st, M) Q = bq (p ≠ 0) X d 0 2322 2320 L st M Q := H_if rfl ⟨rfl, rfl, rfl, by decide⟩ rfl rfl rfl rfl (D_ne (b := 0) (by omega))
theorem x0_2317b : XX X d 0 (2317, L, .int (ii (b2i b)) :: st, M) Q = bq (b = true) X d 0 2322 2320 L st M Q := (x0_2317 (b2i_r b)).trans (by rw [b2i_n0])
theorem x0_2320 : XX X d 0 (2320, L, st, M) Q = XX X d 0 (2321, L, .int (ii 0) :: st, M) Q := G_cst rfl rfl rfl rfl rfl
theorem x0_2321 (h : bz p) : XX X d 0 (2321, L, [.int (ii p)], M) Q = Q (.inl (some (.int (ii p)))) M := G_ret rfl ⟨⟨⟨rfl, rfl, rfl, by decide⟩, rfl, rfl⟩, rfl, rfl⟩ (bz_ok h)
theorem x0_2322 : XX X d 0 (2322, L, st, M) Q = XX X d 0 (2632, L, st, M) Q := H_jmp rfl (by decide) rfl
theorem x0_2325 : XX X d 0 (2325, [l0, some (.ref a), l2, l3, l4, l5, l6, l7, l8], st, M) Q = XX X d 0 (2326, [l0, some (.ref a), l2, l3, l4, l5, l6, l7, l8], .ref a :: st, M) Q := H_ld rfl rfl rfl rfl rfl
theorem x0_2326 (hd : 0 < d) (hs : stB st = true) : XX X d 0 (2326, L, .ref a :: st, M) Q = (mcl M a = some 8 ∧ CC X (d - 1) 115 [.ref a] M (XC X d 0 2326 2329 L st Q)) := H_virt [] rfl (by decide) rfl rfl rfl rfl rfl hd hs
theorem x0_2329 : XX X d 0 (2329, [l0, l1, some (.ref a), l3, l4, l5, l6, l7, l8], st, M) Q = XX X d 0 (2330, [l0, l1, some (.ref a), l3, l4, l5, l6, l7, l8], .ref a :: st, M) Q := H_ld rfl rfl rfl rfl rfl
theorem x0_2330 (hd : 0 < d) (hs : stB st = true) : XX X d 0 (2330, L, .ref a :: st, M) Q = (mcl M a = some 9 ∧ CC X (d - 1) 222 [.ref a] M (XC X d 0 2330 2333 L st Q)) := H_virt [] rfl (by decide) rfl rfl rfl rfl rfl hd hs
theorem x0_2333 (h : -2147483648 ≤ p ∧ p ≤ 2147483647 ∧ -2147483648 ≤ q ∧ q ≤ 2147483647) : XX X d 0 (2333, L, .int (ii q) :: .int (ii p) :: st, M) Q = bq (p = q) X d 0 2632 2336 L st M Q := H_if2 rfl ⟨rfl, rfl, rfl, by decide⟩ rfl rfl rfl rfl (D_eq h)
theorem x0_2336 : XX X d 0 (2336, L, st, M) Q = XX X d 0 (2337, L, .int (ii 0) :: st, M) Q := G_cst rfl rfl rfl rfl rfl
theorem x0_2337 (h : bz p) : XX X d 0 (2337, L, [.int (ii p)], M) Q = Q (.inl (some (.int (ii p)))) M := G_ret rfl ⟨⟨⟨rfl, rfl, rfl, by decide⟩, rfl, rfl⟩, rfl, rfl⟩ (bz_ok h)
theorem x0_2338 : XX X d 0 (2338, [l0, some (.ref a), l2, l3, l4, l5, l6, l7, l8], st, M) Q = XX X d 0 (2339, [l0, some (.ref a), l2, l3, l4, l5, l6, l7, l8], .ref a :: st, M) Q := H_ld rfl rfl rfl rfl rfl
theorem x0_2339 : XX X d 0 (2339, [some (.ref a), l1, l2, l3, l4, l5, l6, l7, l8], st, M) Q = XX X d 0 (2340, [some (.ref a), l1, l2, l3, l4, l5, l6, l7, l8], .ref a :: st, M) Q := H_ld rfl rfl rfl rfl rfl
theorem x0_2340 : XX X d 0 (2340, [l0, l1, l2, l3, l4, some (.int x), l6, l7, l8], st, M) Q = XX X d 0 (2342, [l0, l1, l2, l3, l4, some (.int x), l6, l7, l8], .int x :: st, M) Q := H_ld rfl rfl rfl rfl rfl
theorem x0_2342 : XX X d 0 (2342, L, st, M) Q = XX X d 0 (2343, L, .int (ii 1) :: st, M) Q := G_cst rfl rfl rfl rfl rfl
theorem x0_2343 : XX X d 0 (2343, L, .int (ii q) :: .int (ii p) :: st, M) Q = XX X d 0 (2344, L, .int (ii (p + q)) :: st, M) Q := H_add rfl (by decide) rfl
theorem x0_2344 (h : a = X.1 ∧ ¬ (x < 0 ∨ X.2.1 ≤ x.toNatClampNeg)) : XX X d 0 (2344, L, .int x :: .ref a :: st, M) Q = XX X d 0 (2345, L, .int (X.2.2 x.toNatClampNeg) :: st, M) Q := G_scr rfl rfl rfl rfl rfl (if_pos h)
theorem x0_2345 : XX X d 0 (2345, [some (.ref a), l1, l2, l3, l4, l5, l6, l7, l8], st, M) Q = XX X d 0 (2346, [some (.ref a), l1, l2, l3, l4, l5, l6, l7, l8], .ref a :: st, M) Q := H_ld rfl rfl rfl rfl rfl
theorem x0_2346 : XX X d 0 (2346, [l0, l1, l2, l3, l4, some (.int x), l6, l7, l8], st, M) Q = XX X d 0 (2348, [l0, l1, l2, l3, l4, some (.int x), l6, l7, l8], .int x :: st, M) Q := H_ld rfl rfl rfl rfl rfl
theorem x0_2348 : XX X d 0 (2348, L, st, M) Q = XX X d 0 (2349, L, .int (ii 2) :: st, M) Q := G_cst rfl rfl rfl rfl rfl
theorem x0_2349 : XX X d 0 (2349, L, .int (ii q) :: .int (ii p) :: st, M) Q = XX X d 0 (2350, L, .int (ii (p + q)) :: st, M) Q := H_add rfl (by decide) rfl
theorem x0_2350 (h : a = X.1 ∧ ¬ (x < 0 ∨ X.2.1 ≤ x.toNatClampNeg)) : XX X d 0 (2350, L, .int x :: .ref a :: st, M) Q = XX X d 0 (2351, L, .int (X.2.2 x.toNatClampNeg) :: st, M) Q := G_scr rfl rfl rfl rfl rfl (if_pos h)
theorem x0_2351 : XX X d 0 (2351, [l0, l1, l2, some (.ref a), l4, l5, l6, l7, l8], st, M) Q = XX X d 0 (2352, [l0, l1, l2, some (.ref a), l4, l5, l6, l7, l8], .ref a :: st, M) Q := H_ld rfl rfl rfl rfl rfl
theorem x0_2352 {v1 v2 v3 v4 : Value} (hd : 0 < d) (hs : stB st = true) : XX X d 0 (2352, L, v4 :: v3 :: v2 :: v1 :: st, M) Q = CC X (d - 1) 266 [v1, v2, v3, v4] M (XC X d 0 2352 2355 L st Q) := H_static [v1, v2, v3, v4] rfl (by decide) rfl rfl (by decide) rfl rfl hd hs
theorem x0_2355 (h : wide (some l5) = false) : XX X d 0 (2355, [l0, l1, l2, l3, l4, l5, l6, l7, l8], .int x :: st, M) Q = XX X d 0 (2357, [l0, l1, l2, l3, l4, l5, some (.int x), l7, l8], st, M) Q := H_st rfl rfl rfl rfl rfl rfl rfl rfl (Or.inr h)
theorem x0_2357 : XX X d 0 (2357, [l0, l1, some (.ref a), l3, l4, l5, l6, l7, l8], st, M) Q = XX X d 0 (2358, [l0, l1, some (.ref a), l3, l4, l5, l6, l7, l8], .ref a :: st, M) Q := H_ld rfl rfl rfl rfl rfl
theorem x0_2358 : XX X d 0 (2358, [some (.ref a), l1, l2, l3, l4, l5, l6, l7, l8], st, M) Q = XX X d 0 (2359, [some (.ref a), l1, l2, l3, l4, l5, l6, l7, l8], .ref a :: st, M) Q := H_ld rfl rfl rfl rfl rfl
theorem x0_2359 : XX X d 0 (2359, [l0, l1, l2, l3, l4, some (.int x), l6, l7, l8], st, M) Q = XX X d 0 (2361, [l0, l1, l2, l3, l4, some (.int x), l6, l7, l8], .int x :: st, M) Q := H_ld rfl rfl rfl rfl rfl
theorem x0_2361 : XX X d 0 (2361, L, st, M) Q = XX X d 0 (2362, L, .int (ii 1) :: st, M) Q := G_cst rfl rfl rfl rfl rfl
theorem x0_2362 : XX X d 0 (2362, L, .int (ii q) :: .int (ii p) :: st, M) Q = XX X d 0 (2363, L, .int (ii (p + q)) :: st, M) Q := H_add rfl (by decide) rfl
theorem x0_2363 (h : a = X.1 ∧ ¬ (x < 0 ∨ X.2.1 ≤ x.toNatClampNeg)) : XX X d 0 (2363, L, .int x :: .ref a :: st, M) Q = XX X d 0 (2364, L, .int (X.2.2 x.toNatClampNeg) :: st, M) Q := G_scr rfl rfl rfl rfl rfl (if_pos h)
theorem x0_2364 : XX X d 0 (2364, [some (.ref a), l1, l2, l3, l4, l5, l6, l7, l8], st, M) Q = XX X d 0 (2365, [some (.ref a), l1, l2, l3, l4, l5, l6, l7, l8], .ref a :: st, M) Q := H_ld rfl rfl rfl rfl rfl
theorem x0_2365 : XX X d 0 (2365, [l0, l1, l2, l3, l4, some (.int x), l6, l7, l8], st, M) Q = XX X d 0 (2367, [l0, l1, l2, l3, l4, some (.int x), l6, l7, l8], .int x :: st, M) Q := H_ld rfl rfl rfl rfl rfl
theorem x0_2367 : XX X d 0 (2367, L, st, M) Q = XX X d 0 (2368, L, .int (ii 2) :: st, M) Q := G_cst rfl rfl rfl rfl rfl
theorem x0_2368 : XX X d 0 (2368, L, .int (ii q) :: .int (ii p) :: st, M) Q = XX X d 0 (2369, L, .int (ii (p + q)) :: st, M) Q := H_add rfl (by decide) rfl
theorem x0_2369 (h : a = X.1 ∧ ¬ (x < 0 ∨ X.2.1 ≤ x.toNatClampNeg)) : XX X d 0 (2369, L, .int x :: .ref a :: st, M) Q = XX X d 0 (2370, L, .int (X.2.2 x.toNatClampNeg) :: st, M) Q := G_scr rfl rfl rfl rfl rfl (if_pos h)
theorem x0_2370 {v1 v2 : Value} (hd : 0 < d) (hs : stB st = true) : XX X d 0 (2370, L, v2 :: v1 :: .ref a :: st, M) Q = (mcl M a = some 9 ∧ CC X (d - 1) 226 [.ref a, v1, v2] M (XC X d 0 2370 2373 L st Q)) := H_virt [v1, v2] rfl (by decide) rfl rfl rfl rfl rfl hd hs
theorem x0_2373 (h : wide (some l6) = false) : XX X d 0 (2373, [l0, l1, l2, l3, l4, l5, l6, l7, l8], .int x :: st, M) Q = XX X d 0 (2375, [l0, l1, l2, l3, l4, l5, l6, some (.int x), l8], st, M) Q := H_st rfl rfl rfl rfl rfl rfl rfl rfl (Or.inr h)
theorem x0_2375 : XX X d 0 (2375, [l0, l1, some (.ref a), l3, l4, l5, l6, l7, l8], st, M) Q = XX X d 0 (2376, [l0, l1, some (.ref a), l3, l4, l5, l6, l7, l8], .ref a :: st, M) Q := H_ld rfl rfl rfl rfl rfl
theorem x0_2376 (hd : 0 < d) (hs : stB st = true) : XX X d 0 (2376, L, .ref a :: st, M) Q = (mcl M a = some 9 ∧ CC X (d - 1) 143 [.ref a] M (XC X d 0 2376 2379 L st Q)) := H_virt [] rfl (by decide) rfl rfl rfl rfl rfl hd hs
theorem x0_2379 : XX X d 0 (2379, [l0, l1, l2, l3, l4, l5, some (.int x), l7, l8], st, M) Q = XX X d 0 (2381, [l0, l1, l2, l3, l4, l5, some (.int x), l7, l8], .int x :: st, M) Q := H_ld rfl rfl rfl rfl rfl
theorem x0_2381 (h : -2147483648 ≤ p ∧ p ≤ 2147483647 ∧ -2147483648 ≤ q ∧ q ≤ 2147483647) : XX X d 0 (2381, L, .int (ii q) :: .int (ii p) :: st, M) Q = bq (p = q) X d 0 2386 2384 L st M Q := H_if2 rfl ⟨rfl, rfl, rfl, by decide⟩ rfl rfl rfl rfl (D_eq h)
theorem x0_2384 : XX X d 0 (2384, L, st, M) Q = XX X d 0 (2385, L, .int (ii 0) :: st, M) Q := G_cst rfl rfl rfl rfl rfl
theorem x0_2385 (h : bz p) : XX X d 0 (2385, L, [.int (ii p)], M) Q = Q (.inl (some (.int (ii p)))) M := G_ret rfl ⟨⟨⟨rfl, rfl, rfl, by decide⟩, rfl, rfl⟩, rfl, rfl⟩ (bz_ok h)
theorem x0_2386 : XX X d 0 (2386, [l0, l1, l2, l3, l4, l5, some (.int x), l7, l8], st, M) Q = XX X d 0 (2388, [l0, l1, l2, l3, l4, l5, some (.int x), l7, l8], .int x :: st, M) Q := H_ld rfl rfl rfl rfl rfl
theorem x0_2388 (h : -2147483648 ≤ p ∧ p ≤ 2147483647) : XX X d 0 (2388, L, .int (ii p) :: st, M) Q = bq (p ≠ 0) X d 0 2403 2391 L st M Q := H_if rfl ⟨rfl, rfl, rfl, by decide⟩ rfl rfl rfl rfl (D_ne (b := 0) (by omega))
theorem x0_2388b : XX X d 0 (2388, L, .int (ii (b2i b)) :: st, M) Q = bq (b = true) X d 0 2403 2391 L st M Q := (x0_2388 (b2i_r b)).trans (by rw [b2i_n0])
theorem x0_2391 : XX X d 0 (2391, [l0, l1, l2, some (.ref a), l4, l5, l6, l7, l8], st, M) Q = XX X d 0 (2392, [l0, l1, l2, some (.ref a), l4, l5, l6, l7, l8], .ref a :: st, M) Q := H_ld rfl rfl rfl rfl rfl
theorem x0_2392 : XX X d 0 (2392, L, st, M) Q = XX X d 0 (2393, L, .int (ii 0) :: st, M) Q := G_cst rfl rfl rfl rfl rfl
theorem x0_2393 : XX X d 0 (2393, L, .int x :: .ref a :: st, M) Q = xa (M.2.2 a) (aldT .laload) x (fun v => XX X d 0 (2394, L, v :: st, M) Q) := G_ald rfl ⟨⟨rfl, rfl, rfl, by decide⟩, rfl, rfl⟩ rfl rfl
theorem x0_2394 : XX X d 0 (2394, [l0, l1, l2, l3, l4, l5, l6, some (.int x), l8], st, M) Q = XX X d 0 (2396, [l0, l1, l2, l3, l4, l5, l6, some (.int x), l8], .int x :: st, M) Q := H_ld rfl rfl rfl rfl rfl
theorem x0_2396 : XX X d 0 (2396, L, .int x :: st, M) Q = XX X d 0 (2397, L, .long x.toInt64 :: st, M) Q := G_sop rfl ⟨rfl, rfl, rfl, by decide⟩ rfl rfl
theorem x0_2397 : XX X d 0 (2397, L, .long y2 :: .long y :: st, M) Q = XX X d 0 (2398, L, .int (lg_cmp y y2) :: st, M) Q := G_sop rfl ⟨rfl, rfl, rfl, by decide⟩ rfl rfl
theorem x0_2398 (h : -2147483648 ≤ p ∧ p ≤ 2147483647) : XX X d 0 (2398, L, .int (ii p) :: st, M) Q = bq (p = 0) X d 0 2403 2401 L st M Q := H_if rfl ⟨rfl, rfl, rfl, by decide⟩ rfl rfl rfl rfl (D_eq (b := 0) (by omega))
theorem x0_2398b : XX X d 0 (2398, L, .int (ii (b2i b)) :: st, M) Q = bq (b = false) X d 0 2403 2401 L st M Q := (x0_2398 (b2i_r b)).trans (by rw [b2i_0])
theorem x0_2401 : XX X d 0 (2401, L, st, M) Q = XX X d 0 (2402, L, .int (ii 0) :: st, M) Q := G_cst rfl rfl rfl rfl rfl
theorem x0_2402 (h : bz p) : XX X d 0 (2402, L, [.int (ii p)], M) Q = Q (.inl (some (.int (ii p)))) M := G_ret rfl ⟨⟨⟨rfl, rfl, rfl, by decide⟩, rfl, rfl⟩, rfl, rfl⟩ (bz_ok h)
theorem x0_2403 : XX X d 0 (2403, L, st, M) Q = XX X d 0 (2632, L, st, M) Q := H_jmp rfl (by decide) rfl
theorem x0_2406 : XX X d 0 (2406, [l0, some (.ref a), l2, l3, l4, l5, l6, l7, l8], st, M) Q = XX X d 0 (2407, [l0, some (.ref a), l2, l3, l4, l5, l6, l7, l8], .ref a :: st, M) Q := H_ld rfl rfl rfl rfl rfl
theorem x0_2407 : XX X d 0 (2407, [some (.ref a), l1, l2, l3, l4, l5, l6, l7, l8], st, M) Q = XX X d 0 (2408, [some (.ref a), l1, l2, l3, l4, l5, l6, l7, l8], .ref a :: st, M) Q := H_ld rfl rfl rfl rfl rfl
theorem x0_2408 : XX X d 0 (2408, [l0, l1, l2, l3, l4, some (.int x), l6, l7, l8], st, M) Q = XX X d 0 (2410, [l0, l1, l2, l3, l4, some (.int x), l6, l7, l8], .int x :: st, M) Q := H_ld rfl rfl rfl rfl rfl
theorem x0_2410 : XX X d 0 (2410, L, st, M) Q = XX X d 0 (2411, L, .int (ii 1) :: st, M) Q := G_cst rfl rfl rfl rfl rfl
theorem x0_2411 : XX X d 0 (2411, L, .int (ii q) :: .int (ii p) :: st, M) Q = XX X d 0 (2412, L, .int (ii (p + q)) :: st, M) Q := H_add rfl (by decide) rfl
theorem x0_2412 (h : a = X.1 ∧ ¬ (x < 0 ∨ X.2.1 ≤ x.toNatClampNeg)) : XX X d 0 (2412, L, .int x :: .ref a :: st, M) Q = XX X d 0 (2413, L, .int (X.2.2 x.toNatClampNeg) :: st, M) Q := G_scr rfl rfl rfl rfl rfl (if_pos h)
theorem x0_2413 : XX X d 0 (2413, [l0, l1, l2, some (.ref a), l4, l5, l6, l7, l8], st, M) Q = XX X d 0 (2414, [l0, l1, l2, some (.ref a), l4, l5, l6, l7, l8], .ref a :: st, M) Q := H_ld rfl rfl rfl rfl rfl
theorem x0_2414 {v1 v2 v3 : Value} (hd : 0 < d) (hs : stB st = true) : XX X d 0 (2414, L, v3 :: v2 :: v1 :: st, M) Q = CC X (d - 1) 267 [v1, v2, v3] M (XC X d 0 2414 2417 L st Q) := H_static [v1, v2, v3] rfl (by decide) rfl rfl (by decide) rfl rfl hd hs
theorem x0_2417 (h : wide (some l5) = false) : XX X d 0 (2417, [l0, l1, l2, l3, l4, l5, l6, l7, l8], .int x :: st, M) Q = XX X d 0 (2419, [l0, l1, l2, l3, l4, l5, some (.int x), l7, l8], st, M) Q := H_st rfl rfl rfl rfl rfl rfl rfl rfl (Or.inr h)
theorem x0_2419 : XX X d 0 (2419, [l0, l1, some (.ref a), l3, l4, l5, l6, l7, l8], st, M) Q = XX X d 0 (2420, [l0, l1, some (.ref a), l3, l4, l5, l6, l7, l8], .ref a :: st, M) Q := H_ld rfl rfl rfl rfl rfl
theorem x0_2420 : XX X d 0 (2420, [some (.ref a), l1, l2, l3, l4, l5, l6, l7, l8], st, M) Q = XX X d 0 (2421, [some (.ref a), l1, l2, l3, l4, l5, l6, l7, l8], .ref a :: st, M) Q := H_ld rfl rfl rfl rfl rfl
theorem x0_2421 : XX X d 0 (2421, [l0, l1, l2, l3, l4, some (.int x), l6, l7, l8], st, M) Q = XX X d 0 (2423, [l0, l1, l2, l3, l4, some (.int x), l6, l7, l8], .int x :: st, M) Q := H_ld rfl rfl rfl rfl rfl
theorem x0_2423 : XX X d 0 (2423, L, st, M) Q = XX X d 0 (2424, L, .int (ii 1) :: st, M) Q := G_cst rfl rfl rfl rfl rfl
theorem x0_2424 : XX X d 0 (2424, L, .int (ii q) :: .int (ii p) :: st, M) Q = XX X d 0 (2425, L, .int (ii (p + q)) :: st, M) Q := H_add rfl (by decide) rfl
theorem x0_2425 (h : a = X.1 ∧ ¬ (x < 0 ∨ X.2.1 ≤ x.toNatClampNeg)) : XX X d 0 (2425, L, .int x :: .ref a :: st, M) Q = XX X d 0 (2426, L, .int (X.2.2 x.toNatClampNeg) :: st, M) Q := G_scr rfl rfl rfl rfl rfl (if_pos h)
theorem x0_2426 {v1 : Value} (hd : 0 < d) (hs : stB st = true) : XX X d 0 (2426, L, v1 :: .ref a :: st, M) Q = (mcl M a = some 9 ∧ CC X (d - 1) 227 [.ref a, v1] M (XC X d 0 2426 2429 L st Q)) := H_virt [v1] rfl (by decide) rfl rfl rfl rfl rfl hd hs
theorem x0_2429 (h : wide (some l6) = false) : XX X d 0 (2429, [l0, l1, l2, l3, l4, l5, l6, l7, l8], .int x :: st, M) Q = XX X d 0 (2431, [l0, l1, l2, l3, l4, l5, l6, some (.int x), l8], st, M) Q := H_st rfl rfl rfl rfl rfl rfl rfl rfl (Or.inr h)
theorem x0_2431 : XX X d 0 (2431, [l0, l1, some (.ref a), l3, l4, l5, l6, l7, l8], st, M) Q = XX X d 0 (2432, [l0, l1, some (.ref a), l3, l4, l5, l6, l7, l8], .ref a :: st, M) Q := H_ld rfl rfl rfl rfl rfl
theorem x0_2432 (hd : 0 < d) (hs : stB st = true) : XX X d 0 (2432, L, .ref a :: st, M) Q = (mcl M a = some 9 ∧ CC X (d - 1) 143 [.ref a] M (XC X d 0 2432 2435 L st Q)) := H_virt [] rfl (by decide) rfl rfl rfl rfl rfl hd hs
theorem x0_2435 : XX X d 0 (2435, [l0, l1, l2, l3, l4, l5, some (.int x), l7, l8], st, M) Q = XX X d 0 (2437, [l0, l1, l2, l3, l4, l5, some (.int x), l7, l8], .int x :: st, M) Q := H_ld rfl rfl rfl rfl rfl
theorem x0_2437 (h : -2147483648 ≤ p ∧ p ≤ 2147483647 ∧ -2147483648 ≤ q ∧ q ≤ 2147483647) : XX X d 0 (2437, L, .int (ii q) :: .int (ii p) :: st, M) Q = bq (p = q) X d 0 2442 2440 L st M Q := H_if2 rfl ⟨rfl, rfl, rfl, by decide⟩ rfl rfl rfl rfl (D_eq h)
theorem x0_2440 : XX X d 0 (2440, L, st, M) Q = XX X d 0 (2441, L, .int (ii 0) :: st, M) Q := G_cst rfl rfl rfl rfl rfl
theorem x0_2441 (h : bz p) : XX X d 0 (2441, L, [.int (ii p)], M) Q = Q (.inl (some (.int (ii p)))) M := G_ret rfl ⟨⟨⟨rfl, rfl, rfl, by decide⟩, rfl, rfl⟩, rfl, rfl⟩ (bz_ok h)
theorem x0_2442 : XX X d 0 (2442, [l0, l1, l2, l3, l4, l5, some (.int x), l7, l8], st, M) Q = XX X d 0 (2444, [l0, l1, l2, l3, l4, l5, some (.int x), l7, l8], .int x :: st, M) Q := H_ld rfl rfl rfl rfl rfl
theorem x0_2444 (h : -2147483648 ≤ p ∧ p ≤ 2147483647) : XX X d 0 (2444, L, .int (ii p) :: st, M) Q = bq (p ≠ 0) X d 0 2459 2447 L st M Q := H_if rfl ⟨rfl, rfl, rfl, by decide⟩ rfl rfl rfl rfl (D_ne (b := 0) (by omega))
theorem x0_2444b : XX X d 0 (2444, L, .int (ii (b2i b)) :: st, M) Q = bq (b = true) X d 0 2459 2447 L st M Q := (x0_2444 (b2i_r b)).trans (by rw [b2i_n0])
theorem x0_2447 : XX X d 0 (2447, [l0, l1, l2, some (.ref a), l4, l5, l6, l7, l8], st, M) Q = XX X d 0 (2448, [l0, l1, l2, some (.ref a), l4, l5, l6, l7, l8], .ref a :: st, M) Q := H_ld rfl rfl rfl rfl rfl
theorem x0_2448 : XX X d 0 (2448, L, st, M) Q = XX X d 0 (2449, L, .int (ii 0) :: st, M) Q := G_cst rfl rfl rfl rfl rfl
theorem x0_2449 : XX X d 0 (2449, L, .int x :: .ref a :: st, M) Q = xa (M.2.2 a) (aldT .laload) x (fun v => XX X d 0 (2450, L, v :: st, M) Q) := G_ald rfl ⟨⟨rfl, rfl, rfl, by decide⟩, rfl, rfl⟩ rfl rfl
theorem x0_2450 : XX X d 0 (2450, [l0, l1, l2, l3, l4, l5, l6, some (.int x), l8], st, M) Q = XX X d 0 (2452, [l0, l1, l2, l3, l4, l5, l6, some (.int x), l8], .int x :: st, M) Q := H_ld rfl rfl rfl rfl rfl
theorem x0_2452 : XX X d 0 (2452, L, .int x :: st, M) Q = XX X d 0 (2453, L, .long x.toInt64 :: st, M) Q := G_sop rfl ⟨rfl, rfl, rfl, by decide⟩ rfl rfl
theorem x0_2453 : XX X d 0 (2453, L, .long y2 :: .long y :: st, M) Q = XX X d 0 (2454, L, .int (lg_cmp y y2) :: st, M) Q := G_sop rfl ⟨rfl, rfl, rfl, by decide⟩ rfl rfl
theorem x0_2454 (h : -2147483648 ≤ p ∧ p ≤ 2147483647) : XX X d 0 (2454, L, .int (ii p) :: st, M) Q = bq (p = 0) X d 0 2459 2457 L st M Q := H_if rfl ⟨rfl, rfl, rfl, by decide⟩ rfl rfl rfl rfl (D_eq (b := 0) (by omega))
theorem x0_2454b : XX X d 0 (2454, L, .int (ii (b2i b)) :: st, M) Q = bq (b = false) X d 0 2459 2457 L st M Q := (x0_2454 (b2i_r b)).trans (by rw [b2i_0])
theorem x0_2457 : XX X d 0 (2457, L, st, M) Q = XX X d 0 (2458, L, .int (ii 0) :: st, M) Q := G_cst rfl rfl rfl rfl rfl
theorem x0_2458 (h : bz p) : XX X d 0 (2458, L, [.int (ii p)], M) Q = Q (.inl (some (.int (ii p)))) M := G_ret rfl ⟨⟨⟨rfl, rfl, rfl, by decide⟩, rfl, rfl⟩, rfl, rfl⟩ (bz_ok h)
theorem x0_2459 : XX X d 0 (2459, L, st, M) Q = XX X d 0 (2632, L, st, M) Q := H_jmp rfl (by decide) rfl
theorem x0_2462 : XX X d 0 (2462, [l0, some (.ref a), l2, l3, l4, l5, l6, l7, l8], st, M) Q = XX X d 0 (2463, [l0, some (.ref a), l2, l3, l4, l5, l6, l7, l8], .ref a :: st, M) Q := H_ld rfl rfl rfl rfl rfl
theorem x0_2463 : XX X d 0 (2463, [some (.ref a), l1, l2, l3, l4, l5, l6, l7, l8], st, M) Q = XX X d 0 (2464, [some (.ref a), l1, l2, l3, l4, l5, l6, l7, l8], .ref a :: st, M) Q := H_ld rfl rfl rfl rfl rfl
theorem x0_2464 : XX X d 0 (2464, [l0, l1, l2, l3, l4, some (.int x), l6, l7, l8], st, M) Q = XX X d 0 (2466, [l0, l1, l2, l3, l4, some (.int x), l6, l7, l8], .int x :: st, M) Q := H_ld rfl rfl rfl rfl rfl
theorem x0_2466 : XX X d 0 (2466, L, st, M) Q = XX X d 0 (2467, L, .int (ii 1) :: st, M) Q := G_cst rfl rfl rfl rfl rfl
theorem x0_2467 : XX X d 0 (2467, L, .int (ii q) :: .int (ii p) :: st, M) Q = XX X d 0 (2468, L, .int (ii (p + q)) :: st, M) Q := H_add rfl (by decide) rfl
theorem x0_2468 (h : a = X.1 ∧ ¬ (x < 0 ∨ X.2.1 ≤ x.toNatClampNeg)) : XX X d 0 (2468, L, .int x :: .ref a :: st, M) Q = XX X d 0 (2469, L, .int (X.2.2 x.toNatClampNeg) :: st, M) Q := G_scr rfl rfl rfl rfl rfl (if_pos h)
theorem x0_2469 : XX X d 0 (2469, [l0, l1, l2, some (.ref a), l4, l5, l6, l7, l8], st, M) Q = XX X d 0 (2470, [l0, l1, l2, some (.ref a), l4, l5, l6, l7, l8], .ref a :: st, M) Q := H_ld rfl rfl rfl rfl rfl
theorem x0_2470 {v1 v2 v3 : Value} (hd : 0 < d) (hs : stB st = true) : XX X d 0 (2470, L, v3 :: v2 :: v1 :: st, M) Q = CC X (d - 1) 268 [v1, v2, v3] M (XC X d 0 2470 2473 L st Q) := H_static [v1, v2, v3] rfl (by decide) rfl rfl (by decide) rfl rfl hd hs
theorem x0_2473 (h : wide (some l5) = false) : XX X d 0 (2473, [l0, l1, l2, l3, l4, l5, l6, l7, l8], .int x :: st, M) Q = XX X d 0 (2475, [l0, l1, l2, l3, l4, l5, some (.int x), l7, l8], st, M) Q := H_st rfl rfl rfl rfl rfl rfl rfl rfl (Or.inr h)
theorem x0_2475 : XX X d 0 (2475, [l0, l1, some (.ref a), l3, l4, l5, l6, l7, l8], st, M) Q = XX X d 0 (2476, [l0, l1, some (.ref a), l3, l4, l5, l6, l7, l8], .ref a :: st, M) Q := H_ld rfl rfl rfl rfl rfl
theorem x0_2476 : XX X d 0 (2476, [some (.ref a), l1, l2, l3, l4, l5, l6, l7, l8], st, M) Q = XX X d 0 (2477, [some (.ref a), l1, l2, l3, l4, l5, l6, l7, l8], .ref a :: st, M) Q := H_ld rfl rfl rfl rfl rfl
theorem x0_2477 : XX X d 0 (2477, [l0, l1, l2, l3, l4, some (.int x), l6, l7, l8], st, M) Q = XX X d 0 (2479, [l0, l1, l2, l3, l4, some (.int x), l6, l7, l8], .int x :: st, M) Q := H_ld rfl rfl rfl rfl rfl
theorem x0_2479 : XX X d 0 (2479, L, st, M) Q = XX X d 0 (2480, L, .int (ii 1) :: st, M) Q := G_cst rfl rfl rfl rfl rfl
theorem x0_2480 : XX X d 0 (2480, L, .int (ii q) :: .int (ii p) :: st, M) Q = XX X d 0 (2481, L, .int (ii (p + q)) :: st, M) Q := H_add rfl (by decide) rfl
theorem x0_2481 (h : a = X.1 ∧ ¬ (x < 0 ∨ X.2.1 ≤ x.toNatClampNeg)) : XX X d 0 (2481, L, .int x :: .ref a :: st, M) Q = XX X d 0 (2482, L, .int (X.2.2 x.toNatClampNeg) :: st, M) Q := G_scr rfl rfl rfl rfl rfl (if_pos h)
theorem x0_2482 {v1 : Value} (hd : 0 < d) (hs : stB st = true) : XX X d 0 (2482, L, v1 :: .ref a :: st, M) Q = (mcl M a = some 9 ∧ CC X (d - 1) 228 [.ref a, v1] M (XC X d 0 2482 2485 L st Q)) := H_virt [v1] rfl (by decide) rfl rfl rfl rfl rfl hd hs
theorem x0_2485 (h : wide (some l6) = false) : XX X d 0 (2485, [l0, l1, l2, l3, l4, l5, l6, l7, l8], .int x :: st, M) Q = XX X d 0 (2487, [l0, l1, l2, l3, l4, l5, l6, some (.int x), l8], st, M) Q := H_st rfl rfl rfl rfl rfl rfl rfl rfl (Or.inr h)
theorem x0_2487 : XX X d 0 (2487, [l0, l1, some (.ref a), l3, l4, l5, l6, l7, l8], st, M) Q = XX X d 0 (2488, [l0, l1, some (.ref a), l3, l4, l5, l6, l7, l8], .ref a :: st, M) Q := H_ld rfl rfl rfl rfl rfl
theorem x0_2488 (hd : 0 < d) (hs : stB st = true) : XX X d 0 (2488, L, .ref a :: st, M) Q = (mcl M a = some 9 ∧ CC X (d - 1) 143 [.ref a] M (XC X d 0 2488 2491 L st Q)) := H_virt [] rfl (by decide) rfl rfl rfl rfl rfl hd hs
theorem x0_2491 : XX X d 0 (2491, [l0, l1, l2, l3, l4, l5, some (.int x), l7, l8], st, M) Q = XX X d 0 (2493, [l0, l1, l2, l3, l4, l5, some (.int x), l7, l8], .int x :: st, M) Q := H_ld rfl rfl rfl rfl rfl
theorem x0_2493 (h : -2147483648 ≤ p ∧ p ≤ 2147483647 ∧ -2147483648 ≤ q ∧ q ≤ 2147483647) : XX X d 0 (2493, L, .int (ii q) :: .int (ii p) :: st, M) Q = bq (p = q) X d 0 2498 2496 L st M Q := H_if2 rfl ⟨rfl, rfl, rfl, by decide⟩ rfl rfl rfl rfl (D_eq h)
theorem x0_2496 : XX X d 0 (2496, L, st, M) Q = XX X d 0 (2497, L, .int (ii 0) :: st, M) Q := G_cst rfl rfl rfl rfl rfl
theorem x0_2497 (h : bz p) : XX X d 0 (2497, L, [.int (ii p)], M) Q = Q (.inl (some (.int (ii p)))) M := G_ret rfl ⟨⟨⟨rfl, rfl, rfl, by decide⟩, rfl, rfl⟩, rfl, rfl⟩ (bz_ok h)
theorem x0_2498 : XX X d 0 (2498, [l0, l1, l2, l3, l4, l5, some (.int x), l7, l8], st, M) Q = XX X d 0 (2500, [l0, l1, l2, l3, l4, l5, some (.int x), l7, l8], .int x :: st, M) Q := H_ld rfl rfl rfl rfl rfl
theorem x0_2500 (h : -2147483648 ≤ p ∧ p ≤ 2147483647) : XX X d 0 (2500, L, .int (ii p) :: st, M) Q = bq (p ≠ 0) X d 0 2515 2503 L st M Q := H_if rfl ⟨rfl, rfl, rfl, by decide⟩ rfl rfl rfl rfl (D_ne (b := 0) (by omega))
theorem x0_2500b : XX X d 0 (2500, L, .int (ii (b2i b)) :: st, M) Q = bq (b = true) X d 0 2515 2503 L st M Q := (x0_2500 (b2i_r b)).trans (by rw [b2i_n0])
theorem x0_2503 : XX X d 0 (2503, [l0, l1, l2, some (.ref a), l4, l5, l6, l7, l8], st, M) Q = XX X d 0 (2504, [l0, l1, l2, some (.ref a), l4, l5, l6, l7, l8], .ref a :: st, M) Q := H_ld rfl rfl rfl rfl rfl
theorem x0_2504 : XX X d 0 (2504, L, st, M) Q = XX X d 0 (2505, L, .int (ii 0) :: st, M) Q := G_cst rfl rfl rfl rfl rfl
theorem x0_2505 : XX X d 0 (2505, L, .int x :: .ref a :: st, M) Q = xa (M.2.2 a) (aldT .laload) x (fun v => XX X d 0 (2506, L, v :: st, M) Q) := G_ald rfl ⟨⟨rfl, rfl, rfl, by decide⟩, rfl, rfl⟩ rfl rfl
theorem x0_2506 : XX X d 0 (2506, [l0, l1, l2, l3, l4, l5, l6, some (.int x), l8], st, M) Q = XX X d 0 (2508, [l0, l1, l2, l3, l4, l5, l6, some (.int x), l8], .int x :: st, M) Q := H_ld rfl rfl rfl rfl rfl
theorem x0_2508 : XX X d 0 (2508, L, .int x :: st, M) Q = XX X d 0 (2509, L, .long x.toInt64 :: st, M) Q := G_sop rfl ⟨rfl, rfl, rfl, by decide⟩ rfl rfl
theorem x0_2509 : XX X d 0 (2509, L, .long y2 :: .long y :: st, M) Q = XX X d 0 (2510, L, .int (lg_cmp y y2) :: st, M) Q := G_sop rfl ⟨rfl, rfl, rfl, by decide⟩ rfl rfl
theorem x0_2510 (h : -2147483648 ≤ p ∧ p ≤ 2147483647) : XX X d 0 (2510, L, .int (ii p) :: st, M) Q = bq (p = 0) X d 0 2515 2513 L st M Q := H_if rfl ⟨rfl, rfl, rfl, by decide⟩ rfl rfl rfl rfl (D_eq (b := 0) (by omega))
theorem x0_2510b : XX X d 0 (2510, L, .int (ii (b2i b)) :: st, M) Q = bq (b = false) X d 0 2515 2513 L st M Q := (x0_2510 (b2i_r b)).trans (by rw [b2i_0])
theorem x0_2513 : XX X d 0 (2513, L, st, M) Q = XX X d 0 (2514, L, .int (ii 0) :: st, M) Q := G_cst rfl rfl rfl rfl rfl
theorem x0_2514 (h : bz p) : XX X d 0 (2514, L, [.int (ii p)], M) Q = Q (.inl (some (.int (ii p)))) M := G_ret rfl ⟨⟨⟨rfl, rfl, rfl, by decide⟩, rfl, rfl⟩, rfl, rfl⟩ (bz_ok h)
theorem x0_2515 : XX X d 0 (2515, L, st, M) Q = XX X d 0 (2632, L, st, M) Q := H_jmp rfl (by decide) rfl
theorem x0_2518 : XX X d 0 (2518, [l0, some (.ref a), l2, l3, l4, l5, l6, l7, l8], st, M) Q = XX X d 0 (2519, [l0, some (.ref a), l2, l3, l4, l5, l6, l7, l8], .ref a :: st, M) Q := H_ld rfl rfl rfl rfl rfl
theorem x0_2519 : XX X d 0 (2519, [l0, l1, l2, some (.ref a), l4, l5, l6, l7, l8], st, M) Q = XX X d 0 (2520, [l0, l1, l2, some (.ref a), l4, l5, l6, l7, l8], .ref a :: st, M) Q := H_ld rfl rfl rfl rfl rfl
theorem x0_2520 {v1 v2 : Value} (hd : 0 < d) (hs : stB st = true) : XX X d 0 (2520, L, v2 :: v1 :: st, M) Q = CC X (d - 1) 269 [v1, v2] M (XC X d 0 2520 2523 L st Q) := H_static [v1, v2] rfl (by decide) rfl rfl (by decide) rfl rfl hd hs
theorem x0_2523 (h : wide (some l5) = false) : XX X d 0 (2523, [l0, l1, l2, l3, l4, l5, l6, l7, l8], .int x :: st, M) Q = XX X d 0 (2525, [l0, l1, l2, l3, l4, l5, some (.int x), l7, l8], st, M) Q := H_st rfl rfl rfl rfl rfl rfl rfl rfl (Or.inr h)
theorem x0_2525 : XX X d 0 (2525, [l0, l1, some (.ref a), l3, l4, l5, l6, l7, l8], st, M) Q = XX X d 0 (2526, [l0, l1, some (.ref a), l3, l4, l5, l6, l7, l8], .ref a :: st, M) Q := H_ld rfl rfl rfl rfl rfl
theorem x0_2526 (hd : 0 < d) (hs : stB st = true) : XX X d 0 (2526, L, .ref a :: st, M) Q = (mcl M a = some 9 ∧ CC X (d - 1) 229 [.ref a] M (XC X d 0 2526 2529 L st Q)) := H_virt [] rfl (by decide) rfl rfl rfl rfl rfl hd hs
theorem x0_2529 (h : wide (some l6) = false) : XX X d 0 (2529, [l0, l1, l2, l3, l4, l5, l6, l7, l8], .int x :: st, M) Q = XX X d 0 (2531, [l0, l1, l2, l3, l4, l5, l6, some (.int x), l8], st, M) Q := H_st rfl rfl rfl rfl rfl rfl rfl rfl (Or.inr h)
theorem x0_2531 : XX X d 0 (2531, [l0, l1, some (.ref a), l3, l4, l5, l6, l7, l8], st, M) Q = XX X d 0 (2532, [l0, l1, some (.ref a), l3, l4, l5, l6, l7, l8], .ref a :: st, M) Q := H_ld rfl rfl rfl rfl rfl
theorem x0_2532 (hd : 0 < d) (hs : stB st = true) : XX X d 0 (2532, L, .ref a :: st, M) Q = (mcl M a = some 9 ∧ CC X (d - 1) 143 [.ref a] M (XC X d 0 2532 2535 L st Q)) := H_virt [] rfl (by decide) rfl rfl rfl rfl rfl hd hs
theorem x0_2535 : XX X d 0 (2535, [l0, l1, l2, l3, l4, l5, some (.int x), l7, l8], st, M) Q = XX X d 0 (2537, [l0, l1, l2, l3, l4, l5, some (.int x), l7, l8], .int x :: st, M) Q := H_ld rfl rfl rfl rfl rfl
theorem x0_2537 (h : -2147483648 ≤ p ∧ p ≤ 2147483647 ∧ -2147483648 ≤ q ∧ q ≤ 2147483647) : XX X d 0 (2537, L, .int (ii q) :: .int (ii p) :: st, M) Q = bq (p = q) X d 0 2542 2540 L st M Q := H_if2 rfl ⟨rfl, rfl, rfl, by decide⟩ rfl rfl rfl rfl (D_eq h)
theorem x0_2540 : XX X d 0 (2540, L, st, M) Q = XX X d 0 (2541, L, .int (ii 0) :: st, M) Q := G_cst rfl rfl rfl rfl rfl
theorem x0_2541 (h : bz p) : XX X d 0 (2541, L, [.int (ii p)], M) Q = Q (.inl (some (.int (ii p)))) M := G_ret rfl ⟨⟨⟨rfl, rfl, rfl, by decide⟩, rfl, rfl⟩, rfl, rfl⟩ (bz_ok h)
theorem x0_2542 : XX X d 0 (2542, [l0, l1, l2, l3, l4, l5, some (.int x), l7, l8], st, M) Q = XX X d 0 (2544, [l0, l1, l2, l3, l4, l5, some (.int x), l7, l8], .int x :: st, M) Q := H_ld rfl rfl rfl rfl rfl
theorem x0_2544 (h : -2147483648 ≤ p ∧ p ≤ 2147483647) : XX X d 0 (2544, L, .int (ii p) :: st, M) Q = bq (p ≠ 0) X d 0 2559 2547 L st M Q := H_if rfl ⟨rfl, rfl, rfl, by decide⟩ rfl rfl rfl rfl (D_ne (b := 0) (by omega))
theorem x0_2544b : XX X d 0 (2544, L, .int (ii (b2i b)) :: st, M) Q = bq (b = true) X d 0 2559 2547 L st M Q := (x0_2544 (b2i_r b)).trans (by rw [b2i_n0])
theorem x0_2547 : XX X d 0 (2547, [l0, l1, l2, some (.ref a), l4, l5, l6, l7, l8], st, M) Q = XX X d 0 (2548, [l0, l1, l2, some (.ref a), l4, l5, l6, l7, l8], .ref a :: st, M) Q := H_ld rfl rfl rfl rfl rfl
theorem x0_2548 : XX X d 0 (2548, L, st, M) Q = XX X d 0 (2549, L, .int (ii 0) :: st, M) Q := G_cst rfl rfl rfl rfl rfl
theorem x0_2549 : XX X d 0 (2549, L, .int x :: .ref a :: st, M) Q = xa (M.2.2 a) (aldT .laload) x (fun v => XX X d 0 (2550, L, v :: st, M) Q) := G_ald rfl ⟨⟨rfl, rfl, rfl, by decide⟩, rfl, rfl⟩ rfl rfl
theorem x0_2550 : XX X d 0 (2550, [l0, l1, l2, l3, l4, l5, l6, some (.int x), l8], st, M) Q = XX X d 0 (2552, [l0, l1, l2, l3, l4, l5, l6, some (.int x), l8], .int x :: st, M) Q := H_ld rfl rfl rfl rfl rfl
theorem x0_2552 : XX X d 0 (2552, L, .int x :: st, M) Q = XX X d 0 (2553, L, .long x.toInt64 :: st, M) Q := G_sop rfl ⟨rfl, rfl, rfl, by decide⟩ rfl rfl
theorem x0_2553 : XX X d 0 (2553, L, .long y2 :: .long y :: st, M) Q = XX X d 0 (2554, L, .int (lg_cmp y y2) :: st, M) Q := G_sop rfl ⟨rfl, rfl, rfl, by decide⟩ rfl rfl
theorem x0_2554 (h : -2147483648 ≤ p ∧ p ≤ 2147483647) : XX X d 0 (2554, L, .int (ii p) :: st, M) Q = bq (p = 0) X d 0 2559 2557 L st M Q := H_if rfl ⟨rfl, rfl, rfl, by decide⟩ rfl rfl rfl rfl (D_eq (b := 0) (by omega))
theorem x0_2554b : XX X d 0 (2554, L, .int (ii (b2i b)) :: st, M) Q = bq (b = false) X d 0 2559 2557 L st M Q := (x0_2554 (b2i_r b)).trans (by rw [b2i_0])
theorem x0_2557 : XX X d 0 (2557, L, st, M) Q = XX X d 0 (2558, L, .int (ii 0) :: st, M) Q := G_cst rfl rfl rfl rfl rfl
theorem x0_2558 (h : bz p) : XX X d 0 (2558, L, [.int (ii p)], M) Q = Q (.inl (some (.int (ii p)))) M := G_ret rfl ⟨⟨⟨rfl, rfl, rfl, by decide⟩, rfl, rfl⟩, rfl, rfl⟩ (bz_ok h)
theorem x0_2559 : XX X d 0 (2559, L, st, M) Q = XX X d 0 (2632, L, st, M) Q := H_jmp rfl (by decide) rfl
theorem x0_2562 : XX X d 0 (2562, [l0, some (.ref a), l2, l3, l4, l5, l6, l7, l8], st, M) Q = XX X d 0 (2563, [l0, some (.ref a), l2, l3, l4, l5, l6, l7, l8], .ref a :: st, M) Q := H_ld rfl rfl rfl rfl rfl
theorem x0_2563 (hd : 0 < d) (hs : stB st = true) : XX X d 0 (2563, L, .ref a :: st, M) Q = (mcl M a = some 8 ∧ CC X (d - 1) 120 [.ref a] M (XC X d 0 2563 2566 L st Q)) := H_virt [] rfl (by decide) rfl rfl rfl rfl rfl hd hs
theorem x0_2566 : XX X d 0 (2566, [l0, l1, some (.ref a), l3, l4, l5, l6, l7, l8], st, M) Q = XX X d 0 (2567, [l0, l1, some (.ref a), l3, l4, l5, l6, l7, l8], .ref a :: st, M) Q := H_ld rfl rfl rfl rfl rfl
theorem x0_2567 (hd : 0 < d) (hs : stB st = true) : XX X d 0 (2567, L, .ref a :: st, M) Q = (mcl M a = some 9 ∧ CC X (d - 1) 230 [.ref a] M (XC X d 0 2567 2570 L st Q)) := H_virt [] rfl (by decide) rfl rfl rfl rfl rfl hd hs
theorem x0_2570 (h : -2147483648 ≤ p ∧ p ≤ 2147483647 ∧ -2147483648 ≤ q ∧ q ≤ 2147483647) : XX X d 0 (2570, L, .int (ii q) :: .int (ii p) :: st, M) Q = bq (p = q) X d 0 2632 2573 L st M Q := H_if2 rfl ⟨rfl, rfl, rfl, by decide⟩ rfl rfl rfl rfl (D_eq h)
theorem x0_2573 : XX X d 0 (2573, L, st, M) Q = XX X d 0 (2574, L, .int (ii 0) :: st, M) Q := G_cst rfl rfl rfl rfl rfl
theorem x0_2574 (h : bz p) : XX X d 0 (2574, L, [.int (ii p)], M) Q = Q (.inl (some (.int (ii p)))) M := G_ret rfl ⟨⟨⟨rfl, rfl, rfl, by decide⟩, rfl, rfl⟩, rfl, rfl⟩ (bz_ok h)
theorem x0_2575 : XX X d 0 (2575, [l0, some (.ref a), l2, l3, l4, l5, l6, l7, l8], st, M) Q = XX X d 0 (2576, [l0, some (.ref a), l2, l3, l4, l5, l6, l7, l8], .ref a :: st, M) Q := H_ld rfl rfl rfl rfl rfl
theorem x0_2576 (hd : 0 < d) (hs : stB st = true) : XX X d 0 (2576, L, .ref a :: st, M) Q = (mcl M a = some 8 ∧ CC X (d - 1) 121 [.ref a] M (XC X d 0 2576 2579 L st Q)) := H_virt [] rfl (by decide) rfl rfl rfl rfl rfl hd hs
theorem x0_2579 : XX X d 0 (2579, [l0, l1, some (.ref a), l3, l4, l5, l6, l7, l8], st, M) Q = XX X d 0 (2580, [l0, l1, some (.ref a), l3, l4, l5, l6, l7, l8], .ref a :: st, M) Q := H_ld rfl rfl rfl rfl rfl
theorem x0_2580 (hd : 0 < d) (hs : stB st = true) : XX X d 0 (2580, L, .ref a :: st, M) Q = (mcl M a = some 9 ∧ CC X (d - 1) 231 [.ref a] M (XC X d 0 2580 2583 L st Q)) := H_virt [] rfl (by decide) rfl rfl rfl rfl rfl hd hs
theorem x0_2583 (h : -2147483648 ≤ p ∧ p ≤ 2147483647 ∧ -2147483648 ≤ q ∧ q ≤ 2147483647) : XX X d 0 (2583, L, .int (ii q) :: .int (ii p) :: st, M) Q = bq (p = q) X d 0 2632 2586 L st M Q := H_if2 rfl ⟨rfl, rfl, rfl, by decide⟩ rfl rfl rfl rfl (D_eq h)
theorem x0_2586 : XX X d 0 (2586, L, st, M) Q = XX X d 0 (2587, L, .int (ii 0) :: st, M) Q := G_cst rfl rfl rfl rfl rfl
theorem x0_2587 (h : bz p) : XX X d 0 (2587, L, [.int (ii p)], M) Q = Q (.inl (some (.int (ii p)))) M := G_ret rfl ⟨⟨⟨rfl, rfl, rfl, by decide⟩, rfl, rfl⟩, rfl, rfl⟩ (bz_ok h)
theorem x0_2588 : XX X d 0 (2588, [l0, some (.ref a), l2, l3, l4, l5, l6, l7, l8], st, M) Q = XX X d 0 (2589, [l0, some (.ref a), l2, l3, l4, l5, l6, l7, l8], .ref a :: st, M) Q := H_ld rfl rfl rfl rfl rfl
theorem x0_2589 : XX X d 0 (2589, [l0, l1, l2, some (.ref a), l4, l5, l6, l7, l8], st, M) Q = XX X d 0 (2590, [l0, l1, l2, some (.ref a), l4, l5, l6, l7, l8], .ref a :: st, M) Q := H_ld rfl rfl rfl rfl rfl
theorem x0_2590 {v1 v2 : Value} (hd : 0 < d) (hs : stB st = true) : XX X d 0 (2590, L, v2 :: v1 :: st, M) Q = CC X (d - 1) 270 [v1, v2] M (XC X d 0 2590 2593 L st Q) := H_static [v1, v2] rfl (by decide) rfl rfl (by decide) rfl rfl hd hs
theorem x0_2593 (h : wide (some l5) = false) : XX X d 0 (2593, [l0, l1, l2, l3, l4, l5, l6, l7, l8], .int x :: st, M) Q = XX X d 0 (2595, [l0, l1, l2, l3, l4, l5, some (.int x), l7, l8], st, M) Q := H_st rfl rfl rfl rfl rfl rfl rfl rfl (Or.inr h)
theorem x0_2595 : XX X d 0 (2595, [l0, l1, some (.ref a), l3, l4, l5, l6, l7, l8], st, M) Q = XX X d 0 (2596, [l0, l1, some (.ref a), l3, l4, l5, l6, l7, l8], .ref a :: st, M) Q := H_ld rfl rfl rfl rfl rfl
theorem x0_2596 (hd : 0 < d) (hs : stB st = true) : XX X d 0 (2596, L, .ref a :: st, M) Q = (mcl M a = some 9 ∧ CC X (d - 1) 232 [.ref a] M (XC X d 0 2596 2599 L st Q)) := H_virt [] rfl (by decide) rfl rfl rfl rfl rfl hd hs
theorem x0_2599 (h : wide (some l6) = false) : XX X d 0 (2599, [l0, l1, l2, l3, l4, l5, l6, l7, l8], .int x :: st, M) Q = XX X d 0 (2601, [l0, l1, l2, l3, l4, l5, l6, some (.int x), l8], st, M) Q := H_st rfl rfl rfl rfl rfl rfl rfl rfl (Or.inr h)
theorem x0_2601 : XX X d 0 (2601, [l0, l1, some (.ref a), l3, l4, l5, l6, l7, l8], st, M) Q = XX X d 0 (2602, [l0, l1, some (.ref a), l3, l4, l5, l6, l7, l8], .ref a :: st, M) Q := H_ld rfl rfl rfl rfl rfl
theorem x0_2602 (hd : 0 < d) (hs : stB st = true) : XX X d 0 (2602, L, .ref a :: st, M) Q = (mcl M a = some 9 ∧ CC X (d - 1) 143 [.ref a] M (XC X d 0 2602 2605 L st Q)) := H_virt [] rfl (by decide) rfl rfl rfl rfl rfl hd hs
theorem x0_2605 : XX X d 0 (2605, [l0, l1, l2, l3, l4, l5, some (.int x), l7, l8], st, M) Q = XX X d 0 (2607, [l0, l1, l2, l3, l4, l5, some (.int x), l7, l8], .int x :: st, M) Q := H_ld rfl rfl rfl rfl rfl
theorem x0_2607 (h : -2147483648 ≤ p ∧ p ≤ 2147483647 ∧ -2147483648 ≤ q ∧ q ≤ 2147483647) : XX X d 0 (2607, L, .int (ii q) :: .int (ii p) :: st, M) Q = bq (p = q) X d 0 2612 2610 L st M Q := H_if2 rfl ⟨rfl, rfl, rfl, by decide⟩ rfl rfl rfl rfl (D_eq h)
theorem x0_2610 : XX X d 0 (2610, L, st, M) Q = XX X d 0 (2611, L, .int (ii 0) :: st, M) Q := G_cst rfl rfl rfl rfl rfl
theorem x0_2611 (h : bz p) : XX X d 0 (2611, L, [.int (ii p)], M) Q = Q (.inl (some (.int (ii p)))) M := G_ret rfl ⟨⟨⟨rfl, rfl, rfl, by decide⟩, rfl, rfl⟩, rfl, rfl⟩ (bz_ok h)
theorem x0_2612 : XX X d 0 (2612, [l0, l1, l2, l3, l4, l5, some (.int x), l7, l8], st, M) Q = XX X d 0 (2614, [l0, l1, l2, l3, l4, l5, some (.int x), l7, l8], .int x :: st, M) Q := H_ld rfl rfl rfl rfl rfl
theorem x0_2614 (h : -2147483648 ≤ p ∧ p ≤ 2147483647) : XX X d 0 (2614, L, .int (ii p) :: st, M) Q = bq (p ≠ 0) X d 0 2629 2617 L st M Q := H_if rfl ⟨rfl, rfl, rfl, by decide⟩ rfl rfl rfl rfl (D_ne (b := 0) (by omega))
theorem x0_2614b : XX X d 0 (2614, L, .int (ii (b2i b)) :: st, M) Q = bq (b = true) X d 0 2629 2617 L st M Q := (x0_2614 (b2i_r b)).trans (by rw [b2i_n0])
theorem x0_2617 : XX X d 0 (2617, [l0, l1, l2, some (.ref a), l4, l5, l6, l7, l8], st, M) Q = XX X d 0 (2618, [l0, l1, l2, some (.ref a), l4, l5, l6, l7, l8], .ref a :: st, M) Q := H_ld rfl rfl rfl rfl rfl
theorem x0_2618 : XX X d 0 (2618, L, st, M) Q = XX X d 0 (2619, L, .int (ii 0) :: st, M) Q := G_cst rfl rfl rfl rfl rfl
theorem x0_2619 : XX X d 0 (2619, L, .int x :: .ref a :: st, M) Q = xa (M.2.2 a) (aldT .laload) x (fun v => XX X d 0 (2620, L, v :: st, M) Q) := G_ald rfl ⟨⟨rfl, rfl, rfl, by decide⟩, rfl, rfl⟩ rfl rfl
theorem x0_2620 : XX X d 0 (2620, [l0, l1, l2, l3, l4, l5, l6, some (.int x), l8], st, M) Q = XX X d 0 (2622, [l0, l1, l2, l3, l4, l5, l6, some (.int x), l8], .int x :: st, M) Q := H_ld rfl rfl rfl rfl rfl
theorem x0_2622 : XX X d 0 (2622, L, .int x :: st, M) Q = XX X d 0 (2623, L, .long x.toInt64 :: st, M) Q := G_sop rfl ⟨rfl, rfl, rfl, by decide⟩ rfl rfl
theorem x0_2623 : XX X d 0 (2623, L, .long y2 :: .long y :: st, M) Q = XX X d 0 (2624, L, .int (lg_cmp y y2) :: st, M) Q := G_sop rfl ⟨rfl, rfl, rfl, by decide⟩ rfl rfl
theorem x0_2624 (h : -2147483648 ≤ p ∧ p ≤ 2147483647) : XX X d 0 (2624, L, .int (ii p) :: st, M) Q = bq (p = 0) X d 0 2629 2627 L st M Q := H_if rfl ⟨rfl, rfl, rfl, by decide⟩ rfl rfl rfl rfl (D_eq (b := 0) (by omega))
theorem x0_2624b : XX X d 0 (2624, L, .int (ii (b2i b)) :: st, M) Q = bq (b = false) X d 0 2629 2627 L st M Q := (x0_2624 (b2i_r b)).trans (by rw [b2i_0])
theorem x0_2627 : XX X d 0 (2627, L, st, M) Q = XX X d 0 (2628, L, .int (ii 0) :: st, M) Q := G_cst rfl rfl rfl rfl rfl
theorem x0_2628 (h : bz p) : XX X d 0 (2628, L, [.int (ii p)], M) Q = Q (.inl (some (.int (ii p)))) M := G_ret rfl ⟨⟨⟨rfl, rfl, rfl, by decide⟩, rfl, rfl⟩, rfl, rfl⟩ (bz_ok h)
theorem x0_2629 : XX X d 0 (2629, L, st, M) Q = XX X d 0 (2632, L, st, M) Q := H_jmp rfl (by decide) rfl
theorem x0_2632 (h : wide (some l4) = false) : XX X d 0 (2632, [l0, l1, l2, l3, l4, some (.int (ii p)), l6, l7, l8], st, M) Q = XX X d 0 (2635, [l0, l1, l2, l3, l4, some (.int (ii (p + 4))), l6, l7, l8], st, M) Q := H_inc rfl (by decide) rfl rfl rfl (Or.inr h)
theorem x0_2635 : XX X d 0 (2635, L, st, M) Q = XX X d 0 (28, L, st, M) Q := H_jmp rfl (by decide) rfl
theorem x0_2638 : XX X d 0 (2638, L, st, M) Q = XX X d 0 (2639, L, .int (ii 1) :: st, M) Q := G_cst rfl rfl rfl rfl rfl
theorem x0_2639 (h : bz p) : XX X d 0 (2639, L, [.int (ii p)], M) Q = Q (.inl (some (.int (ii p)))) M := G_ret rfl ⟨⟨⟨rfl, rfl, rfl, by decide⟩, rfl, rfl⟩, rfl, rfl⟩ (bz_ok h)
end PX28pxlawm
