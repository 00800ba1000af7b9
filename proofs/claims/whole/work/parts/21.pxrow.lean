/-! Row: each row at its place, printed by wip/whole/genx.py -/
section PX21pxrowleantxt
variable {B : List Nat} {X : JX} {d a : Nat} {L : List (Option Value)} {st : List Value} {M : JM} {Q : JR → JM → Prop} {x x2 : Int32} {y y2 : Int64} {z z2 : UInt32} {w w2 : UInt64} {v v2 : Value}
-- 57 X6_init (I)V
theorem mL_57 : mL 57 = 2 := rfl
theorem x57_0 (hB : B.contains 0 = false) : XX B X d 57 (0, L, st, M) Q = xl 4 L[0]? (fun v => XX B X d 57 (1, L, v :: st, M) Q) := G_ld hB rfl rfl rfl
theorem x57_1 (hB : B.contains 1 = false) : XX B X d 57 (1, L, .ref a :: st, M) Q = if stw st ≤ 8 then XX B X d 57 (4, L, st, M) Q else False := G_obj hB rfl (by decide) rfl rfl rfl
theorem x57_4 (hB : B.contains 4 = false) : XX B X d 57 (4, L, st, M) Q = xl 4 L[0]? (fun v => XX B X d 57 (5, L, v :: st, M) Q) := G_ld hB rfl rfl rfl
theorem x57_5 (hB : B.contains 5 = false) : XX B X d 57 (5, L, st, M) Q = XX B X d 57 (6, L, .int (Int32.ofInt 0) :: st, M) Q := G_cst hB rfl rfl rfl (by decide) rfl
theorem x57_6 (hB : B.contains 6 = false) : XX B X d 57 (6, L, v :: .ref a :: st, M) Q = xp (M.2.2 a) 6 1 v (fun fs => XX B X d 57 (9, L, st, mset M a (.inr (6, fs))) Q) := G_putf hB rfl (by decide) rfl rfl rfl
theorem x57_9 (hB : B.contains 9 = false) : XX B X d 57 (9, L, st, M) Q = xl 4 L[0]? (fun v => XX B X d 57 (10, L, v :: st, M) Q) := G_ld hB rfl rfl rfl
theorem x57_10 (hB : B.contains 10 = false) : XX B X d 57 (10, L, st, M) Q = xl 0 L[1]? (fun v => XX B X d 57 (11, L, v :: st, M) Q) := G_ld hB rfl rfl rfl
theorem x57_11 (hB : B.contains 11 = false) : XX B X d 57 (11, L, .int x :: st, M) Q = if x ≤ 0 then XX B X d 57 (18, L, st, M) Q else XX B X d 57 (14, L, st, M) Q := G_bop hB rfl ⟨rfl, rfl, rfl, by decide⟩ rfl rfl rfl rfl
theorem x57_14 (hB : B.contains 14 = false) : XX B X d 57 (14, L, st, M) Q = xl 0 L[1]? (fun v => XX B X d 57 (15, L, v :: st, M) Q) := G_ld hB rfl rfl rfl
theorem x57_15 (hB : B.contains 15 = false) : XX B X d 57 (15, L, st, M) Q = XX B X d 57 (19, L, st, M) Q := G_jmp hB rfl ⟨rfl, rfl, rfl, by decide⟩ (by cases st with | nil => rfl | cons a t => (cases t <;> rfl)) (by cases st with | nil => rfl | cons a t => (cases t <;> rfl)) rfl
theorem x57_18 (hB : B.contains 18 = false) : XX B X d 57 (18, L, st, M) Q = XX B X d 57 (19, L, .int (Int32.ofInt 0) :: st, M) Q := G_cst hB rfl rfl rfl (by decide) rfl
theorem x57_19 (hB : B.contains 19 = false) : XX B X d 57 (19, L, .int x :: st, M) Q = if ¬ x < 0 ∧ x.toNatClampNeg ≤ 10000 then XX B X d 57 (21, L, .ref M.1 :: st, mnew M x.toNatClampNeg (.inl (0, x.toNatClampNeg, fun _ => .int 0))) Q else False := G_newa hB rfl (by decide) rfl rfl rfl
theorem x57_21 (hB : B.contains 21 = false) : XX B X d 57 (21, L, v :: .ref a :: st, M) Q = xp (M.2.2 a) 6 0 v (fun fs => XX B X d 57 (24, L, st, mset M a (.inr (6, fs))) Q) := G_putf hB rfl (by decide) rfl rfl rfl
theorem x57_24 (hB : B.contains 24 = false) : XX B X d 57 (24, L, [], M) Q = Q (.inl none) M := G_retv hB rfl (by decide) rfl
-- 58 X6_size ()I
theorem mL_58 : mL 58 = 1 := rfl
theorem x58_0 (hB : B.contains 0 = false) : XX B X d 58 (0, L, st, M) Q = xl 4 L[0]? (fun v => XX B X d 58 (1, L, v :: st, M) Q) := G_ld hB rfl rfl rfl
theorem x58_1 (hB : B.contains 1 = false) : XX B X d 58 (1, L, .ref a :: st, M) Q = xg (M.2.2 a) 6 1 (fun v => XX B X d 58 (4, L, v :: st, M) Q) := G_getf hB rfl (by decide) rfl rfl rfl
theorem x58_4 (hB : B.contains 4 = false) : XX B X d 58 (4, L, [.int x], M) Q = Q (.inl (some (.int x))) M := G_ret hB rfl ⟨⟨⟨rfl, rfl, rfl, by decide⟩, rfl, rfl⟩, rfl, rfl⟩ rfl
-- 59 X6_isFull ()Z
theorem mL_59 : mL 59 = 1 := rfl
theorem x59_0 (hB : B.contains 0 = false) : XX B X d 59 (0, L, st, M) Q = xl 4 L[0]? (fun v => XX B X d 59 (1, L, v :: st, M) Q) := G_ld hB rfl rfl rfl
theorem x59_1 (hB : B.contains 1 = false) : XX B X d 59 (1, L, .ref a :: st, M) Q = xg (M.2.2 a) 6 1 (fun v => XX B X d 59 (4, L, v :: st, M) Q) := G_getf hB rfl (by decide) rfl rfl rfl
theorem x59_4 (hB : B.contains 4 = false) : XX B X d 59 (4, L, st, M) Q = xl 4 L[0]? (fun v => XX B X d 59 (5, L, v :: st, M) Q) := G_ld hB rfl rfl rfl
theorem x59_5 (hB : B.contains 5 = false) : XX B X d 59 (5, L, .ref a :: st, M) Q = xg (M.2.2 a) 6 0 (fun v => XX B X d 59 (8, L, v :: st, M) Q) := G_getf hB rfl (by decide) rfl rfl rfl
theorem x59_8 (hB : B.contains 8 = false) : XX B X d 59 (8, L, .ref a :: st, M) Q = xn (M.2.2 a) (fun n => XX B X d 59 (9, L, .int (Int32.ofNat n) :: st, M) Q) := G_alen hB rfl (by decide) rfl
theorem x59_9 (hB : B.contains 9 = false) : XX B X d 59 (9, L, .int x2 :: .int x :: st, M) Q = if x < x2 then XX B X d 59 (16, L, st, M) Q else XX B X d 59 (12, L, st, M) Q := G_bop hB rfl ⟨rfl, rfl, rfl, by decide⟩ rfl rfl rfl rfl
theorem x59_12 (hB : B.contains 12 = false) : XX B X d 59 (12, L, st, M) Q = XX B X d 59 (13, L, .int (Int32.ofInt 1) :: st, M) Q := G_cst hB rfl rfl rfl (by decide) rfl
theorem x59_13 (hB : B.contains 13 = false) : XX B X d 59 (13, L, st, M) Q = XX B X d 59 (17, L, st, M) Q := G_jmp hB rfl ⟨rfl, rfl, rfl, by decide⟩ (by cases st with | nil => rfl | cons a t => (cases t <;> rfl)) (by cases st with | nil => rfl | cons a t => (cases t <;> rfl)) rfl
theorem x59_16 (hB : B.contains 16 = false) : XX B X d 59 (16, L, st, M) Q = XX B X d 59 (17, L, .int (Int32.ofInt 0) :: st, M) Q := G_cst hB rfl rfl rfl (by decide) rfl
theorem x59_17 (hB : B.contains 17 = false) (h : bz x = true) : XX B X d 59 (17, L, [.int x], M) Q = Q (.inl (some (.int x))) M := G_ret hB rfl ⟨⟨⟨rfl, rfl, rfl, by decide⟩, rfl, rfl⟩, rfl, rfl⟩ h
-- 60 X6_holds (I)Z
theorem mL_60 : mL 60 = 2 := rfl
theorem x60_0 (hB : B.contains 0 = false) : XX B X d 60 (0, L, st, M) Q = xl 0 L[1]? (fun v => XX B X d 60 (1, L, v :: st, M) Q) := G_ld hB rfl rfl rfl
theorem x60_1 (hB : B.contains 1 = false) : XX B X d 60 (1, L, .int x :: st, M) Q = if x < 0 then XX B X d 60 (16, L, st, M) Q else XX B X d 60 (4, L, st, M) Q := G_bop hB rfl ⟨rfl, rfl, rfl, by decide⟩ rfl rfl rfl rfl
theorem x60_4 (hB : B.contains 4 = false) : XX B X d 60 (4, L, st, M) Q = xl 0 L[1]? (fun v => XX B X d 60 (5, L, v :: st, M) Q) := G_ld hB rfl rfl rfl
theorem x60_5 (hB : B.contains 5 = false) : XX B X d 60 (5, L, st, M) Q = xl 4 L[0]? (fun v => XX B X d 60 (6, L, v :: st, M) Q) := G_ld hB rfl rfl rfl
theorem x60_6 (hB : B.contains 6 = false) : XX B X d 60 (6, L, .ref a :: st, M) Q = xg (M.2.2 a) 6 1 (fun v => XX B X d 60 (9, L, v :: st, M) Q) := G_getf hB rfl (by decide) rfl rfl rfl
theorem x60_9 (hB : B.contains 9 = false) : XX B X d 60 (9, L, .int x2 :: .int x :: st, M) Q = if x2 ≤ x then XX B X d 60 (16, L, st, M) Q else XX B X d 60 (12, L, st, M) Q := G_bop hB rfl ⟨rfl, rfl, rfl, by decide⟩ rfl rfl rfl rfl
theorem x60_12 (hB : B.contains 12 = false) : XX B X d 60 (12, L, st, M) Q = XX B X d 60 (13, L, .int (Int32.ofInt 1) :: st, M) Q := G_cst hB rfl rfl rfl (by decide) rfl
theorem x60_13 (hB : B.contains 13 = false) : XX B X d 60 (13, L, st, M) Q = XX B X d 60 (17, L, st, M) Q := G_jmp hB rfl ⟨rfl, rfl, rfl, by decide⟩ (by cases st with | nil => rfl | cons a t => (cases t <;> rfl)) (by cases st with | nil => rfl | cons a t => (cases t <;> rfl)) rfl
theorem x60_16 (hB : B.contains 16 = false) : XX B X d 60 (16, L, st, M) Q = XX B X d 60 (17, L, .int (Int32.ofInt 0) :: st, M) Q := G_cst hB rfl rfl rfl (by decide) rfl
theorem x60_17 (hB : B.contains 17 = false) (h : bz x = true) : XX B X d 60 (17, L, [.int x], M) Q = Q (.inl (some (.int x))) M := G_ret hB rfl ⟨⟨⟨rfl, rfl, rfl, by decide⟩, rfl, rfl⟩, rfl, rfl⟩ h
-- 61 X6_at (I)I
theorem mL_61 : mL 61 = 2 := rfl
theorem x61_0 (hB : B.contains 0 = false) : XX B X d 61 (0, L, st, M) Q = xl 0 L[1]? (fun v => XX B X d 61 (1, L, v :: st, M) Q) := G_ld hB rfl rfl rfl
theorem x61_1 (hB : B.contains 1 = false) : XX B X d 61 (1, L, .int x :: st, M) Q = if x < 0 then XX B X d 61 (21, L, st, M) Q else XX B X d 61 (4, L, st, M) Q := G_bop hB rfl ⟨rfl, rfl, rfl, by decide⟩ rfl rfl rfl rfl
theorem x61_4 (hB : B.contains 4 = false) : XX B X d 61 (4, L, st, M) Q = xl 0 L[1]? (fun v => XX B X d 61 (5, L, v :: st, M) Q) := G_ld hB rfl rfl rfl
theorem x61_5 (hB : B.contains 5 = false) : XX B X d 61 (5, L, st, M) Q = xl 4 L[0]? (fun v => XX B X d 61 (6, L, v :: st, M) Q) := G_ld hB rfl rfl rfl
theorem x61_6 (hB : B.contains 6 = false) : XX B X d 61 (6, L, .ref a :: st, M) Q = xg (M.2.2 a) 6 1 (fun v => XX B X d 61 (9, L, v :: st, M) Q) := G_getf hB rfl (by decide) rfl rfl rfl
theorem x61_9 (hB : B.contains 9 = false) : XX B X d 61 (9, L, .int x2 :: .int x :: st, M) Q = if x2 ≤ x then XX B X d 61 (21, L, st, M) Q else XX B X d 61 (12, L, st, M) Q := G_bop hB rfl ⟨rfl, rfl, rfl, by decide⟩ rfl rfl rfl rfl
theorem x61_12 (hB : B.contains 12 = false) : XX B X d 61 (12, L, st, M) Q = xl 0 L[1]? (fun v => XX B X d 61 (13, L, v :: st, M) Q) := G_ld hB rfl rfl rfl
theorem x61_13 (hB : B.contains 13 = false) : XX B X d 61 (13, L, st, M) Q = xl 4 L[0]? (fun v => XX B X d 61 (14, L, v :: st, M) Q) := G_ld hB rfl rfl rfl
theorem x61_14 (hB : B.contains 14 = false) : XX B X d 61 (14, L, .ref a :: st, M) Q = xg (M.2.2 a) 6 0 (fun v => XX B X d 61 (17, L, v :: st, M) Q) := G_getf hB rfl (by decide) rfl rfl rfl
theorem x61_17 (hB : B.contains 17 = false) : XX B X d 61 (17, L, .ref a :: st, M) Q = xn (M.2.2 a) (fun n => XX B X d 61 (18, L, .int (Int32.ofNat n) :: st, M) Q) := G_alen hB rfl (by decide) rfl
theorem x61_18 (hB : B.contains 18 = false) : XX B X d 61 (18, L, .int x2 :: .int x :: st, M) Q = if x < x2 then XX B X d 61 (23, L, st, M) Q else XX B X d 61 (21, L, st, M) Q := G_bop hB rfl ⟨rfl, rfl, rfl, by decide⟩ rfl rfl rfl rfl
theorem x61_21 (hB : B.contains 21 = false) : XX B X d 61 (21, L, st, M) Q = XX B X d 61 (22, L, .int (Int32.ofInt 0) :: st, M) Q := G_cst hB rfl rfl rfl (by decide) rfl
theorem x61_22 (hB : B.contains 22 = false) : XX B X d 61 (22, L, [.int x], M) Q = Q (.inl (some (.int x))) M := G_ret hB rfl ⟨⟨⟨rfl, rfl, rfl, by decide⟩, rfl, rfl⟩, rfl, rfl⟩ rfl
theorem x61_23 (hB : B.contains 23 = false) : XX B X d 61 (23, L, st, M) Q = xl 4 L[0]? (fun v => XX B X d 61 (24, L, v :: st, M) Q) := G_ld hB rfl rfl rfl
theorem x61_24 (hB : B.contains 24 = false) : XX B X d 61 (24, L, .ref a :: st, M) Q = xg (M.2.2 a) 6 0 (fun v => XX B X d 61 (27, L, v :: st, M) Q) := G_getf hB rfl (by decide) rfl rfl rfl
theorem x61_27 (hB : B.contains 27 = false) : XX B X d 61 (27, L, st, M) Q = xl 0 L[1]? (fun v => XX B X d 61 (28, L, v :: st, M) Q) := G_ld hB rfl rfl rfl
theorem x61_28 (hB : B.contains 28 = false) : XX B X d 61 (28, L, .int x :: .ref a :: st, M) Q = xa (M.2.2 a) (aldT .iaload) x (fun v => XX B X d 61 (29, L, v :: st, M) Q) := G_ald hB rfl ⟨⟨rfl, rfl, rfl, by decide⟩, rfl, rfl⟩ rfl rfl
theorem x61_29 (hB : B.contains 29 = false) : XX B X d 61 (29, L, [.int x], M) Q = Q (.inl (some (.int x))) M := G_ret hB rfl ⟨⟨⟨rfl, rfl, rfl, by decide⟩, rfl, rfl⟩, rfl, rfl⟩ rfl
-- 62 X6_put (II)V
theorem mL_62 : mL 62 = 3 := rfl
theorem x62_0 (hB : B.contains 0 = false) : XX B X d 62 (0, L, st, M) Q = xl 0 L[1]? (fun v => XX B X d 62 (1, L, v :: st, M) Q) := G_ld hB rfl rfl rfl
theorem x62_1 (hB : B.contains 1 = false) : XX B X d 62 (1, L, .int x :: st, M) Q = if x < 0 then XX B X d 62 (28, L, st, M) Q else XX B X d 62 (4, L, st, M) Q := G_bop hB rfl ⟨rfl, rfl, rfl, by decide⟩ rfl rfl rfl rfl
theorem x62_4 (hB : B.contains 4 = false) : XX B X d 62 (4, L, st, M) Q = xl 0 L[1]? (fun v => XX B X d 62 (5, L, v :: st, M) Q) := G_ld hB rfl rfl rfl
theorem x62_5 (hB : B.contains 5 = false) : XX B X d 62 (5, L, st, M) Q = xl 4 L[0]? (fun v => XX B X d 62 (6, L, v :: st, M) Q) := G_ld hB rfl rfl rfl
theorem x62_6 (hB : B.contains 6 = false) : XX B X d 62 (6, L, .ref a :: st, M) Q = xg (M.2.2 a) 6 1 (fun v => XX B X d 62 (9, L, v :: st, M) Q) := G_getf hB rfl (by decide) rfl rfl rfl
theorem x62_9 (hB : B.contains 9 = false) : XX B X d 62 (9, L, .int x2 :: .int x :: st, M) Q = if x2 ≤ x then XX B X d 62 (28, L, st, M) Q else XX B X d 62 (12, L, st, M) Q := G_bop hB rfl ⟨rfl, rfl, rfl, by decide⟩ rfl rfl rfl rfl
theorem x62_12 (hB : B.contains 12 = false) : XX B X d 62 (12, L, st, M) Q = xl 0 L[1]? (fun v => XX B X d 62 (13, L, v :: st, M) Q) := G_ld hB rfl rfl rfl
theorem x62_13 (hB : B.contains 13 = false) : XX B X d 62 (13, L, st, M) Q = xl 4 L[0]? (fun v => XX B X d 62 (14, L, v :: st, M) Q) := G_ld hB rfl rfl rfl
theorem x62_14 (hB : B.contains 14 = false) : XX B X d 62 (14, L, .ref a :: st, M) Q = xg (M.2.2 a) 6 0 (fun v => XX B X d 62 (17, L, v :: st, M) Q) := G_getf hB rfl (by decide) rfl rfl rfl
theorem x62_17 (hB : B.contains 17 = false) : XX B X d 62 (17, L, .ref a :: st, M) Q = xn (M.2.2 a) (fun n => XX B X d 62 (18, L, .int (Int32.ofNat n) :: st, M) Q) := G_alen hB rfl (by decide) rfl
theorem x62_18 (hB : B.contains 18 = false) : XX B X d 62 (18, L, .int x2 :: .int x :: st, M) Q = if x2 ≤ x then XX B X d 62 (28, L, st, M) Q else XX B X d 62 (21, L, st, M) Q := G_bop hB rfl ⟨rfl, rfl, rfl, by decide⟩ rfl rfl rfl rfl
theorem x62_21 (hB : B.contains 21 = false) : XX B X d 62 (21, L, st, M) Q = xl 4 L[0]? (fun v => XX B X d 62 (22, L, v :: st, M) Q) := G_ld hB rfl rfl rfl
theorem x62_22 (hB : B.contains 22 = false) : XX B X d 62 (22, L, .ref a :: st, M) Q = xg (M.2.2 a) 6 0 (fun v => XX B X d 62 (25, L, v :: st, M) Q) := G_getf hB rfl (by decide) rfl rfl rfl
theorem x62_25 (hB : B.contains 25 = false) : XX B X d 62 (25, L, st, M) Q = xl 0 L[1]? (fun v => XX B X d 62 (26, L, v :: st, M) Q) := G_ld hB rfl rfl rfl
theorem x62_26 (hB : B.contains 26 = false) : XX B X d 62 (26, L, st, M) Q = xl 0 L[2]? (fun v => XX B X d 62 (27, L, v :: st, M) Q) := G_ld hB rfl rfl rfl
theorem x62_27 (hB : B.contains 27 = false) : XX B X d 62 (27, L, v :: .int x :: .ref a :: st, M) Q = xw (M.2.2 a) (fun t => astV .iastore t v (mcl M)) x (fun e => XX B X d 62 (28, L, st, mset M a e) Q) := G_ast hB rfl ⟨⟨rfl, rfl, rfl, by decide⟩, rfl, rfl⟩ rfl rfl rfl
theorem x62_28 (hB : B.contains 28 = false) : XX B X d 62 (28, L, [], M) Q = Q (.inl none) M := G_retv hB rfl (by decide) rfl
-- 63 X6_add (I)V
theorem mL_63 : mL 63 = 3 := rfl
theorem x63_0 (hB : B.contains 0 = false) : XX B X d 63 (0, L, st, M) Q = xl 4 L[0]? (fun v => XX B X d 63 (1, L, v :: st, M) Q) := G_ld hB rfl rfl rfl
theorem x63_1 (hB : B.contains 1 = false) : XX B X d 63 (1, L, .ref a :: st, M) Q = xg (M.2.2 a) 6 1 (fun v => XX B X d 63 (4, L, v :: st, M) Q) := G_getf hB rfl (by decide) rfl rfl rfl
theorem x63_4 (hB : B.contains 4 = false) : XX B X d 63 (4, L, .int x :: st, M) Q = if 2 < L.length ∧ (2 = 0 ∨ wide L[2 - 1]? = false) then XX B X d 63 (5, L.set 2 (some (.int x)), st, M) Q else False := G_st hB rfl rfl rfl rfl rfl rfl
theorem x63_5 (hB : B.contains 5 = false) : XX B X d 63 (5, L, st, M) Q = xl 0 L[2]? (fun v => XX B X d 63 (6, L, v :: st, M) Q) := G_ld hB rfl rfl rfl
theorem x63_6 (hB : B.contains 6 = false) : XX B X d 63 (6, L, .int x :: st, M) Q = if x < 0 then XX B X d 63 (32, L, st, M) Q else XX B X d 63 (9, L, st, M) Q := G_bop hB rfl ⟨rfl, rfl, rfl, by decide⟩ rfl rfl rfl rfl
theorem x63_9 (hB : B.contains 9 = false) : XX B X d 63 (9, L, st, M) Q = xl 0 L[2]? (fun v => XX B X d 63 (10, L, v :: st, M) Q) := G_ld hB rfl rfl rfl
theorem x63_10 (hB : B.contains 10 = false) : XX B X d 63 (10, L, st, M) Q = xl 4 L[0]? (fun v => XX B X d 63 (11, L, v :: st, M) Q) := G_ld hB rfl rfl rfl
theorem x63_11 (hB : B.contains 11 = false) : XX B X d 63 (11, L, .ref a :: st, M) Q = xg (M.2.2 a) 6 0 (fun v => XX B X d 63 (14, L, v :: st, M) Q) := G_getf hB rfl (by decide) rfl rfl rfl
theorem x63_14 (hB : B.contains 14 = false) : XX B X d 63 (14, L, .ref a :: st, M) Q = xn (M.2.2 a) (fun n => XX B X d 63 (15, L, .int (Int32.ofNat n) :: st, M) Q) := G_alen hB rfl (by decide) rfl
theorem x63_15 (hB : B.contains 15 = false) : XX B X d 63 (15, L, .int x2 :: .int x :: st, M) Q = if x2 ≤ x then XX B X d 63 (32, L, st, M) Q else XX B X d 63 (18, L, st, M) Q := G_bop hB rfl ⟨rfl, rfl, rfl, by decide⟩ rfl rfl rfl rfl
theorem x63_18 (hB : B.contains 18 = false) : XX B X d 63 (18, L, st, M) Q = xl 4 L[0]? (fun v => XX B X d 63 (19, L, v :: st, M) Q) := G_ld hB rfl rfl rfl
theorem x63_19 (hB : B.contains 19 = false) : XX B X d 63 (19, L, .ref a :: st, M) Q = xg (M.2.2 a) 6 0 (fun v => XX B X d 63 (22, L, v :: st, M) Q) := G_getf hB rfl (by decide) rfl rfl rfl
theorem x63_22 (hB : B.contains 22 = false) : XX B X d 63 (22, L, st, M) Q = xl 0 L[2]? (fun v => XX B X d 63 (23, L, v :: st, M) Q) := G_ld hB rfl rfl rfl
theorem x63_23 (hB : B.contains 23 = false) : XX B X d 63 (23, L, st, M) Q = xl 0 L[1]? (fun v => XX B X d 63 (24, L, v :: st, M) Q) := G_ld hB rfl rfl rfl
theorem x63_24 (hB : B.contains 24 = false) : XX B X d 63 (24, L, v :: .int x :: .ref a :: st, M) Q = xw (M.2.2 a) (fun t => astV .iastore t v (mcl M)) x (fun e => XX B X d 63 (25, L, st, mset M a e) Q) := G_ast hB rfl ⟨⟨rfl, rfl, rfl, by decide⟩, rfl, rfl⟩ rfl rfl rfl
theorem x63_25 (hB : B.contains 25 = false) : XX B X d 63 (25, L, st, M) Q = xl 4 L[0]? (fun v => XX B X d 63 (26, L, v :: st, M) Q) := G_ld hB rfl rfl rfl
theorem x63_26 (hB : B.contains 26 = false) : XX B X d 63 (26, L, st, M) Q = xl 0 L[2]? (fun v => XX B X d 63 (27, L, v :: st, M) Q) := G_ld hB rfl rfl rfl
theorem x63_27 (hB : B.contains 27 = false) : XX B X d 63 (27, L, st, M) Q = XX B X d 63 (28, L, .int (Int32.ofInt 1) :: st, M) Q := G_cst hB rfl rfl rfl (by decide) rfl
theorem x63_28 (hB : B.contains 28 = false) : XX B X d 63 (28, L, .int x2 :: .int x :: st, M) Q = XX B X d 63 (29, L, .int (x + x2) :: st, M) Q := G_sop hB rfl ⟨rfl, rfl, rfl, by decide⟩ rfl rfl
theorem x63_29 (hB : B.contains 29 = false) : XX B X d 63 (29, L, v :: .ref a :: st, M) Q = xp (M.2.2 a) 6 1 v (fun fs => XX B X d 63 (32, L, st, mset M a (.inr (6, fs))) Q) := G_putf hB rfl (by decide) rfl rfl rfl
theorem x63_32 (hB : B.contains 32 = false) : XX B X d 63 (32, L, [], M) Q = Q (.inl none) M := G_retv hB rfl (by decide) rfl
-- 64 X6_removeLast ()I
theorem mL_64 : mL 64 = 2 := rfl
theorem x64_0 (hB : B.contains 0 = false) : XX B X d 64 (0, L, st, M) Q = xl 4 L[0]? (fun v => XX B X d 64 (1, L, v :: st, M) Q) := G_ld hB rfl rfl rfl
theorem x64_1 (hB : B.contains 1 = false) : XX B X d 64 (1, L, .ref a :: st, M) Q = xg (M.2.2 a) 6 1 (fun v => XX B X d 64 (4, L, v :: st, M) Q) := G_getf hB rfl (by decide) rfl rfl rfl
theorem x64_4 (hB : B.contains 4 = false) : XX B X d 64 (4, L, .int x :: st, M) Q = if 0 < x then XX B X d 64 (9, L, st, M) Q else XX B X d 64 (7, L, st, M) Q := G_bop hB rfl ⟨rfl, rfl, rfl, by decide⟩ rfl rfl rfl rfl
theorem x64_7 (hB : B.contains 7 = false) : XX B X d 64 (7, L, st, M) Q = XX B X d 64 (8, L, .int (Int32.ofInt 0) :: st, M) Q := G_cst hB rfl rfl rfl (by decide) rfl
theorem x64_8 (hB : B.contains 8 = false) : XX B X d 64 (8, L, [.int x], M) Q = Q (.inl (some (.int x))) M := G_ret hB rfl ⟨⟨⟨rfl, rfl, rfl, by decide⟩, rfl, rfl⟩, rfl, rfl⟩ rfl
theorem x64_9 (hB : B.contains 9 = false) : XX B X d 64 (9, L, st, M) Q = xl 4 L[0]? (fun v => XX B X d 64 (10, L, v :: st, M) Q) := G_ld hB rfl rfl rfl
theorem x64_10 (hB : B.contains 10 = false) : XX B X d 64 (10, L, st, M) Q = xl 4 L[0]? (fun v => XX B X d 64 (11, L, v :: st, M) Q) := G_ld hB rfl rfl rfl
theorem x64_11 (hB : B.contains 11 = false) : XX B X d 64 (11, L, .ref a :: st, M) Q = xg (M.2.2 a) 6 1 (fun v => XX B X d 64 (14, L, v :: st, M) Q) := G_getf hB rfl (by decide) rfl rfl rfl
theorem x64_14 (hB : B.contains 14 = false) : XX B X d 64 (14, L, st, M) Q = XX B X d 64 (15, L, .int (Int32.ofInt 1) :: st, M) Q := G_cst hB rfl rfl rfl (by decide) rfl
theorem x64_15 (hB : B.contains 15 = false) : XX B X d 64 (15, L, .int x2 :: .int x :: st, M) Q = XX B X d 64 (16, L, .int (x - x2) :: st, M) Q := G_sop hB rfl ⟨rfl, rfl, rfl, by decide⟩ rfl rfl
theorem x64_16 {v1 : Value} (hB : B.contains 16 = false) : XX B X (d + 1) 64 (16, L, v1 :: .ref a :: st, M) Q = if mcl M a = some 6 ∧ stw st ≤ 8 then CC X d 61 [.ref a, v1] M (XB B X (d + 1) 64 16 (19, L, st, M) Q) else False := G_virt [v1] hB rfl (by decide) rfl rfl rfl rfl rfl
theorem x64_19 (hB : B.contains 19 = false) : XX B X d 64 (19, L, .int x :: st, M) Q = if 1 < L.length ∧ (1 = 0 ∨ wide L[1 - 1]? = false) then XX B X d 64 (20, L.set 1 (some (.int x)), st, M) Q else False := G_st hB rfl rfl rfl rfl rfl rfl
theorem x64_20 (hB : B.contains 20 = false) : XX B X d 64 (20, L, st, M) Q = xl 4 L[0]? (fun v => XX B X d 64 (21, L, v :: st, M) Q) := G_ld hB rfl rfl rfl
theorem x64_21 (hB : B.contains 21 = false) (h : v.category = 1) : XX B X d 64 (21, L, v :: st, M) Q = XX B X d 64 (22, L, v :: v :: st, M) Q := G_sop hB rfl ⟨rfl, rfl, rfl, by decide⟩ (if_pos h) rfl
theorem x64_22 (hB : B.contains 22 = false) : XX B X d 64 (22, L, .ref a :: st, M) Q = xg (M.2.2 a) 6 1 (fun v => XX B X d 64 (25, L, v :: st, M) Q) := G_getf hB rfl (by decide) rfl rfl rfl
theorem x64_25 (hB : B.contains 25 = false) : XX B X d 64 (25, L, st, M) Q = XX B X d 64 (26, L, .int (Int32.ofInt 1) :: st, M) Q := G_cst hB rfl rfl rfl (by decide) rfl
theorem x64_26 (hB : B.contains 26 = false) : XX B X d 64 (26, L, .int x2 :: .int x :: st, M) Q = XX B X d 64 (27, L, .int (x - x2) :: st, M) Q := G_sop hB rfl ⟨rfl, rfl, rfl, by decide⟩ rfl rfl
theorem x64_27 (hB : B.contains 27 = false) : XX B X d 64 (27, L, v :: .ref a :: st, M) Q = xp (M.2.2 a) 6 1 v (fun fs => XX B X d 64 (30, L, st, mset M a (.inr (6, fs))) Q) := G_putf hB rfl (by decide) rfl rfl rfl
theorem x64_30 (hB : B.contains 30 = false) : XX B X d 64 (30, L, st, M) Q = xl 0 L[1]? (fun v => XX B X d 64 (31, L, v :: st, M) Q) := G_ld hB rfl rfl rfl
theorem x64_31 (hB : B.contains 31 = false) : XX B X d 64 (31, L, [.int x], M) Q = Q (.inl (some (.int x))) M := G_ret hB rfl ⟨⟨⟨rfl, rfl, rfl, by decide⟩, rfl, rfl⟩, rfl, rfl⟩ rfl
-- 65 X6_insert (II)V
theorem mL_65 : mL 65 = 4 := rfl
theorem x65_0 (hB : B.contains 0 = false) : XX B X d 65 (0, L, st, M) Q = xl 0 L[1]? (fun v => XX B X d 65 (1, L, v :: st, M) Q) := G_ld hB rfl rfl rfl
theorem x65_1 (hB : B.contains 1 = false) : XX B X d 65 (1, L, .int x :: st, M) Q = if x < 0 then XX B X d 65 (19, L, st, M) Q else XX B X d 65 (4, L, st, M) Q := G_bop hB rfl ⟨rfl, rfl, rfl, by decide⟩ rfl rfl rfl rfl
theorem x65_4 (hB : B.contains 4 = false) : XX B X d 65 (4, L, st, M) Q = xl 0 L[1]? (fun v => XX B X d 65 (5, L, v :: st, M) Q) := G_ld hB rfl rfl rfl
theorem x65_5 (hB : B.contains 5 = false) : XX B X d 65 (5, L, st, M) Q = xl 4 L[0]? (fun v => XX B X d 65 (6, L, v :: st, M) Q) := G_ld hB rfl rfl rfl
theorem x65_6 (hB : B.contains 6 = false) : XX B X d 65 (6, L, .ref a :: st, M) Q = xg (M.2.2 a) 6 1 (fun v => XX B X d 65 (9, L, v :: st, M) Q) := G_getf hB rfl (by decide) rfl rfl rfl
theorem x65_9 (hB : B.contains 9 = false) : XX B X d 65 (9, L, .int x2 :: .int x :: st, M) Q = if x2 < x then XX B X d 65 (19, L, st, M) Q else XX B X d 65 (12, L, st, M) Q := G_bop hB rfl ⟨rfl, rfl, rfl, by decide⟩ rfl rfl rfl rfl
theorem x65_12 (hB : B.contains 12 = false) : XX B X d 65 (12, L, st, M) Q = xl 4 L[0]? (fun v => XX B X d 65 (13, L, v :: st, M) Q) := G_ld hB rfl rfl rfl
theorem x65_13 (hB : B.contains 13 = false) : XX B X (d + 1) 65 (13, L, .ref a :: st, M) Q = if mcl M a = some 6 ∧ stw st ≤ 8 then CC X d 59 [.ref a] M (XB B X (d + 1) 65 13 (16, L, st, M) Q) else False := G_virt [] hB rfl (by decide) rfl rfl rfl rfl rfl
theorem x65_16 (hB : B.contains 16 = false) : XX B X d 65 (16, L, .int x :: st, M) Q = if x = 0 then XX B X d 65 (20, L, st, M) Q else XX B X d 65 (19, L, st, M) Q := G_bop hB rfl ⟨rfl, rfl, rfl, by decide⟩ rfl rfl rfl rfl
theorem x65_19 (hB : B.contains 19 = false) : XX B X d 65 (19, L, [], M) Q = Q (.inl none) M := G_retv hB rfl (by decide) rfl
theorem x65_20 (hB : B.contains 20 = false) : XX B X d 65 (20, L, st, M) Q = xl 4 L[0]? (fun v => XX B X d 65 (21, L, v :: st, M) Q) := G_ld hB rfl rfl rfl
theorem x65_21 (hB : B.contains 21 = false) : XX B X d 65 (21, L, st, M) Q = xl 0 L[2]? (fun v => XX B X d 65 (22, L, v :: st, M) Q) := G_ld hB rfl rfl rfl
theorem x65_22 {v1 : Value} (hB : B.contains 22 = false) : XX B X (d + 1) 65 (22, L, v1 :: .ref a :: st, M) Q = if mcl M a = some 6 ∧ stw st ≤ 8 then CC X d 63 [.ref a, v1] M (XB B X (d + 1) 65 22 (25, L, st, M) Q) else False := G_virt [v1] hB rfl (by decide) rfl rfl rfl rfl rfl
theorem x65_25 (hB : B.contains 25 = false) : XX B X d 65 (25, L, st, M) Q = xl 4 L[0]? (fun v => XX B X d 65 (26, L, v :: st, M) Q) := G_ld hB rfl rfl rfl
theorem x65_26 (hB : B.contains 26 = false) : XX B X d 65 (26, L, .ref a :: st, M) Q = xg (M.2.2 a) 6 1 (fun v => XX B X d 65 (29, L, v :: st, M) Q) := G_getf hB rfl (by decide) rfl rfl rfl
theorem x65_29 (hB : B.contains 29 = false) : XX B X d 65 (29, L, st, M) Q = XX B X d 65 (30, L, .int (Int32.ofInt 1) :: st, M) Q := G_cst hB rfl rfl rfl (by decide) rfl
theorem x65_30 (hB : B.contains 30 = false) : XX B X d 65 (30, L, .int x2 :: .int x :: st, M) Q = XX B X d 65 (31, L, .int (x - x2) :: st, M) Q := G_sop hB rfl ⟨rfl, rfl, rfl, by decide⟩ rfl rfl
theorem x65_31 (hB : B.contains 31 = false) : XX B X d 65 (31, L, .int x :: st, M) Q = if 3 < L.length ∧ (3 = 0 ∨ wide L[3 - 1]? = false) then XX B X d 65 (32, L.set 3 (some (.int x)), st, M) Q else False := G_st hB rfl rfl rfl rfl rfl rfl
theorem x65_32 (hB : B.contains 32 = false) : XX B X d 65 (32, L, st, M) Q = xl 0 L[3]? (fun v => XX B X d 65 (33, L, v :: st, M) Q) := G_ld hB rfl rfl rfl
theorem x65_33 (hB : B.contains 33 = false) : XX B X d 65 (33, L, st, M) Q = xl 0 L[1]? (fun v => XX B X d 65 (34, L, v :: st, M) Q) := G_ld hB rfl rfl rfl
theorem x65_34 (hB : B.contains 34 = false) : XX B X d 65 (34, L, .int x2 :: .int x :: st, M) Q = if x ≤ x2 then XX B X d 65 (55, L, st, M) Q else XX B X d 65 (37, L, st, M) Q := G_bop hB rfl ⟨rfl, rfl, rfl, by decide⟩ rfl rfl rfl rfl
theorem x65_37 (hB : B.contains 37 = false) : XX B X d 65 (37, L, st, M) Q = xl 4 L[0]? (fun v => XX B X d 65 (38, L, v :: st, M) Q) := G_ld hB rfl rfl rfl
theorem x65_38 (hB : B.contains 38 = false) : XX B X d 65 (38, L, st, M) Q = xl 0 L[3]? (fun v => XX B X d 65 (39, L, v :: st, M) Q) := G_ld hB rfl rfl rfl
theorem x65_39 (hB : B.contains 39 = false) : XX B X d 65 (39, L, st, M) Q = xl 4 L[0]? (fun v => XX B X d 65 (40, L, v :: st, M) Q) := G_ld hB rfl rfl rfl
theorem x65_40 (hB : B.contains 40 = false) : XX B X d 65 (40, L, st, M) Q = xl 0 L[3]? (fun v => XX B X d 65 (41, L, v :: st, M) Q) := G_ld hB rfl rfl rfl
theorem x65_41 (hB : B.contains 41 = false) : XX B X d 65 (41, L, st, M) Q = XX B X d 65 (42, L, .int (Int32.ofInt 1) :: st, M) Q := G_cst hB rfl rfl rfl (by decide) rfl
theorem x65_42 (hB : B.contains 42 = false) : XX B X d 65 (42, L, .int x2 :: .int x :: st, M) Q = XX B X d 65 (43, L, .int (x - x2) :: st, M) Q := G_sop hB rfl ⟨rfl, rfl, rfl, by decide⟩ rfl rfl
theorem x65_43 {v1 : Value} (hB : B.contains 43 = false) : XX B X (d + 1) 65 (43, L, v1 :: .ref a :: st, M) Q = if mcl M a = some 6 ∧ stw st ≤ 8 then CC X d 61 [.ref a, v1] M (XB B X (d + 1) 65 43 (46, L, st, M) Q) else False := G_virt [v1] hB rfl (by decide) rfl rfl rfl rfl rfl
theorem x65_46 {v1 v2 : Value} (hB : B.contains 46 = false) : XX B X (d + 1) 65 (46, L, v2 :: v1 :: .ref a :: st, M) Q = if mcl M a = some 6 ∧ stw st ≤ 8 then CC X d 62 [.ref a, v1, v2] M (XB B X (d + 1) 65 46 (49, L, st, M) Q) else False := G_virt [v1, v2] hB rfl (by decide) rfl rfl rfl rfl rfl
theorem x65_49 (hB : B.contains 49 = false) : XX B X d 65 (49, L, st, M) Q = xl 0 L[3]? (fun v => match v with | .int x => if 3 = 0 ∨ wide L[3 - 1]? = false then XX B X d 65 (52, L.set 3 (some (.int (x + Int32.ofInt (-1)))), st, M) Q else False | _ => False) := G_iinc hB rfl (by decide) rfl rfl
theorem x65_52 (hB : B.contains 52 = false) : XX B X d 65 (52, L, st, M) Q = XX B X d 65 (32, L, st, M) Q := G_jmp hB rfl ⟨rfl, rfl, rfl, by decide⟩ (by cases st with | nil => rfl | cons a t => (cases t <;> rfl)) (by cases st with | nil => rfl | cons a t => (cases t <;> rfl)) rfl
theorem x65_55 (hB : B.contains 55 = false) : XX B X d 65 (55, L, st, M) Q = xl 4 L[0]? (fun v => XX B X d 65 (56, L, v :: st, M) Q) := G_ld hB rfl rfl rfl
theorem x65_56 (hB : B.contains 56 = false) : XX B X d 65 (56, L, st, M) Q = xl 0 L[1]? (fun v => XX B X d 65 (57, L, v :: st, M) Q) := G_ld hB rfl rfl rfl
theorem x65_57 (hB : B.contains 57 = false) : XX B X d 65 (57, L, st, M) Q = xl 0 L[2]? (fun v => XX B X d 65 (58, L, v :: st, M) Q) := G_ld hB rfl rfl rfl
theorem x65_58 {v1 v2 : Value} (hB : B.contains 58 = false) : XX B X (d + 1) 65 (58, L, v2 :: v1 :: .ref a :: st, M) Q = if mcl M a = some 6 ∧ stw st ≤ 8 then CC X d 62 [.ref a, v1, v2] M (XB B X (d + 1) 65 58 (61, L, st, M) Q) else False := G_virt [v1, v2] hB rfl (by decide) rfl rfl rfl rfl rfl
theorem x65_61 (hB : B.contains 61 = false) : XX B X d 65 (61, L, [], M) Q = Q (.inl none) M := G_retv hB rfl (by decide) rfl
-- 66 X6_cut (II)V
theorem mL_66 : mL 66 = 4 := rfl
theorem x66_0 (hB : B.contains 0 = false) : XX B X d 66 (0, L, st, M) Q = xl 0 L[1]? (fun v => XX B X d 66 (1, L, v :: st, M) Q) := G_ld hB rfl rfl rfl
theorem x66_1 (hB : B.contains 1 = false) : XX B X d 66 (1, L, .int x :: st, M) Q = if x < 0 then XX B X d 66 (17, L, st, M) Q else XX B X d 66 (4, L, st, M) Q := G_bop hB rfl ⟨rfl, rfl, rfl, by decide⟩ rfl rfl rfl rfl
theorem x66_4 (hB : B.contains 4 = false) : XX B X d 66 (4, L, st, M) Q = xl 0 L[1]? (fun v => XX B X d 66 (5, L, v :: st, M) Q) := G_ld hB rfl rfl rfl
theorem x66_5 (hB : B.contains 5 = false) : XX B X d 66 (5, L, st, M) Q = xl 0 L[2]? (fun v => XX B X d 66 (6, L, v :: st, M) Q) := G_ld hB rfl rfl rfl
theorem x66_6 (hB : B.contains 6 = false) : XX B X d 66 (6, L, .int x2 :: .int x :: st, M) Q = if x2 < x then XX B X d 66 (17, L, st, M) Q else XX B X d 66 (9, L, st, M) Q := G_bop hB rfl ⟨rfl, rfl, rfl, by decide⟩ rfl rfl rfl rfl
theorem x66_9 (hB : B.contains 9 = false) : XX B X d 66 (9, L, st, M) Q = xl 0 L[2]? (fun v => XX B X d 66 (10, L, v :: st, M) Q) := G_ld hB rfl rfl rfl
theorem x66_10 (hB : B.contains 10 = false) : XX B X d 66 (10, L, st, M) Q = xl 4 L[0]? (fun v => XX B X d 66 (11, L, v :: st, M) Q) := G_ld hB rfl rfl rfl
theorem x66_11 (hB : B.contains 11 = false) : XX B X d 66 (11, L, .ref a :: st, M) Q = xg (M.2.2 a) 6 1 (fun v => XX B X d 66 (14, L, v :: st, M) Q) := G_getf hB rfl (by decide) rfl rfl rfl
theorem x66_14 (hB : B.contains 14 = false) : XX B X d 66 (14, L, .int x2 :: .int x :: st, M) Q = if x ≤ x2 then XX B X d 66 (18, L, st, M) Q else XX B X d 66 (17, L, st, M) Q := G_bop hB rfl ⟨rfl, rfl, rfl, by decide⟩ rfl rfl rfl rfl
theorem x66_17 (hB : B.contains 17 = false) : XX B X d 66 (17, L, [], M) Q = Q (.inl none) M := G_retv hB rfl (by decide) rfl
theorem x66_18 (hB : B.contains 18 = false) : XX B X d 66 (18, L, st, M) Q = xl 0 L[2]? (fun v => XX B X d 66 (19, L, v :: st, M) Q) := G_ld hB rfl rfl rfl
theorem x66_19 (hB : B.contains 19 = false) : XX B X d 66 (19, L, .int x :: st, M) Q = if 3 < L.length ∧ (3 = 0 ∨ wide L[3 - 1]? = false) then XX B X d 66 (20, L.set 3 (some (.int x)), st, M) Q else False := G_st hB rfl rfl rfl rfl rfl rfl
theorem x66_20 (hB : B.contains 20 = false) : XX B X d 66 (20, L, st, M) Q = xl 0 L[3]? (fun v => XX B X d 66 (21, L, v :: st, M) Q) := G_ld hB rfl rfl rfl
theorem x66_21 (hB : B.contains 21 = false) : XX B X d 66 (21, L, st, M) Q = xl 4 L[0]? (fun v => XX B X d 66 (22, L, v :: st, M) Q) := G_ld hB rfl rfl rfl
theorem x66_22 (hB : B.contains 22 = false) : XX B X d 66 (22, L, .ref a :: st, M) Q = xg (M.2.2 a) 6 1 (fun v => XX B X d 66 (25, L, v :: st, M) Q) := G_getf hB rfl (by decide) rfl rfl rfl
theorem x66_25 (hB : B.contains 25 = false) : XX B X d 66 (25, L, .int x2 :: .int x :: st, M) Q = if x2 ≤ x then XX B X d 66 (48, L, st, M) Q else XX B X d 66 (28, L, st, M) Q := G_bop hB rfl ⟨rfl, rfl, rfl, by decide⟩ rfl rfl rfl rfl
theorem x66_28 (hB : B.contains 28 = false) : XX B X d 66 (28, L, st, M) Q = xl 4 L[0]? (fun v => XX B X d 66 (29, L, v :: st, M) Q) := G_ld hB rfl rfl rfl
theorem x66_29 (hB : B.contains 29 = false) : XX B X d 66 (29, L, st, M) Q = xl 0 L[1]? (fun v => XX B X d 66 (30, L, v :: st, M) Q) := G_ld hB rfl rfl rfl
theorem x66_30 (hB : B.contains 30 = false) : XX B X d 66 (30, L, st, M) Q = xl 0 L[3]? (fun v => XX B X d 66 (31, L, v :: st, M) Q) := G_ld hB rfl rfl rfl
theorem x66_31 (hB : B.contains 31 = false) : XX B X d 66 (31, L, .int x2 :: .int x :: st, M) Q = XX B X d 66 (32, L, .int (x + x2) :: st, M) Q := G_sop hB rfl ⟨rfl, rfl, rfl, by decide⟩ rfl rfl
theorem x66_32 (hB : B.contains 32 = false) : XX B X d 66 (32, L, st, M) Q = xl 0 L[2]? (fun v => XX B X d 66 (33, L, v :: st, M) Q) := G_ld hB rfl rfl rfl
theorem x66_33 (hB : B.contains 33 = false) : XX B X d 66 (33, L, .int x2 :: .int x :: st, M) Q = XX B X d 66 (34, L, .int (x - x2) :: st, M) Q := G_sop hB rfl ⟨rfl, rfl, rfl, by decide⟩ rfl rfl
theorem x66_34 (hB : B.contains 34 = false) : XX B X d 66 (34, L, st, M) Q = xl 4 L[0]? (fun v => XX B X d 66 (35, L, v :: st, M) Q) := G_ld hB rfl rfl rfl
theorem x66_35 (hB : B.contains 35 = false) : XX B X d 66 (35, L, st, M) Q = xl 0 L[3]? (fun v => XX B X d 66 (36, L, v :: st, M) Q) := G_ld hB rfl rfl rfl
theorem x66_36 {v1 : Value} (hB : B.contains 36 = false) : XX B X (d + 1) 66 (36, L, v1 :: .ref a :: st, M) Q = if mcl M a = some 6 ∧ stw st ≤ 8 then CC X d 61 [.ref a, v1] M (XB B X (d + 1) 66 36 (39, L, st, M) Q) else False := G_virt [v1] hB rfl (by decide) rfl rfl rfl rfl rfl
theorem x66_39 {v1 v2 : Value} (hB : B.contains 39 = false) : XX B X (d + 1) 66 (39, L, v2 :: v1 :: .ref a :: st, M) Q = if mcl M a = some 6 ∧ stw st ≤ 8 then CC X d 62 [.ref a, v1, v2] M (XB B X (d + 1) 66 39 (42, L, st, M) Q) else False := G_virt [v1, v2] hB rfl (by decide) rfl rfl rfl rfl rfl
theorem x66_42 (hB : B.contains 42 = false) : XX B X d 66 (42, L, st, M) Q = xl 0 L[3]? (fun v => match v with | .int x => if 3 = 0 ∨ wide L[3 - 1]? = false then XX B X d 66 (45, L.set 3 (some (.int (x + Int32.ofInt 1))), st, M) Q else False | _ => False) := G_iinc hB rfl (by decide) rfl rfl
theorem x66_45 (hB : B.contains 45 = false) : XX B X d 66 (45, L, st, M) Q = XX B X d 66 (20, L, st, M) Q := G_jmp hB rfl ⟨rfl, rfl, rfl, by decide⟩ (by cases st with | nil => rfl | cons a t => (cases t <;> rfl)) (by cases st with | nil => rfl | cons a t => (cases t <;> rfl)) rfl
theorem x66_48 (hB : B.contains 48 = false) : XX B X d 66 (48, L, st, M) Q = xl 4 L[0]? (fun v => XX B X d 66 (49, L, v :: st, M) Q) := G_ld hB rfl rfl rfl
theorem x66_49 (hB : B.contains 49 = false) (h : v.category = 1) : XX B X d 66 (49, L, v :: st, M) Q = XX B X d 66 (50, L, v :: v :: st, M) Q := G_sop hB rfl ⟨rfl, rfl, rfl, by decide⟩ (if_pos h) rfl
theorem x66_50 (hB : B.contains 50 = false) : XX B X d 66 (50, L, .ref a :: st, M) Q = xg (M.2.2 a) 6 1 (fun v => XX B X d 66 (53, L, v :: st, M) Q) := G_getf hB rfl (by decide) rfl rfl rfl
theorem x66_53 (hB : B.contains 53 = false) : XX B X d 66 (53, L, st, M) Q = xl 0 L[2]? (fun v => XX B X d 66 (54, L, v :: st, M) Q) := G_ld hB rfl rfl rfl
theorem x66_54 (hB : B.contains 54 = false) : XX B X d 66 (54, L, st, M) Q = xl 0 L[1]? (fun v => XX B X d 66 (55, L, v :: st, M) Q) := G_ld hB rfl rfl rfl
theorem x66_55 (hB : B.contains 55 = false) : XX B X d 66 (55, L, .int x2 :: .int x :: st, M) Q = XX B X d 66 (56, L, .int (x - x2) :: st, M) Q := G_sop hB rfl ⟨rfl, rfl, rfl, by decide⟩ rfl rfl
theorem x66_56 (hB : B.contains 56 = false) : XX B X d 66 (56, L, .int x2 :: .int x :: st, M) Q = XX B X d 66 (57, L, .int (x - x2) :: st, M) Q := G_sop hB rfl ⟨rfl, rfl, rfl, by decide⟩ rfl rfl
theorem x66_57 (hB : B.contains 57 = false) : XX B X d 66 (57, L, v :: .ref a :: st, M) Q = xp (M.2.2 a) 6 1 v (fun fs => XX B X d 66 (60, L, st, mset M a (.inr (6, fs))) Q) := G_putf hB rfl (by decide) rfl rfl rfl
theorem x66_60 (hB : B.contains 60 = false) : XX B X d 66 (60, L, [], M) Q = Q (.inl none) M := G_retv hB rfl (by decide) rfl
-- 67 X6_clear ()V
theorem mL_67 : mL 67 = 1 := rfl
theorem x67_0 (hB : B.contains 0 = false) : XX B X d 67 (0, L, st, M) Q = xl 4 L[0]? (fun v => XX B X d 67 (1, L, v :: st, M) Q) := G_ld hB rfl rfl rfl
theorem x67_1 (hB : B.contains 1 = false) : XX B X d 67 (1, L, st, M) Q = XX B X d 67 (2, L, .int (Int32.ofInt 0) :: st, M) Q := G_cst hB rfl rfl rfl (by decide) rfl
theorem x67_2 (hB : B.contains 2 = false) : XX B X d 67 (2, L, v :: .ref a :: st, M) Q = xp (M.2.2 a) 6 1 v (fun fs => XX B X d 67 (5, L, st, mset M a (.inr (6, fs))) Q) := G_putf hB rfl (by decide) rfl rfl rfl
theorem x67_5 (hB : B.contains 5 = false) : XX B X d 67 (5, L, [], M) Q = Q (.inl none) M := G_retv hB rfl (by decide) rfl
-- 68 X6_addPart (LRegexTracer$Row;II)V
theorem mL_68 : mL 68 = 5 := rfl
theorem x68_0 (hB : B.contains 0 = false) : XX B X d 68 (0, L, st, M) Q = xl 0 L[2]? (fun v => XX B X d 68 (1, L, v :: st, M) Q) := G_ld hB rfl rfl rfl
theorem x68_1 (hB : B.contains 1 = false) : XX B X d 68 (1, L, .int x :: st, M) Q = if 4 < L.length ∧ (4 = 0 ∨ wide L[4 - 1]? = false) then XX B X d 68 (3, L.set 4 (some (.int x)), st, M) Q else False := G_st hB rfl rfl rfl rfl rfl rfl
theorem x68_3 (hB : B.contains 3 = false) : XX B X d 68 (3, L, st, M) Q = xl 0 L[4]? (fun v => XX B X d 68 (5, L, v :: st, M) Q) := G_ld hB rfl rfl rfl
theorem x68_5 (hB : B.contains 5 = false) : XX B X d 68 (5, L, st, M) Q = xl 0 L[3]? (fun v => XX B X d 68 (6, L, v :: st, M) Q) := G_ld hB rfl rfl rfl
theorem x68_6 (hB : B.contains 6 = false) : XX B X d 68 (6, L, .int x2 :: .int x :: st, M) Q = if x2 ≤ x then XX B X d 68 (34, L, st, M) Q else XX B X d 68 (9, L, st, M) Q := G_bop hB rfl ⟨rfl, rfl, rfl, by decide⟩ rfl rfl rfl rfl
theorem x68_9 (hB : B.contains 9 = false) : XX B X d 68 (9, L, st, M) Q = xl 0 L[4]? (fun v => XX B X d 68 (11, L, v :: st, M) Q) := G_ld hB rfl rfl rfl
theorem x68_11 (hB : B.contains 11 = false) : XX B X d 68 (11, L, st, M) Q = xl 4 L[1]? (fun v => XX B X d 68 (12, L, v :: st, M) Q) := G_ld hB rfl rfl rfl
theorem x68_12 (hB : B.contains 12 = false) : XX B X d 68 (12, L, .ref a :: st, M) Q = xg (M.2.2 a) 6 1 (fun v => XX B X d 68 (15, L, v :: st, M) Q) := G_getf hB rfl (by decide) rfl rfl rfl
theorem x68_15 (hB : B.contains 15 = false) : XX B X d 68 (15, L, .int x2 :: .int x :: st, M) Q = if x2 ≤ x then XX B X d 68 (34, L, st, M) Q else XX B X d 68 (18, L, st, M) Q := G_bop hB rfl ⟨rfl, rfl, rfl, by decide⟩ rfl rfl rfl rfl
theorem x68_18 (hB : B.contains 18 = false) : XX B X d 68 (18, L, st, M) Q = xl 4 L[0]? (fun v => XX B X d 68 (19, L, v :: st, M) Q) := G_ld hB rfl rfl rfl
theorem x68_19 (hB : B.contains 19 = false) : XX B X d 68 (19, L, st, M) Q = xl 4 L[1]? (fun v => XX B X d 68 (20, L, v :: st, M) Q) := G_ld hB rfl rfl rfl
theorem x68_20 (hB : B.contains 20 = false) : XX B X d 68 (20, L, st, M) Q = xl 0 L[4]? (fun v => XX B X d 68 (22, L, v :: st, M) Q) := G_ld hB rfl rfl rfl
theorem x68_22 {v1 : Value} (hB : B.contains 22 = false) : XX B X (d + 1) 68 (22, L, v1 :: .ref a :: st, M) Q = if mcl M a = some 6 ∧ stw st ≤ 8 then CC X d 61 [.ref a, v1] M (XB B X (d + 1) 68 22 (25, L, st, M) Q) else False := G_virt [v1] hB rfl (by decide) rfl rfl rfl rfl rfl
theorem x68_25 {v1 : Value} (hB : B.contains 25 = false) : XX B X (d + 1) 68 (25, L, v1 :: .ref a :: st, M) Q = if mcl M a = some 6 ∧ stw st ≤ 8 then CC X d 63 [.ref a, v1] M (XB B X (d + 1) 68 25 (28, L, st, M) Q) else False := G_virt [v1] hB rfl (by decide) rfl rfl rfl rfl rfl
theorem x68_28 (hB : B.contains 28 = false) : XX B X d 68 (28, L, st, M) Q = xl 0 L[4]? (fun v => match v with | .int x => if 4 = 0 ∨ wide L[4 - 1]? = false then XX B X d 68 (31, L.set 4 (some (.int (x + Int32.ofInt 1))), st, M) Q else False | _ => False) := G_iinc hB rfl (by decide) rfl rfl
theorem x68_31 (hB : B.contains 31 = false) : XX B X d 68 (31, L, st, M) Q = XX B X d 68 (3, L, st, M) Q := G_jmp hB rfl ⟨rfl, rfl, rfl, by decide⟩ (by cases st with | nil => rfl | cons a t => (cases t <;> rfl)) (by cases st with | nil => rfl | cons a t => (cases t <;> rfl)) rfl
theorem x68_34 (hB : B.contains 34 = false) : XX B X d 68 (34, L, [], M) Q = Q (.inl none) M := G_retv hB rfl (by decide) rfl
-- 69 X6_copyFrom (LRegexTracer$Row;)V
theorem mL_69 : mL 69 = 2 := rfl
theorem x69_0 (hB : B.contains 0 = false) : XX B X d 69 (0, L, st, M) Q = xl 4 L[0]? (fun v => XX B X d 69 (1, L, v :: st, M) Q) := G_ld hB rfl rfl rfl
theorem x69_1 (hB : B.contains 1 = false) : XX B X (d + 1) 69 (1, L, .ref a :: st, M) Q = if mcl M a = some 6 ∧ stw st ≤ 8 then CC X d 67 [.ref a] M (XB B X (d + 1) 69 1 (4, L, st, M) Q) else False := G_virt [] hB rfl (by decide) rfl rfl rfl rfl rfl
theorem x69_4 (hB : B.contains 4 = false) : XX B X d 69 (4, L, st, M) Q = xl 4 L[0]? (fun v => XX B X d 69 (5, L, v :: st, M) Q) := G_ld hB rfl rfl rfl
theorem x69_5 (hB : B.contains 5 = false) : XX B X d 69 (5, L, st, M) Q = xl 4 L[1]? (fun v => XX B X d 69 (6, L, v :: st, M) Q) := G_ld hB rfl rfl rfl
theorem x69_6 (hB : B.contains 6 = false) : XX B X d 69 (6, L, st, M) Q = XX B X d 69 (7, L, .int (Int32.ofInt 0) :: st, M) Q := G_cst hB rfl rfl rfl (by decide) rfl
theorem x69_7 (hB : B.contains 7 = false) : XX B X d 69 (7, L, st, M) Q = xl 4 L[1]? (fun v => XX B X d 69 (8, L, v :: st, M) Q) := G_ld hB rfl rfl rfl
theorem x69_8 (hB : B.contains 8 = false) : XX B X d 69 (8, L, .ref a :: st, M) Q = xg (M.2.2 a) 6 1 (fun v => XX B X d 69 (11, L, v :: st, M) Q) := G_getf hB rfl (by decide) rfl rfl rfl
theorem x69_11 {v1 v2 v3 : Value} (hB : B.contains 11 = false) : XX B X (d + 1) 69 (11, L, v3 :: v2 :: v1 :: .ref a :: st, M) Q = if mcl M a = some 6 ∧ stw st ≤ 8 then CC X d 68 [.ref a, v1, v2, v3] M (XB B X (d + 1) 69 11 (14, L, st, M) Q) else False := G_virt [v1, v2, v3] hB rfl (by decide) rfl rfl rfl rfl rfl
theorem x69_14 (hB : B.contains 14 = false) : XX B X d 69 (14, L, [], M) Q = Q (.inl none) M := G_retv hB rfl (by decide) rfl
end PX21pxrowleantxt
