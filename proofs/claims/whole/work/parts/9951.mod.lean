/-! the reference is made -/
theorem tN {n : Nat} : (n : Int).toNat = n := Int.toNat_natCast n
section MOD2
variable {X : JX} {d : Nat} {M : JM} {Q : JR → JM → Prop} {n k : Nat} {l : List JE} {v0 : Value}
def MI0 : MS := (fun k => if k = 10 then -1 else 0, fun _ _ => 0)
theorem bl_nA {t w : Nat} {f : Nat → Value} : mnew (bl M n l) k (.inl (t, w, f)) = bl M (n + k) (l ++ [.inl (t, w, f)]) := bl_new
theorem bl_nI {w : Nat} {f : Int → Int} : mnew (bl M n l) k (AI w f) = bl M (n + k) (l ++ [AI w f]) := bl_new
theorem bl_nC {w : Nat} {f : Int → Int} : mnew (bl M n l) k (AC w f) = bl M (n + k) (l ++ [AC w f]) := bl_new
theorem bl_nB {w : Nat} {f : Int → Int} : mnew (bl M n l) k (AB w f) = bl M (n + k) (l ++ [AB w f]) := bl_new
theorem bl_nR {t w : Nat} {f : Int → Value} : mnew (bl M n l) k (AR t w f) = bl M (n + k) (l ++ [AR t w f]) := bl_new
theorem bl_nL {w : Nat} {f : Int → Int64} : mnew (bl M n l) k (AL w f) = bl M (n + k) (l ++ [AL w f]) := bl_new
theorem bl_mm {n : Nat} {S : MS} : bl M n (.inr (9, mfl M.1 S) :: mar S) = mm (M.1 + 24, M.2.1 + n, M.2.2) M.1 S := by
  unfold bl mm
  have hl : (mar S).length = 23 := rfl
  simp only [List.length_cons, hl]
  congr 2
  funext b
  by_cases h1 : b = M.1
  · rw [if_pos (by omega), if_pos h1, h1, Nat.sub_self]
    rfl
  · rw [if_neg h1]
    by_cases h2 : M.1 < b ∧ b ≤ M.1 + 23
    · rw [if_pos (by omega), if_pos h2, show b - M.1 = (b - M.1 - 1) + 1 by omega, List.getElem?_cons_succ]
      rfl
    · rw [if_neg (by omega), if_neg h2]
theorem m_init : CC X d 142 [.ref M.1] (mnew M 41 (.inr (9, [.null, .null, .null, .int (ii 0), .int (ii 0), .int (ii 0), .null, .int (ii 0), .null, .int (ii 0), .int (ii 0), .int (ii 0), .int (ii 0), .null, .int (ii 0), .null, .int (ii 0), .int (ii 0), .int (ii 0), .null, .null, .null, .null, .null, .int (ii 0), .int (ii 0), .null, .null, .null, .int (ii 0), .null, .null, .null, .null, .int (ii 0), .int (ii 0), .null, .null, .int (ii 0), .null, .null]))) Q = Q (.inl none) (mm (M.1 + 24, M.2.1 + 29629, M.2.2) M.1 MI0) := by
  rw [mnew_bl, ← bl_mm]
  refine CC_eq ?_ Q
  repeat' (first | (simp (disch := first | assumption | exact wd_n | exact wd_i | exact wd_r | exact ct_r | exact ct_i | exact stB_0 | exact stB_1 | exact stB_2 | exact stB_3 | exact stB_4 | exact stB_5 | exact ct_2 | exact b2i_c _ | exact wd_0 | exact wd_f | omega | ((simp (disch := omega) only [uN_s, uN_n, uA_s, uA_n, up_s, up_n]) <;> omega)) only [x142_0, x142_1, x142_4, x142_5, x142_8, x142_10, x142_13, x142_14, x142_17, x142_19, x142_22, x142_23, x142_26, x142_28, x142_31, x142_32, x142_34, x142_36, x142_39, x142_40, x142_42, x142_44, x142_47, x142_48, x142_49, x142_52, x142_53, x142_56, x142_58, x142_61, x142_62, x142_64, x142_66, x142_69, x142_70, x142_73, x142_75, x142_78, x142_79, x142_82, x142_84, x142_87, x142_88, x142_91, x142_93, x142_96, x142_97, x142_100, x142_102, x142_105, x142_106, x142_109, x142_111, x142_114, x142_115, x142_118, x142_120, x142_123, x142_124, x142_127, x142_129, x142_132, x142_133, x142_136, x142_138, x142_141, x142_142, x142_145, x142_147, x142_150, x142_151, x142_153, x142_155, x142_158, x142_159, x142_162, x142_164, x142_167, x142_168, x142_171, x142_173, x142_176, x142_177, x142_179, x142_181, x142_184, x142_185, x142_187, x142_189, x142_192, x142_193, x142_195, x142_197, x142_200, x142_201, x142_202, x142_204, x142_207, e142, XC_v, XC_s, true_and, and_true, and_self, bq_T, bq_F, yt_s, Bool.false_eq_true, Bool.true_eq_false, bp9_0, bp9_1, bp9_2, bp9_6, bp9_8, bp9_13, bp9_15, bp9_19, bp9_20, bp9_21, bp9_22, bp9_23, bp9_26, bp9_27, bp9_28, bp9_30, bp9_31, bp9_32, bp9_33, bp9_36, bp9_37, bp9_39, bp9_40, bp9_10, bp8_0, bp8_1, bp8_2, bp8_3, bp8_5, bp8_9, bp8_10, bp8_11, bp8_12, bp8_13, bp8_14, bp8_15, bp8_6, bp8_7, bp8_8, bp8_4, bp1_0, bp1_2, bp1_1, bp2_0, bp2_1, bp2_2, bp0_0, bp0_1, bp0_2, bp7_0, bp7_1, bp7_2, bp7_4, bp7_5, bp7_3, bl_1, List.length_cons, List.length_nil, List.length_append, List.cons_append, List.nil_append, Nat.zero_add, Nat.add_assoc, Nat.reduceAdd, tN, bl_nI, bl_nC, bl_nB]) | (refine bq_t (by omega) ?_) | (refine bq_f (by omega) ?_) | fail)
  rfl
end MOD2
