/-! every row passes -/
theorem chk_mk {mid : Nat} (h1 : (mK mid).all (chkI mid) = true) (h2 : (chkH mid && plainName (own mid) && decide (mL mid ≤ 13)) = true) : chkM mid = true := by
  unfold chkM
  rw [h1]
  simpa [Bool.and_assoc] using h2
theorem thr_0 : ((jx_atoms "RegexTracer" (icX 0) (exN 0) (ixX 0) (bxX 0)).filter vx_no).all inT = true := by decide +kernel
theorem thr_1 : ((jx_atoms "RegexTracer" (icX 1) (exN 1) (ixX 1) (bxX 1)).filter vx_no).all inT = true := by decide +kernel
theorem thr_2 : ((jx_atoms "RegexTracer" (icX 2) (exN 2) (ixX 2) (bxX 2)).filter vx_no).all inT = true := by decide +kernel
theorem thr_3 : ((jx_atoms "RegexTracer" (icX 3) (exN 3) (ixX 3) (bxX 3)).filter vx_no).all inT = true := by decide +kernel
theorem thr_4 : ((jx_atoms "RegexTracer" (icX 4) (exN 4) (ixX 4) (bxX 4)).filter vx_no).all inT = true := by decide +kernel
theorem cq_0_0 : k_0_0.all (chkI 0) = true := by decide +kernel
theorem cq_0_1 : k_0_1.all (chkI 0) = true := by decide +kernel
theorem cq_0_2 : k_0_2.all (chkI 0) = true := by decide +kernel
theorem cq_0_3 : k_0_3.all (chkI 0) = true := by decide +kernel
theorem cq_0_4 : k_0_4.all (chkI 0) = true := by decide +kernel
theorem cq_0_5 : k_0_5.all (chkI 0) = true := by decide +kernel
theorem cq_0_6 : k_0_6.all (chkI 0) = true := by decide +kernel
theorem cq_0_7 : k_0_7.all (chkI 0) = true := by decide +kernel
theorem cq_0_8 : k_0_8.all (chkI 0) = true := by decide +kernel
theorem cq_0_9 : k_0_9.all (chkI 0) = true := by decide +kernel
theorem cq_0_10 : k_0_10.all (chkI 0) = true := by decide +kernel
theorem cq_0_11 : k_0_11.all (chkI 0) = true := by decide +kernel
theorem cq_0_12 : k_0_12.all (chkI 0) = true := by decide +kernel
theorem cq_0_13 : k_0_13.all (chkI 0) = true := by decide +kernel
theorem cq_0_14 : k_0_14.all (chkI 0) = true := by decide +kernel
theorem cq_0_15 : k_0_15.all (chkI 0) = true := by decide +kernel
theorem cq_0_16 : k_0_16.all (chkI 0) = true := by decide +kernel
theorem cq_0_17 : k_0_17.all (chkI 0) = true := by decide +kernel
theorem cq_0_18 : k_0_18.all (chkI 0) = true := by decide +kernel
theorem cq_0_19 : k_0_19.all (chkI 0) = true := by decide +kernel
theorem cq_0_20 : k_0_20.all (chkI 0) = true := by decide +kernel
theorem cq_0_21 : k_0_21.all (chkI 0) = true := by decide +kernel
theorem cq_0_22 : k_0_22.all (chkI 0) = true := by decide +kernel
theorem cq_0_23 : k_0_23.all (chkI 0) = true := by decide +kernel
theorem cq_0_24 : k_0_24.all (chkI 0) = true := by decide +kernel
theorem cq_0_25 : k_0_25.all (chkI 0) = true := by decide +kernel
theorem ch_0 : (chkH 0 && plainName (own 0) && decide (mL 0 ≤ 13)) = true := by decide +kernel
theorem ck_0 : chkM 0 = true := chk_mk (by rw [show mK 0 = k_0 from rfl]; unfold k_0; simp only [List.all_append, cq_0_0, cq_0_1, cq_0_2, cq_0_3, cq_0_4, cq_0_5, cq_0_6, cq_0_7, cq_0_8, cq_0_9, cq_0_10, cq_0_11, cq_0_12, cq_0_13, cq_0_14, cq_0_15, cq_0_16, cq_0_17, cq_0_18, cq_0_19, cq_0_20, cq_0_21, cq_0_22, cq_0_23, cq_0_24, cq_0_25, Bool.and_self]) ch_0
theorem cq_1_0 : k_1_0.all (chkI 1) = true := by decide +kernel
theorem ch_1 : (chkH 1 && plainName (own 1) && decide (mL 1 ≤ 13)) = true := by decide +kernel
theorem ck_1 : chkM 1 = true := chk_mk (by rw [show mK 1 = k_1 from rfl, show k_1 = k_1_0 from rfl]; exact cq_1_0) ch_1
theorem cq_2_0 : k_2_0.all (chkI 2) = true := by decide +kernel
theorem ch_2 : (chkH 2 && plainName (own 2) && decide (mL 2 ≤ 13)) = true := by decide +kernel
theorem ck_2 : chkM 2 = true := chk_mk (by rw [show mK 2 = k_2 from rfl, show k_2 = k_2_0 from rfl]; exact cq_2_0) ch_2
theorem cq_3_0 : k_3_0.all (chkI 3) = true := by decide +kernel
theorem ch_3 : (chkH 3 && plainName (own 3) && decide (mL 3 ≤ 13)) = true := by decide +kernel
theorem ck_3 : chkM 3 = true := chk_mk (by rw [show mK 3 = k_3 from rfl, show k_3 = k_3_0 from rfl]; exact cq_3_0) ch_3
theorem cq_4_0 : k_4_0.all (chkI 4) = true := by decide +kernel
theorem ch_4 : (chkH 4 && plainName (own 4) && decide (mL 4 ≤ 13)) = true := by decide +kernel
theorem ck_4 : chkM 4 = true := chk_mk (by rw [show mK 4 = k_4 from rfl, show k_4 = k_4_0 from rfl]; exact cq_4_0) ch_4
theorem cq_5_0 : k_5_0.all (chkI 5) = true := by decide +kernel
theorem ch_5 : (chkH 5 && plainName (own 5) && decide (mL 5 ≤ 13)) = true := by decide +kernel
theorem ck_5 : chkM 5 = true := chk_mk (by rw [show mK 5 = k_5 from rfl, show k_5 = k_5_0 from rfl]; exact cq_5_0) ch_5
theorem cq_6_0 : k_6_0.all (chkI 6) = true := by decide +kernel
theorem ch_6 : (chkH 6 && plainName (own 6) && decide (mL 6 ≤ 13)) = true := by decide +kernel
theorem ck_6 : chkM 6 = true := chk_mk (by rw [show mK 6 = k_6 from rfl, show k_6 = k_6_0 from rfl]; exact cq_6_0) ch_6
theorem cq_7_0 : k_7_0.all (chkI 7) = true := by decide +kernel
theorem ch_7 : (chkH 7 && plainName (own 7) && decide (mL 7 ≤ 13)) = true := by decide +kernel
theorem ck_7 : chkM 7 = true := chk_mk (by rw [show mK 7 = k_7 from rfl, show k_7 = k_7_0 from rfl]; exact cq_7_0) ch_7
theorem cq_8_0 : k_8_0.all (chkI 8) = true := by decide +kernel
theorem ch_8 : (chkH 8 && plainName (own 8) && decide (mL 8 ≤ 13)) = true := by decide +kernel
theorem ck_8 : chkM 8 = true := chk_mk (by rw [show mK 8 = k_8 from rfl, show k_8 = k_8_0 from rfl]; exact cq_8_0) ch_8
theorem cq_9_0 : k_9_0.all (chkI 9) = true := by decide +kernel
theorem cq_9_1 : k_9_1.all (chkI 9) = true := by decide +kernel
theorem ch_9 : (chkH 9 && plainName (own 9) && decide (mL 9 ≤ 13)) = true := by decide +kernel
theorem ck_9 : chkM 9 = true := chk_mk (by rw [show mK 9 = k_9 from rfl]; unfold k_9; simp only [List.all_append, cq_9_0, cq_9_1, Bool.and_self]) ch_9
theorem cq_10_0 : k_10_0.all (chkI 10) = true := by decide +kernel
theorem cq_10_1 : k_10_1.all (chkI 10) = true := by decide +kernel
theorem ch_10 : (chkH 10 && plainName (own 10) && decide (mL 10 ≤ 13)) = true := by decide +kernel
theorem ck_10 : chkM 10 = true := chk_mk (by rw [show mK 10 = k_10 from rfl]; unfold k_10; simp only [List.all_append, cq_10_0, cq_10_1, Bool.and_self]) ch_10
theorem cq_11_0 : k_11_0.all (chkI 11) = true := by decide +kernel
theorem ch_11 : (chkH 11 && plainName (own 11) && decide (mL 11 ≤ 13)) = true := by decide +kernel
theorem ck_11 : chkM 11 = true := chk_mk (by rw [show mK 11 = k_11 from rfl, show k_11 = k_11_0 from rfl]; exact cq_11_0) ch_11
theorem cq_12_0 : k_12_0.all (chkI 12) = true := by decide +kernel
theorem ch_12 : (chkH 12 && plainName (own 12) && decide (mL 12 ≤ 13)) = true := by decide +kernel
theorem ck_12 : chkM 12 = true := chk_mk (by rw [show mK 12 = k_12 from rfl, show k_12 = k_12_0 from rfl]; exact cq_12_0) ch_12
theorem cq_13_0 : k_13_0.all (chkI 13) = true := by decide +kernel
theorem ch_13 : (chkH 13 && plainName (own 13) && decide (mL 13 ≤ 13)) = true := by decide +kernel
theorem ck_13 : chkM 13 = true := chk_mk (by rw [show mK 13 = k_13 from rfl, show k_13 = k_13_0 from rfl]; exact cq_13_0) ch_13
theorem cq_14_0 : k_14_0.all (chkI 14) = true := by decide +kernel
theorem ch_14 : (chkH 14 && plainName (own 14) && decide (mL 14 ≤ 13)) = true := by decide +kernel
theorem ck_14 : chkM 14 = true := chk_mk (by rw [show mK 14 = k_14 from rfl, show k_14 = k_14_0 from rfl]; exact cq_14_0) ch_14
theorem cq_15_0 : k_15_0.all (chkI 15) = true := by decide +kernel
theorem ch_15 : (chkH 15 && plainName (own 15) && decide (mL 15 ≤ 13)) = true := by decide +kernel
theorem ck_15 : chkM 15 = true := chk_mk (by rw [show mK 15 = k_15 from rfl, show k_15 = k_15_0 from rfl]; exact cq_15_0) ch_15
theorem cq_16_0 : k_16_0.all (chkI 16) = true := by decide +kernel
theorem ch_16 : (chkH 16 && plainName (own 16) && decide (mL 16 ≤ 13)) = true := by decide +kernel
theorem ck_16 : chkM 16 = true := chk_mk (by rw [show mK 16 = k_16 from rfl, show k_16 = k_16_0 from rfl]; exact cq_16_0) ch_16
theorem cq_17_0 : k_17_0.all (chkI 17) = true := by decide +kernel
theorem ch_17 : (chkH 17 && plainName (own 17) && decide (mL 17 ≤ 13)) = true := by decide +kernel
theorem ck_17 : chkM 17 = true := chk_mk (by rw [show mK 17 = k_17 from rfl, show k_17 = k_17_0 from rfl]; exact cq_17_0) ch_17
theorem cq_18_0 : k_18_0.all (chkI 18) = true := by decide +kernel
theorem ch_18 : (chkH 18 && plainName (own 18) && decide (mL 18 ≤ 13)) = true := by decide +kernel
theorem ck_18 : chkM 18 = true := chk_mk (by rw [show mK 18 = k_18 from rfl, show k_18 = k_18_0 from rfl]; exact cq_18_0) ch_18
theorem cq_19_0 : k_19_0.all (chkI 19) = true := by decide +kernel
theorem ch_19 : (chkH 19 && plainName (own 19) && decide (mL 19 ≤ 13)) = true := by decide +kernel
theorem ck_19 : chkM 19 = true := chk_mk (by rw [show mK 19 = k_19 from rfl, show k_19 = k_19_0 from rfl]; exact cq_19_0) ch_19
theorem cq_20_0 : k_20_0.all (chkI 20) = true := by decide +kernel
theorem ch_20 : (chkH 20 && plainName (own 20) && decide (mL 20 ≤ 13)) = true := by decide +kernel
theorem ck_20 : chkM 20 = true := chk_mk (by rw [show mK 20 = k_20 from rfl, show k_20 = k_20_0 from rfl]; exact cq_20_0) ch_20
theorem cq_21_0 : k_21_0.all (chkI 21) = true := by decide +kernel
theorem ch_21 : (chkH 21 && plainName (own 21) && decide (mL 21 ≤ 13)) = true := by decide +kernel
theorem ck_21 : chkM 21 = true := chk_mk (by rw [show mK 21 = k_21 from rfl, show k_21 = k_21_0 from rfl]; exact cq_21_0) ch_21
theorem cq_22_0 : k_22_0.all (chkI 22) = true := by decide +kernel
theorem ch_22 : (chkH 22 && plainName (own 22) && decide (mL 22 ≤ 13)) = true := by decide +kernel
theorem ck_22 : chkM 22 = true := chk_mk (by rw [show mK 22 = k_22 from rfl, show k_22 = k_22_0 from rfl]; exact cq_22_0) ch_22
theorem cq_23_0 : k_23_0.all (chkI 23) = true := by decide +kernel
theorem ch_23 : (chkH 23 && plainName (own 23) && decide (mL 23 ≤ 13)) = true := by decide +kernel
theorem ck_23 : chkM 23 = true := chk_mk (by rw [show mK 23 = k_23 from rfl, show k_23 = k_23_0 from rfl]; exact cq_23_0) ch_23
theorem cq_24_0 : k_24_0.all (chkI 24) = true := by decide +kernel
theorem ch_24 : (chkH 24 && plainName (own 24) && decide (mL 24 ≤ 13)) = true := by decide +kernel
theorem ck_24 : chkM 24 = true := chk_mk (by rw [show mK 24 = k_24 from rfl, show k_24 = k_24_0 from rfl]; exact cq_24_0) ch_24
theorem cq_25_0 : k_25_0.all (chkI 25) = true := by decide +kernel
theorem ch_25 : (chkH 25 && plainName (own 25) && decide (mL 25 ≤ 13)) = true := by decide +kernel
theorem ck_25 : chkM 25 = true := chk_mk (by rw [show mK 25 = k_25 from rfl, show k_25 = k_25_0 from rfl]; exact cq_25_0) ch_25
theorem cq_26_0 : k_26_0.all (chkI 26) = true := by decide +kernel
theorem ch_26 : (chkH 26 && plainName (own 26) && decide (mL 26 ≤ 13)) = true := by decide +kernel
theorem ck_26 : chkM 26 = true := chk_mk (by rw [show mK 26 = k_26 from rfl, show k_26 = k_26_0 from rfl]; exact cq_26_0) ch_26
theorem cq_27_0 : k_27_0.all (chkI 27) = true := by decide +kernel
theorem ch_27 : (chkH 27 && plainName (own 27) && decide (mL 27 ≤ 13)) = true := by decide +kernel
theorem ck_27 : chkM 27 = true := chk_mk (by rw [show mK 27 = k_27 from rfl, show k_27 = k_27_0 from rfl]; exact cq_27_0) ch_27
theorem cq_28_0 : k_28_0.all (chkI 28) = true := by decide +kernel
theorem ch_28 : (chkH 28 && plainName (own 28) && decide (mL 28 ≤ 13)) = true := by decide +kernel
theorem ck_28 : chkM 28 = true := chk_mk (by rw [show mK 28 = k_28 from rfl, show k_28 = k_28_0 from rfl]; exact cq_28_0) ch_28
theorem cq_29_0 : k_29_0.all (chkI 29) = true := by decide +kernel
theorem ch_29 : (chkH 29 && plainName (own 29) && decide (mL 29 ≤ 13)) = true := by decide +kernel
theorem ck_29 : chkM 29 = true := chk_mk (by rw [show mK 29 = k_29 from rfl, show k_29 = k_29_0 from rfl]; exact cq_29_0) ch_29
theorem cq_30_0 : k_30_0.all (chkI 30) = true := by decide +kernel
theorem ch_30 : (chkH 30 && plainName (own 30) && decide (mL 30 ≤ 13)) = true := by decide +kernel
theorem ck_30 : chkM 30 = true := chk_mk (by rw [show mK 30 = k_30 from rfl, show k_30 = k_30_0 from rfl]; exact cq_30_0) ch_30
theorem cq_31_0 : k_31_0.all (chkI 31) = true := by decide +kernel
theorem ch_31 : (chkH 31 && plainName (own 31) && decide (mL 31 ≤ 13)) = true := by decide +kernel
theorem ck_31 : chkM 31 = true := chk_mk (by rw [show mK 31 = k_31 from rfl, show k_31 = k_31_0 from rfl]; exact cq_31_0) ch_31
theorem cq_32_0 : k_32_0.all (chkI 32) = true := by decide +kernel
theorem ch_32 : (chkH 32 && plainName (own 32) && decide (mL 32 ≤ 13)) = true := by decide +kernel
theorem ck_32 : chkM 32 = true := chk_mk (by rw [show mK 32 = k_32 from rfl, show k_32 = k_32_0 from rfl]; exact cq_32_0) ch_32
theorem cq_33_0 : k_33_0.all (chkI 33) = true := by decide +kernel
theorem ch_33 : (chkH 33 && plainName (own 33) && decide (mL 33 ≤ 13)) = true := by decide +kernel
theorem ck_33 : chkM 33 = true := chk_mk (by rw [show mK 33 = k_33 from rfl, show k_33 = k_33_0 from rfl]; exact cq_33_0) ch_33
theorem cq_34_0 : k_34_0.all (chkI 34) = true := by decide +kernel
theorem ch_34 : (chkH 34 && plainName (own 34) && decide (mL 34 ≤ 13)) = true := by decide +kernel
theorem ck_34 : chkM 34 = true := chk_mk (by rw [show mK 34 = k_34 from rfl, show k_34 = k_34_0 from rfl]; exact cq_34_0) ch_34
theorem cq_35_0 : k_35_0.all (chkI 35) = true := by decide +kernel
theorem ch_35 : (chkH 35 && plainName (own 35) && decide (mL 35 ≤ 13)) = true := by decide +kernel
theorem ck_35 : chkM 35 = true := chk_mk (by rw [show mK 35 = k_35 from rfl, show k_35 = k_35_0 from rfl]; exact cq_35_0) ch_35
theorem cq_36_0 : k_36_0.all (chkI 36) = true := by decide +kernel
theorem ch_36 : (chkH 36 && plainName (own 36) && decide (mL 36 ≤ 13)) = true := by decide +kernel
theorem ck_36 : chkM 36 = true := chk_mk (by rw [show mK 36 = k_36 from rfl, show k_36 = k_36_0 from rfl]; exact cq_36_0) ch_36
theorem cq_37_0 : k_37_0.all (chkI 37) = true := by decide +kernel
theorem ch_37 : (chkH 37 && plainName (own 37) && decide (mL 37 ≤ 13)) = true := by decide +kernel
theorem ck_37 : chkM 37 = true := chk_mk (by rw [show mK 37 = k_37 from rfl, show k_37 = k_37_0 from rfl]; exact cq_37_0) ch_37
theorem cq_38_0 : k_38_0.all (chkI 38) = true := by decide +kernel
theorem ch_38 : (chkH 38 && plainName (own 38) && decide (mL 38 ≤ 13)) = true := by decide +kernel
theorem ck_38 : chkM 38 = true := chk_mk (by rw [show mK 38 = k_38 from rfl, show k_38 = k_38_0 from rfl]; exact cq_38_0) ch_38
theorem cq_39_0 : k_39_0.all (chkI 39) = true := by decide +kernel
theorem ch_39 : (chkH 39 && plainName (own 39) && decide (mL 39 ≤ 13)) = true := by decide +kernel
theorem ck_39 : chkM 39 = true := chk_mk (by rw [show mK 39 = k_39 from rfl, show k_39 = k_39_0 from rfl]; exact cq_39_0) ch_39
theorem cq_40_0 : k_40_0.all (chkI 40) = true := by decide +kernel
theorem ch_40 : (chkH 40 && plainName (own 40) && decide (mL 40 ≤ 13)) = true := by decide +kernel
theorem ck_40 : chkM 40 = true := chk_mk (by rw [show mK 40 = k_40 from rfl, show k_40 = k_40_0 from rfl]; exact cq_40_0) ch_40
theorem cq_41_0 : k_41_0.all (chkI 41) = true := by decide +kernel
theorem ch_41 : (chkH 41 && plainName (own 41) && decide (mL 41 ≤ 13)) = true := by decide +kernel
theorem ck_41 : chkM 41 = true := chk_mk (by rw [show mK 41 = k_41 from rfl, show k_41 = k_41_0 from rfl]; exact cq_41_0) ch_41
theorem cq_42_0 : k_42_0.all (chkI 42) = true := by decide +kernel
theorem cq_42_1 : k_42_1.all (chkI 42) = true := by decide +kernel
theorem ch_42 : (chkH 42 && plainName (own 42) && decide (mL 42 ≤ 13)) = true := by decide +kernel
theorem ck_42 : chkM 42 = true := chk_mk (by rw [show mK 42 = k_42 from rfl]; unfold k_42; simp only [List.all_append, cq_42_0, cq_42_1, Bool.and_self]) ch_42
theorem cq_43_0 : k_43_0.all (chkI 43) = true := by decide +kernel
theorem ch_43 : (chkH 43 && plainName (own 43) && decide (mL 43 ≤ 13)) = true := by decide +kernel
theorem ck_43 : chkM 43 = true := chk_mk (by rw [show mK 43 = k_43 from rfl, show k_43 = k_43_0 from rfl]; exact cq_43_0) ch_43
theorem cq_44_0 : k_44_0.all (chkI 44) = true := by decide +kernel
theorem ch_44 : (chkH 44 && plainName (own 44) && decide (mL 44 ≤ 13)) = true := by decide +kernel
theorem ck_44 : chkM 44 = true := chk_mk (by rw [show mK 44 = k_44 from rfl, show k_44 = k_44_0 from rfl]; exact cq_44_0) ch_44
theorem cq_45_0 : k_45_0.all (chkI 45) = true := by decide +kernel
theorem ch_45 : (chkH 45 && plainName (own 45) && decide (mL 45 ≤ 13)) = true := by decide +kernel
theorem ck_45 : chkM 45 = true := chk_mk (by rw [show mK 45 = k_45 from rfl, show k_45 = k_45_0 from rfl]; exact cq_45_0) ch_45
theorem cq_46_0 : k_46_0.all (chkI 46) = true := by decide +kernel
theorem ch_46 : (chkH 46 && plainName (own 46) && decide (mL 46 ≤ 13)) = true := by decide +kernel
theorem ck_46 : chkM 46 = true := chk_mk (by rw [show mK 46 = k_46 from rfl, show k_46 = k_46_0 from rfl]; exact cq_46_0) ch_46
theorem cq_47_0 : k_47_0.all (chkI 47) = true := by decide +kernel
theorem ch_47 : (chkH 47 && plainName (own 47) && decide (mL 47 ≤ 13)) = true := by decide +kernel
theorem ck_47 : chkM 47 = true := chk_mk (by rw [show mK 47 = k_47 from rfl, show k_47 = k_47_0 from rfl]; exact cq_47_0) ch_47
