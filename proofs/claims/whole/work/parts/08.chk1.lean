/-! every row passes -/
theorem cq_48_0 : k_48_0.all (chkI 48) = true := by decide +kernel
theorem ch_48 : (chkH 48 && plainName (own 48) && decide (mL 48 ≤ 13)) = true := by decide +kernel
theorem ck_48 : chkM 48 = true := chk_mk (by rw [show mK 48 = k_48 from rfl, show k_48 = k_48_0 from rfl]; exact cq_48_0) ch_48
theorem cq_49_0 : k_49_0.all (chkI 49) = true := by decide +kernel
theorem ch_49 : (chkH 49 && plainName (own 49) && decide (mL 49 ≤ 13)) = true := by decide +kernel
theorem ck_49 : chkM 49 = true := chk_mk (by rw [show mK 49 = k_49 from rfl, show k_49 = k_49_0 from rfl]; exact cq_49_0) ch_49
theorem cq_50_0 : k_50_0.all (chkI 50) = true := by decide +kernel
theorem ch_50 : (chkH 50 && plainName (own 50) && decide (mL 50 ≤ 13)) = true := by decide +kernel
theorem ck_50 : chkM 50 = true := chk_mk (by rw [show mK 50 = k_50 from rfl, show k_50 = k_50_0 from rfl]; exact cq_50_0) ch_50
theorem cq_51_0 : k_51_0.all (chkI 51) = true := by decide +kernel
theorem ch_51 : (chkH 51 && plainName (own 51) && decide (mL 51 ≤ 13)) = true := by decide +kernel
theorem ck_51 : chkM 51 = true := chk_mk (by rw [show mK 51 = k_51 from rfl, show k_51 = k_51_0 from rfl]; exact cq_51_0) ch_51
theorem cq_52_0 : k_52_0.all (chkI 52) = true := by decide +kernel
theorem ch_52 : (chkH 52 && plainName (own 52) && decide (mL 52 ≤ 13)) = true := by decide +kernel
theorem ck_52 : chkM 52 = true := chk_mk (by rw [show mK 52 = k_52 from rfl, show k_52 = k_52_0 from rfl]; exact cq_52_0) ch_52
theorem cq_53_0 : k_53_0.all (chkI 53) = true := by decide +kernel
theorem ch_53 : (chkH 53 && plainName (own 53) && decide (mL 53 ≤ 13)) = true := by decide +kernel
theorem ck_53 : chkM 53 = true := chk_mk (by rw [show mK 53 = k_53 from rfl, show k_53 = k_53_0 from rfl]; exact cq_53_0) ch_53
theorem cq_54_0 : k_54_0.all (chkI 54) = true := by decide +kernel
theorem ch_54 : (chkH 54 && plainName (own 54) && decide (mL 54 ≤ 13)) = true := by decide +kernel
theorem ck_54 : chkM 54 = true := chk_mk (by rw [show mK 54 = k_54 from rfl, show k_54 = k_54_0 from rfl]; exact cq_54_0) ch_54
theorem cq_55_0 : k_55_0.all (chkI 55) = true := by decide +kernel
theorem ch_55 : (chkH 55 && plainName (own 55) && decide (mL 55 ≤ 13)) = true := by decide +kernel
theorem ck_55 : chkM 55 = true := chk_mk (by rw [show mK 55 = k_55 from rfl, show k_55 = k_55_0 from rfl]; exact cq_55_0) ch_55
theorem cq_56_0 : k_56_0.all (chkI 56) = true := by decide +kernel
theorem cq_56_1 : k_56_1.all (chkI 56) = true := by decide +kernel
theorem ch_56 : (chkH 56 && plainName (own 56) && decide (mL 56 ≤ 13)) = true := by decide +kernel
theorem ck_56 : chkM 56 = true := chk_mk (by rw [show mK 56 = k_56 from rfl]; unfold k_56; simp only [List.all_append, cq_56_0, cq_56_1, Bool.and_self]) ch_56
theorem cq_57_0 : k_57_0.all (chkI 57) = true := by decide +kernel
theorem ch_57 : (chkH 57 && plainName (own 57) && decide (mL 57 ≤ 13)) = true := by decide +kernel
theorem ck_57 : chkM 57 = true := chk_mk (by rw [show mK 57 = k_57 from rfl, show k_57 = k_57_0 from rfl]; exact cq_57_0) ch_57
theorem cq_58_0 : k_58_0.all (chkI 58) = true := by decide +kernel
theorem ch_58 : (chkH 58 && plainName (own 58) && decide (mL 58 ≤ 13)) = true := by decide +kernel
theorem ck_58 : chkM 58 = true := chk_mk (by rw [show mK 58 = k_58 from rfl, show k_58 = k_58_0 from rfl]; exact cq_58_0) ch_58
theorem cq_59_0 : k_59_0.all (chkI 59) = true := by decide +kernel
theorem ch_59 : (chkH 59 && plainName (own 59) && decide (mL 59 ≤ 13)) = true := by decide +kernel
theorem ck_59 : chkM 59 = true := chk_mk (by rw [show mK 59 = k_59 from rfl, show k_59 = k_59_0 from rfl]; exact cq_59_0) ch_59
theorem cq_60_0 : k_60_0.all (chkI 60) = true := by decide +kernel
theorem ch_60 : (chkH 60 && plainName (own 60) && decide (mL 60 ≤ 13)) = true := by decide +kernel
theorem ck_60 : chkM 60 = true := chk_mk (by rw [show mK 60 = k_60 from rfl, show k_60 = k_60_0 from rfl]; exact cq_60_0) ch_60
theorem cq_61_0 : k_61_0.all (chkI 61) = true := by decide +kernel
theorem ch_61 : (chkH 61 && plainName (own 61) && decide (mL 61 ≤ 13)) = true := by decide +kernel
theorem ck_61 : chkM 61 = true := chk_mk (by rw [show mK 61 = k_61 from rfl, show k_61 = k_61_0 from rfl]; exact cq_61_0) ch_61
theorem cq_62_0 : k_62_0.all (chkI 62) = true := by decide +kernel
theorem ch_62 : (chkH 62 && plainName (own 62) && decide (mL 62 ≤ 13)) = true := by decide +kernel
theorem ck_62 : chkM 62 = true := chk_mk (by rw [show mK 62 = k_62 from rfl, show k_62 = k_62_0 from rfl]; exact cq_62_0) ch_62
theorem cq_63_0 : k_63_0.all (chkI 63) = true := by decide +kernel
theorem ch_63 : (chkH 63 && plainName (own 63) && decide (mL 63 ≤ 13)) = true := by decide +kernel
theorem ck_63 : chkM 63 = true := chk_mk (by rw [show mK 63 = k_63 from rfl, show k_63 = k_63_0 from rfl]; exact cq_63_0) ch_63
theorem cq_64_0 : k_64_0.all (chkI 64) = true := by decide +kernel
theorem ch_64 : (chkH 64 && plainName (own 64) && decide (mL 64 ≤ 13)) = true := by decide +kernel
theorem ck_64 : chkM 64 = true := chk_mk (by rw [show mK 64 = k_64 from rfl, show k_64 = k_64_0 from rfl]; exact cq_64_0) ch_64
theorem cq_65_0 : k_65_0.all (chkI 65) = true := by decide +kernel
theorem ch_65 : (chkH 65 && plainName (own 65) && decide (mL 65 ≤ 13)) = true := by decide +kernel
theorem ck_65 : chkM 65 = true := chk_mk (by rw [show mK 65 = k_65 from rfl, show k_65 = k_65_0 from rfl]; exact cq_65_0) ch_65
theorem cq_66_0 : k_66_0.all (chkI 66) = true := by decide +kernel
theorem ch_66 : (chkH 66 && plainName (own 66) && decide (mL 66 ≤ 13)) = true := by decide +kernel
theorem ck_66 : chkM 66 = true := chk_mk (by rw [show mK 66 = k_66 from rfl, show k_66 = k_66_0 from rfl]; exact cq_66_0) ch_66
theorem cq_67_0 : k_67_0.all (chkI 67) = true := by decide +kernel
theorem ch_67 : (chkH 67 && plainName (own 67) && decide (mL 67 ≤ 13)) = true := by decide +kernel
theorem ck_67 : chkM 67 = true := chk_mk (by rw [show mK 67 = k_67 from rfl, show k_67 = k_67_0 from rfl]; exact cq_67_0) ch_67
theorem cq_68_0 : k_68_0.all (chkI 68) = true := by decide +kernel
theorem ch_68 : (chkH 68 && plainName (own 68) && decide (mL 68 ≤ 13)) = true := by decide +kernel
theorem ck_68 : chkM 68 = true := chk_mk (by rw [show mK 68 = k_68 from rfl, show k_68 = k_68_0 from rfl]; exact cq_68_0) ch_68
theorem cq_69_0 : k_69_0.all (chkI 69) = true := by decide +kernel
theorem ch_69 : (chkH 69 && plainName (own 69) && decide (mL 69 ≤ 13)) = true := by decide +kernel
theorem ck_69 : chkM 69 = true := chk_mk (by rw [show mK 69 = k_69 from rfl, show k_69 = k_69_0 from rfl]; exact cq_69_0) ch_69
theorem cq_70_0 : k_70_0.all (chkI 70) = true := by decide +kernel
theorem ch_70 : (chkH 70 && plainName (own 70) && decide (mL 70 ≤ 13)) = true := by decide +kernel
theorem ck_70 : chkM 70 = true := chk_mk (by rw [show mK 70 = k_70 from rfl, show k_70 = k_70_0 from rfl]; exact cq_70_0) ch_70
theorem cq_71_0 : k_71_0.all (chkI 71) = true := by decide +kernel
theorem ch_71 : (chkH 71 && plainName (own 71) && decide (mL 71 ≤ 13)) = true := by decide +kernel
theorem ck_71 : chkM 71 = true := chk_mk (by rw [show mK 71 = k_71 from rfl, show k_71 = k_71_0 from rfl]; exact cq_71_0) ch_71
theorem cq_72_0 : k_72_0.all (chkI 72) = true := by decide +kernel
theorem ch_72 : (chkH 72 && plainName (own 72) && decide (mL 72 ≤ 13)) = true := by decide +kernel
theorem ck_72 : chkM 72 = true := chk_mk (by rw [show mK 72 = k_72 from rfl, show k_72 = k_72_0 from rfl]; exact cq_72_0) ch_72
theorem cq_73_0 : k_73_0.all (chkI 73) = true := by decide +kernel
theorem ch_73 : (chkH 73 && plainName (own 73) && decide (mL 73 ≤ 13)) = true := by decide +kernel
theorem ck_73 : chkM 73 = true := chk_mk (by rw [show mK 73 = k_73 from rfl, show k_73 = k_73_0 from rfl]; exact cq_73_0) ch_73
theorem cq_74_0 : k_74_0.all (chkI 74) = true := by decide +kernel
theorem ch_74 : (chkH 74 && plainName (own 74) && decide (mL 74 ≤ 13)) = true := by decide +kernel
theorem ck_74 : chkM 74 = true := chk_mk (by rw [show mK 74 = k_74 from rfl, show k_74 = k_74_0 from rfl]; exact cq_74_0) ch_74
theorem cq_75_0 : k_75_0.all (chkI 75) = true := by decide +kernel
theorem ch_75 : (chkH 75 && plainName (own 75) && decide (mL 75 ≤ 13)) = true := by decide +kernel
theorem ck_75 : chkM 75 = true := chk_mk (by rw [show mK 75 = k_75 from rfl, show k_75 = k_75_0 from rfl]; exact cq_75_0) ch_75
theorem cq_76_0 : k_76_0.all (chkI 76) = true := by decide +kernel
theorem cq_76_1 : k_76_1.all (chkI 76) = true := by decide +kernel
theorem ch_76 : (chkH 76 && plainName (own 76) && decide (mL 76 ≤ 13)) = true := by decide +kernel
theorem ck_76 : chkM 76 = true := chk_mk (by rw [show mK 76 = k_76 from rfl]; unfold k_76; simp only [List.all_append, cq_76_0, cq_76_1, Bool.and_self]) ch_76
theorem cq_77_0 : k_77_0.all (chkI 77) = true := by decide +kernel
theorem cq_77_1 : k_77_1.all (chkI 77) = true := by decide +kernel
theorem ch_77 : (chkH 77 && plainName (own 77) && decide (mL 77 ≤ 13)) = true := by decide +kernel
theorem ck_77 : chkM 77 = true := chk_mk (by rw [show mK 77 = k_77 from rfl]; unfold k_77; simp only [List.all_append, cq_77_0, cq_77_1, Bool.and_self]) ch_77
theorem cq_78_0 : k_78_0.all (chkI 78) = true := by decide +kernel
theorem cq_78_1 : k_78_1.all (chkI 78) = true := by decide +kernel
theorem ch_78 : (chkH 78 && plainName (own 78) && decide (mL 78 ≤ 13)) = true := by decide +kernel
theorem ck_78 : chkM 78 = true := chk_mk (by rw [show mK 78 = k_78 from rfl]; unfold k_78; simp only [List.all_append, cq_78_0, cq_78_1, Bool.and_self]) ch_78
theorem cq_79_0 : k_79_0.all (chkI 79) = true := by decide +kernel
theorem ch_79 : (chkH 79 && plainName (own 79) && decide (mL 79 ≤ 13)) = true := by decide +kernel
theorem ck_79 : chkM 79 = true := chk_mk (by rw [show mK 79 = k_79 from rfl, show k_79 = k_79_0 from rfl]; exact cq_79_0) ch_79
theorem cq_80_0 : k_80_0.all (chkI 80) = true := by decide +kernel
theorem ch_80 : (chkH 80 && plainName (own 80) && decide (mL 80 ≤ 13)) = true := by decide +kernel
theorem ck_80 : chkM 80 = true := chk_mk (by rw [show mK 80 = k_80 from rfl, show k_80 = k_80_0 from rfl]; exact cq_80_0) ch_80
theorem cq_81_0 : k_81_0.all (chkI 81) = true := by decide +kernel
theorem ch_81 : (chkH 81 && plainName (own 81) && decide (mL 81 ≤ 13)) = true := by decide +kernel
theorem ck_81 : chkM 81 = true := chk_mk (by rw [show mK 81 = k_81 from rfl, show k_81 = k_81_0 from rfl]; exact cq_81_0) ch_81
theorem cq_82_0 : k_82_0.all (chkI 82) = true := by decide +kernel
theorem ch_82 : (chkH 82 && plainName (own 82) && decide (mL 82 ≤ 13)) = true := by decide +kernel
theorem ck_82 : chkM 82 = true := chk_mk (by rw [show mK 82 = k_82 from rfl, show k_82 = k_82_0 from rfl]; exact cq_82_0) ch_82
theorem cq_83_0 : k_83_0.all (chkI 83) = true := by decide +kernel
theorem ch_83 : (chkH 83 && plainName (own 83) && decide (mL 83 ≤ 13)) = true := by decide +kernel
theorem ck_83 : chkM 83 = true := chk_mk (by rw [show mK 83 = k_83 from rfl, show k_83 = k_83_0 from rfl]; exact cq_83_0) ch_83
theorem cq_84_0 : k_84_0.all (chkI 84) = true := by decide +kernel
theorem ch_84 : (chkH 84 && plainName (own 84) && decide (mL 84 ≤ 13)) = true := by decide +kernel
theorem ck_84 : chkM 84 = true := chk_mk (by rw [show mK 84 = k_84 from rfl, show k_84 = k_84_0 from rfl]; exact cq_84_0) ch_84
theorem cq_85_0 : k_85_0.all (chkI 85) = true := by decide +kernel
theorem ch_85 : (chkH 85 && plainName (own 85) && decide (mL 85 ≤ 13)) = true := by decide +kernel
theorem ck_85 : chkM 85 = true := chk_mk (by rw [show mK 85 = k_85 from rfl, show k_85 = k_85_0 from rfl]; exact cq_85_0) ch_85
theorem cq_86_0 : k_86_0.all (chkI 86) = true := by decide +kernel
theorem ch_86 : (chkH 86 && plainName (own 86) && decide (mL 86 ≤ 13)) = true := by decide +kernel
theorem ck_86 : chkM 86 = true := chk_mk (by rw [show mK 86 = k_86 from rfl, show k_86 = k_86_0 from rfl]; exact cq_86_0) ch_86
theorem cq_87_0 : k_87_0.all (chkI 87) = true := by decide +kernel
theorem ch_87 : (chkH 87 && plainName (own 87) && decide (mL 87 ≤ 13)) = true := by decide +kernel
theorem ck_87 : chkM 87 = true := chk_mk (by rw [show mK 87 = k_87 from rfl, show k_87 = k_87_0 from rfl]; exact cq_87_0) ch_87
theorem cq_88_0 : k_88_0.all (chkI 88) = true := by decide +kernel
theorem ch_88 : (chkH 88 && plainName (own 88) && decide (mL 88 ≤ 13)) = true := by decide +kernel
theorem ck_88 : chkM 88 = true := chk_mk (by rw [show mK 88 = k_88 from rfl, show k_88 = k_88_0 from rfl]; exact cq_88_0) ch_88
theorem cq_89_0 : k_89_0.all (chkI 89) = true := by decide +kernel
theorem ch_89 : (chkH 89 && plainName (own 89) && decide (mL 89 ≤ 13)) = true := by decide +kernel
theorem ck_89 : chkM 89 = true := chk_mk (by rw [show mK 89 = k_89 from rfl, show k_89 = k_89_0 from rfl]; exact cq_89_0) ch_89
theorem cq_90_0 : k_90_0.all (chkI 90) = true := by decide +kernel
theorem ch_90 : (chkH 90 && plainName (own 90) && decide (mL 90 ≤ 13)) = true := by decide +kernel
theorem ck_90 : chkM 90 = true := chk_mk (by rw [show mK 90 = k_90 from rfl, show k_90 = k_90_0 from rfl]; exact cq_90_0) ch_90
theorem cq_91_0 : k_91_0.all (chkI 91) = true := by decide +kernel
theorem ch_91 : (chkH 91 && plainName (own 91) && decide (mL 91 ≤ 13)) = true := by decide +kernel
theorem ck_91 : chkM 91 = true := chk_mk (by rw [show mK 91 = k_91 from rfl, show k_91 = k_91_0 from rfl]; exact cq_91_0) ch_91
theorem cq_92_0 : k_92_0.all (chkI 92) = true := by decide +kernel
theorem ch_92 : (chkH 92 && plainName (own 92) && decide (mL 92 ≤ 13)) = true := by decide +kernel
theorem ck_92 : chkM 92 = true := chk_mk (by rw [show mK 92 = k_92 from rfl, show k_92 = k_92_0 from rfl]; exact cq_92_0) ch_92
theorem cq_93_0 : k_93_0.all (chkI 93) = true := by decide +kernel
theorem ch_93 : (chkH 93 && plainName (own 93) && decide (mL 93 ≤ 13)) = true := by decide +kernel
theorem ck_93 : chkM 93 = true := chk_mk (by rw [show mK 93 = k_93 from rfl, show k_93 = k_93_0 from rfl]; exact cq_93_0) ch_93
theorem cq_94_0 : k_94_0.all (chkI 94) = true := by decide +kernel
theorem ch_94 : (chkH 94 && plainName (own 94) && decide (mL 94 ≤ 13)) = true := by decide +kernel
theorem ck_94 : chkM 94 = true := chk_mk (by rw [show mK 94 = k_94 from rfl, show k_94 = k_94_0 from rfl]; exact cq_94_0) ch_94
theorem cq_95_0 : k_95_0.all (chkI 95) = true := by decide +kernel
theorem ch_95 : (chkH 95 && plainName (own 95) && decide (mL 95 ≤ 13)) = true := by decide +kernel
theorem ck_95 : chkM 95 = true := chk_mk (by rw [show mK 95 = k_95 from rfl, show k_95 = k_95_0 from rfl]; exact cq_95_0) ch_95
theorem cq_96_0 : k_96_0.all (chkI 96) = true := by decide +kernel
theorem ch_96 : (chkH 96 && plainName (own 96) && decide (mL 96 ≤ 13)) = true := by decide +kernel
theorem ck_96 : chkM 96 = true := chk_mk (by rw [show mK 96 = k_96 from rfl, show k_96 = k_96_0 from rfl]; exact cq_96_0) ch_96
theorem cq_97_0 : k_97_0.all (chkI 97) = true := by decide +kernel
theorem ch_97 : (chkH 97 && plainName (own 97) && decide (mL 97 ≤ 13)) = true := by decide +kernel
theorem ck_97 : chkM 97 = true := chk_mk (by rw [show mK 97 = k_97 from rfl, show k_97 = k_97_0 from rfl]; exact cq_97_0) ch_97
theorem cq_98_0 : k_98_0.all (chkI 98) = true := by decide +kernel
theorem ch_98 : (chkH 98 && plainName (own 98) && decide (mL 98 ≤ 13)) = true := by decide +kernel
theorem ck_98 : chkM 98 = true := chk_mk (by rw [show mK 98 = k_98 from rfl, show k_98 = k_98_0 from rfl]; exact cq_98_0) ch_98
theorem cq_99_0 : k_99_0.all (chkI 99) = true := by decide +kernel
theorem ch_99 : (chkH 99 && plainName (own 99) && decide (mL 99 ≤ 13)) = true := by decide +kernel
theorem ck_99 : chkM 99 = true := chk_mk (by rw [show mK 99 = k_99 from rfl, show k_99 = k_99_0 from rfl]; exact cq_99_0) ch_99
theorem cq_100_0 : k_100_0.all (chkI 100) = true := by decide +kernel
theorem ch_100 : (chkH 100 && plainName (own 100) && decide (mL 100 ≤ 13)) = true := by decide +kernel
theorem ck_100 : chkM 100 = true := chk_mk (by rw [show mK 100 = k_100 from rfl, show k_100 = k_100_0 from rfl]; exact cq_100_0) ch_100
theorem cq_101_0 : k_101_0.all (chkI 101) = true := by decide +kernel
theorem ch_101 : (chkH 101 && plainName (own 101) && decide (mL 101 ≤ 13)) = true := by decide +kernel
theorem ck_101 : chkM 101 = true := chk_mk (by rw [show mK 101 = k_101 from rfl, show k_101 = k_101_0 from rfl]; exact cq_101_0) ch_101
theorem cq_102_0 : k_102_0.all (chkI 102) = true := by decide +kernel
theorem ch_102 : (chkH 102 && plainName (own 102) && decide (mL 102 ≤ 13)) = true := by decide +kernel
theorem ck_102 : chkM 102 = true := chk_mk (by rw [show mK 102 = k_102 from rfl, show k_102 = k_102_0 from rfl]; exact cq_102_0) ch_102
theorem cq_103_0 : k_103_0.all (chkI 103) = true := by decide +kernel
theorem ch_103 : (chkH 103 && plainName (own 103) && decide (mL 103 ≤ 13)) = true := by decide +kernel
theorem ck_103 : chkM 103 = true := chk_mk (by rw [show mK 103 = k_103 from rfl, show k_103 = k_103_0 from rfl]; exact cq_103_0) ch_103
theorem cq_104_0 : k_104_0.all (chkI 104) = true := by decide +kernel
theorem ch_104 : (chkH 104 && plainName (own 104) && decide (mL 104 ≤ 13)) = true := by decide +kernel
theorem ck_104 : chkM 104 = true := chk_mk (by rw [show mK 104 = k_104 from rfl, show k_104 = k_104_0 from rfl]; exact cq_104_0) ch_104
theorem cq_105_0 : k_105_0.all (chkI 105) = true := by decide +kernel
theorem ch_105 : (chkH 105 && plainName (own 105) && decide (mL 105 ≤ 13)) = true := by decide +kernel
theorem ck_105 : chkM 105 = true := chk_mk (by rw [show mK 105 = k_105 from rfl, show k_105 = k_105_0 from rfl]; exact cq_105_0) ch_105
theorem cq_106_0 : k_106_0.all (chkI 106) = true := by decide +kernel
theorem ch_106 : (chkH 106 && plainName (own 106) && decide (mL 106 ≤ 13)) = true := by decide +kernel
theorem ck_106 : chkM 106 = true := chk_mk (by rw [show mK 106 = k_106 from rfl, show k_106 = k_106_0 from rfl]; exact cq_106_0) ch_106
theorem cq_107_0 : k_107_0.all (chkI 107) = true := by decide +kernel
theorem ch_107 : (chkH 107 && plainName (own 107) && decide (mL 107 ≤ 13)) = true := by decide +kernel
theorem ck_107 : chkM 107 = true := chk_mk (by rw [show mK 107 = k_107 from rfl, show k_107 = k_107_0 from rfl]; exact cq_107_0) ch_107
theorem cq_108_0 : k_108_0.all (chkI 108) = true := by decide +kernel
theorem ch_108 : (chkH 108 && plainName (own 108) && decide (mL 108 ≤ 13)) = true := by decide +kernel
theorem ck_108 : chkM 108 = true := chk_mk (by rw [show mK 108 = k_108 from rfl, show k_108 = k_108_0 from rfl]; exact cq_108_0) ch_108
theorem cq_109_0 : k_109_0.all (chkI 109) = true := by decide +kernel
theorem ch_109 : (chkH 109 && plainName (own 109) && decide (mL 109 ≤ 13)) = true := by decide +kernel
theorem ck_109 : chkM 109 = true := chk_mk (by rw [show mK 109 = k_109 from rfl, show k_109 = k_109_0 from rfl]; exact cq_109_0) ch_109
theorem cq_110_0 : k_110_0.all (chkI 110) = true := by decide +kernel
theorem ch_110 : (chkH 110 && plainName (own 110) && decide (mL 110 ≤ 13)) = true := by decide +kernel
theorem ck_110 : chkM 110 = true := chk_mk (by rw [show mK 110 = k_110 from rfl, show k_110 = k_110_0 from rfl]; exact cq_110_0) ch_110
theorem cq_111_0 : k_111_0.all (chkI 111) = true := by decide +kernel
theorem ch_111 : (chkH 111 && plainName (own 111) && decide (mL 111 ≤ 13)) = true := by decide +kernel
theorem ck_111 : chkM 111 = true := chk_mk (by rw [show mK 111 = k_111 from rfl, show k_111 = k_111_0 from rfl]; exact cq_111_0) ch_111
theorem cq_112_0 : k_112_0.all (chkI 112) = true := by decide +kernel
theorem ch_112 : (chkH 112 && plainName (own 112) && decide (mL 112 ≤ 13)) = true := by decide +kernel
theorem ck_112 : chkM 112 = true := chk_mk (by rw [show mK 112 = k_112 from rfl, show k_112 = k_112_0 from rfl]; exact cq_112_0) ch_112
theorem cq_113_0 : k_113_0.all (chkI 113) = true := by decide +kernel
theorem ch_113 : (chkH 113 && plainName (own 113) && decide (mL 113 ≤ 13)) = true := by decide +kernel
theorem ck_113 : chkM 113 = true := chk_mk (by rw [show mK 113 = k_113 from rfl, show k_113 = k_113_0 from rfl]; exact cq_113_0) ch_113
theorem cq_114_0 : k_114_0.all (chkI 114) = true := by decide +kernel
theorem ch_114 : (chkH 114 && plainName (own 114) && decide (mL 114 ≤ 13)) = true := by decide +kernel
theorem ck_114 : chkM 114 = true := chk_mk (by rw [show mK 114 = k_114 from rfl, show k_114 = k_114_0 from rfl]; exact cq_114_0) ch_114
theorem cq_115_0 : k_115_0.all (chkI 115) = true := by decide +kernel
theorem ch_115 : (chkH 115 && plainName (own 115) && decide (mL 115 ≤ 13)) = true := by decide +kernel
theorem ck_115 : chkM 115 = true := chk_mk (by rw [show mK 115 = k_115 from rfl, show k_115 = k_115_0 from rfl]; exact cq_115_0) ch_115
theorem cq_116_0 : k_116_0.all (chkI 116) = true := by decide +kernel
theorem ch_116 : (chkH 116 && plainName (own 116) && decide (mL 116 ≤ 13)) = true := by decide +kernel
theorem ck_116 : chkM 116 = true := chk_mk (by rw [show mK 116 = k_116 from rfl, show k_116 = k_116_0 from rfl]; exact cq_116_0) ch_116
theorem cq_117_0 : k_117_0.all (chkI 117) = true := by decide +kernel
theorem cq_117_1 : k_117_1.all (chkI 117) = true := by decide +kernel
theorem ch_117 : (chkH 117 && plainName (own 117) && decide (mL 117 ≤ 13)) = true := by decide +kernel
theorem ck_117 : chkM 117 = true := chk_mk (by rw [show mK 117 = k_117 from rfl]; unfold k_117; simp only [List.all_append, cq_117_0, cq_117_1, Bool.and_self]) ch_117
theorem cq_118_0 : k_118_0.all (chkI 118) = true := by decide +kernel
theorem ch_118 : (chkH 118 && plainName (own 118) && decide (mL 118 ≤ 13)) = true := by decide +kernel
theorem ck_118 : chkM 118 = true := chk_mk (by rw [show mK 118 = k_118 from rfl, show k_118 = k_118_0 from rfl]; exact cq_118_0) ch_118
theorem cq_119_0 : k_119_0.all (chkI 119) = true := by decide +kernel
theorem ch_119 : (chkH 119 && plainName (own 119) && decide (mL 119 ≤ 13)) = true := by decide +kernel
theorem ck_119 : chkM 119 = true := chk_mk (by rw [show mK 119 = k_119 from rfl, show k_119 = k_119_0 from rfl]; exact cq_119_0) ch_119
theorem cq_120_0 : k_120_0.all (chkI 120) = true := by decide +kernel
theorem ch_120 : (chkH 120 && plainName (own 120) && decide (mL 120 ≤ 13)) = true := by decide +kernel
theorem ck_120 : chkM 120 = true := chk_mk (by rw [show mK 120 = k_120 from rfl, show k_120 = k_120_0 from rfl]; exact cq_120_0) ch_120
theorem cq_121_0 : k_121_0.all (chkI 121) = true := by decide +kernel
theorem ch_121 : (chkH 121 && plainName (own 121) && decide (mL 121 ≤ 13)) = true := by decide +kernel
theorem ck_121 : chkM 121 = true := chk_mk (by rw [show mK 121 = k_121 from rfl, show k_121 = k_121_0 from rfl]; exact cq_121_0) ch_121
theorem cq_122_0 : k_122_0.all (chkI 122) = true := by decide +kernel
theorem ch_122 : (chkH 122 && plainName (own 122) && decide (mL 122 ≤ 13)) = true := by decide +kernel
theorem ck_122 : chkM 122 = true := chk_mk (by rw [show mK 122 = k_122 from rfl, show k_122 = k_122_0 from rfl]; exact cq_122_0) ch_122
theorem cq_123_0 : k_123_0.all (chkI 123) = true := by decide +kernel
theorem ch_123 : (chkH 123 && plainName (own 123) && decide (mL 123 ≤ 13)) = true := by decide +kernel
theorem ck_123 : chkM 123 = true := chk_mk (by rw [show mK 123 = k_123 from rfl, show k_123 = k_123_0 from rfl]; exact cq_123_0) ch_123
theorem cq_124_0 : k_124_0.all (chkI 124) = true := by decide +kernel
theorem ch_124 : (chkH 124 && plainName (own 124) && decide (mL 124 ≤ 13)) = true := by decide +kernel
theorem ck_124 : chkM 124 = true := chk_mk (by rw [show mK 124 = k_124 from rfl, show k_124 = k_124_0 from rfl]; exact cq_124_0) ch_124
theorem cq_125_0 : k_125_0.all (chkI 125) = true := by decide +kernel
theorem ch_125 : (chkH 125 && plainName (own 125) && decide (mL 125 ≤ 13)) = true := by decide +kernel
theorem ck_125 : chkM 125 = true := chk_mk (by rw [show mK 125 = k_125 from rfl, show k_125 = k_125_0 from rfl]; exact cq_125_0) ch_125
theorem cq_126_0 : k_126_0.all (chkI 126) = true := by decide +kernel
theorem ch_126 : (chkH 126 && plainName (own 126) && decide (mL 126 ≤ 13)) = true := by decide +kernel
theorem ck_126 : chkM 126 = true := chk_mk (by rw [show mK 126 = k_126 from rfl, show k_126 = k_126_0 from rfl]; exact cq_126_0) ch_126
theorem cq_127_0 : k_127_0.all (chkI 127) = true := by decide +kernel
theorem ch_127 : (chkH 127 && plainName (own 127) && decide (mL 127 ≤ 13)) = true := by decide +kernel
theorem ck_127 : chkM 127 = true := chk_mk (by rw [show mK 127 = k_127 from rfl, show k_127 = k_127_0 from rfl]; exact cq_127_0) ch_127
theorem cq_128_0 : k_128_0.all (chkI 128) = true := by decide +kernel
theorem ch_128 : (chkH 128 && plainName (own 128) && decide (mL 128 ≤ 13)) = true := by decide +kernel
theorem ck_128 : chkM 128 = true := chk_mk (by rw [show mK 128 = k_128 from rfl, show k_128 = k_128_0 from rfl]; exact cq_128_0) ch_128
theorem cq_129_0 : k_129_0.all (chkI 129) = true := by decide +kernel
theorem ch_129 : (chkH 129 && plainName (own 129) && decide (mL 129 ≤ 13)) = true := by decide +kernel
theorem ck_129 : chkM 129 = true := chk_mk (by rw [show mK 129 = k_129 from rfl, show k_129 = k_129_0 from rfl]; exact cq_129_0) ch_129
theorem cq_130_0 : k_130_0.all (chkI 130) = true := by decide +kernel
theorem ch_130 : (chkH 130 && plainName (own 130) && decide (mL 130 ≤ 13)) = true := by decide +kernel
theorem ck_130 : chkM 130 = true := chk_mk (by rw [show mK 130 = k_130 from rfl, show k_130 = k_130_0 from rfl]; exact cq_130_0) ch_130
theorem cq_131_0 : k_131_0.all (chkI 131) = true := by decide +kernel
theorem ch_131 : (chkH 131 && plainName (own 131) && decide (mL 131 ≤ 13)) = true := by decide +kernel
theorem ck_131 : chkM 131 = true := chk_mk (by rw [show mK 131 = k_131 from rfl, show k_131 = k_131_0 from rfl]; exact cq_131_0) ch_131
theorem cq_132_0 : k_132_0.all (chkI 132) = true := by decide +kernel
theorem ch_132 : (chkH 132 && plainName (own 132) && decide (mL 132 ≤ 13)) = true := by decide +kernel
theorem ck_132 : chkM 132 = true := chk_mk (by rw [show mK 132 = k_132 from rfl, show k_132 = k_132_0 from rfl]; exact cq_132_0) ch_132
theorem cq_133_0 : k_133_0.all (chkI 133) = true := by decide +kernel
theorem ch_133 : (chkH 133 && plainName (own 133) && decide (mL 133 ≤ 13)) = true := by decide +kernel
theorem ck_133 : chkM 133 = true := chk_mk (by rw [show mK 133 = k_133 from rfl, show k_133 = k_133_0 from rfl]; exact cq_133_0) ch_133
theorem cq_134_0 : k_134_0.all (chkI 134) = true := by decide +kernel
theorem ch_134 : (chkH 134 && plainName (own 134) && decide (mL 134 ≤ 13)) = true := by decide +kernel
theorem ck_134 : chkM 134 = true := chk_mk (by rw [show mK 134 = k_134 from rfl, show k_134 = k_134_0 from rfl]; exact cq_134_0) ch_134
theorem cq_135_0 : k_135_0.all (chkI 135) = true := by decide +kernel
theorem ch_135 : (chkH 135 && plainName (own 135) && decide (mL 135 ≤ 13)) = true := by decide +kernel
theorem ck_135 : chkM 135 = true := chk_mk (by rw [show mK 135 = k_135 from rfl, show k_135 = k_135_0 from rfl]; exact cq_135_0) ch_135
theorem cq_136_0 : k_136_0.all (chkI 136) = true := by decide +kernel
theorem ch_136 : (chkH 136 && plainName (own 136) && decide (mL 136 ≤ 13)) = true := by decide +kernel
theorem ck_136 : chkM 136 = true := chk_mk (by rw [show mK 136 = k_136 from rfl, show k_136 = k_136_0 from rfl]; exact cq_136_0) ch_136
theorem cq_137_0 : k_137_0.all (chkI 137) = true := by decide +kernel
theorem ch_137 : (chkH 137 && plainName (own 137) && decide (mL 137 ≤ 13)) = true := by decide +kernel
theorem ck_137 : chkM 137 = true := chk_mk (by rw [show mK 137 = k_137 from rfl, show k_137 = k_137_0 from rfl]; exact cq_137_0) ch_137
theorem cq_138_0 : k_138_0.all (chkI 138) = true := by decide +kernel
theorem ch_138 : (chkH 138 && plainName (own 138) && decide (mL 138 ≤ 13)) = true := by decide +kernel
theorem ck_138 : chkM 138 = true := chk_mk (by rw [show mK 138 = k_138 from rfl, show k_138 = k_138_0 from rfl]; exact cq_138_0) ch_138
theorem cq_139_0 : k_139_0.all (chkI 139) = true := by decide +kernel
theorem ch_139 : (chkH 139 && plainName (own 139) && decide (mL 139 ≤ 13)) = true := by decide +kernel
theorem ck_139 : chkM 139 = true := chk_mk (by rw [show mK 139 = k_139 from rfl, show k_139 = k_139_0 from rfl]; exact cq_139_0) ch_139
theorem cq_140_0 : k_140_0.all (chkI 140) = true := by decide +kernel
theorem ch_140 : (chkH 140 && plainName (own 140) && decide (mL 140 ≤ 13)) = true := by decide +kernel
theorem ck_140 : chkM 140 = true := chk_mk (by rw [show mK 140 = k_140 from rfl, show k_140 = k_140_0 from rfl]; exact cq_140_0) ch_140
theorem cq_141_0 : k_141_0.all (chkI 141) = true := by decide +kernel
theorem ch_141 : (chkH 141 && plainName (own 141) && decide (mL 141 ≤ 13)) = true := by decide +kernel
theorem ck_141 : chkM 141 = true := chk_mk (by rw [show mK 141 = k_141 from rfl, show k_141 = k_141_0 from rfl]; exact cq_141_0) ch_141
theorem cq_142_0 : k_142_0.all (chkI 142) = true := by decide +kernel
theorem cq_142_1 : k_142_1.all (chkI 142) = true := by decide +kernel
theorem ch_142 : (chkH 142 && plainName (own 142) && decide (mL 142 ≤ 13)) = true := by decide +kernel
theorem ck_142 : chkM 142 = true := chk_mk (by rw [show mK 142 = k_142 from rfl]; unfold k_142; simp only [List.all_append, cq_142_0, cq_142_1, Bool.and_self]) ch_142
theorem cq_143_0 : k_143_0.all (chkI 143) = true := by decide +kernel
theorem ch_143 : (chkH 143 && plainName (own 143) && decide (mL 143 ≤ 13)) = true := by decide +kernel
theorem ck_143 : chkM 143 = true := chk_mk (by rw [show mK 143 = k_143 from rfl, show k_143 = k_143_0 from rfl]; exact cq_143_0) ch_143
theorem cq_144_0 : k_144_0.all (chkI 144) = true := by decide +kernel
theorem ch_144 : (chkH 144 && plainName (own 144) && decide (mL 144 ≤ 13)) = true := by decide +kernel
theorem ck_144 : chkM 144 = true := chk_mk (by rw [show mK 144 = k_144 from rfl, show k_144 = k_144_0 from rfl]; exact cq_144_0) ch_144
theorem cq_145_0 : k_145_0.all (chkI 145) = true := by decide +kernel
theorem ch_145 : (chkH 145 && plainName (own 145) && decide (mL 145 ≤ 13)) = true := by decide +kernel
theorem ck_145 : chkM 145 = true := chk_mk (by rw [show mK 145 = k_145 from rfl, show k_145 = k_145_0 from rfl]; exact cq_145_0) ch_145
theorem cq_146_0 : k_146_0.all (chkI 146) = true := by decide +kernel
theorem ch_146 : (chkH 146 && plainName (own 146) && decide (mL 146 ≤ 13)) = true := by decide +kernel
theorem ck_146 : chkM 146 = true := chk_mk (by rw [show mK 146 = k_146 from rfl, show k_146 = k_146_0 from rfl]; exact cq_146_0) ch_146
theorem cq_147_0 : k_147_0.all (chkI 147) = true := by decide +kernel
theorem ch_147 : (chkH 147 && plainName (own 147) && decide (mL 147 ≤ 13)) = true := by decide +kernel
theorem ck_147 : chkM 147 = true := chk_mk (by rw [show mK 147 = k_147 from rfl, show k_147 = k_147_0 from rfl]; exact cq_147_0) ch_147
theorem cq_148_0 : k_148_0.all (chkI 148) = true := by decide +kernel
theorem ch_148 : (chkH 148 && plainName (own 148) && decide (mL 148 ≤ 13)) = true := by decide +kernel
theorem ck_148 : chkM 148 = true := chk_mk (by rw [show mK 148 = k_148 from rfl, show k_148 = k_148_0 from rfl]; exact cq_148_0) ch_148
theorem cq_149_0 : k_149_0.all (chkI 149) = true := by decide +kernel
theorem ch_149 : (chkH 149 && plainName (own 149) && decide (mL 149 ≤ 13)) = true := by decide +kernel
theorem ck_149 : chkM 149 = true := chk_mk (by rw [show mK 149 = k_149 from rfl, show k_149 = k_149_0 from rfl]; exact cq_149_0) ch_149
theorem cq_150_0 : k_150_0.all (chkI 150) = true := by decide +kernel
theorem ch_150 : (chkH 150 && plainName (own 150) && decide (mL 150 ≤ 13)) = true := by decide +kernel
theorem ck_150 : chkM 150 = true := chk_mk (by rw [show mK 150 = k_150 from rfl, show k_150 = k_150_0 from rfl]; exact cq_150_0) ch_150
theorem cq_151_0 : k_151_0.all (chkI 151) = true := by decide +kernel
theorem ch_151 : (chkH 151 && plainName (own 151) && decide (mL 151 ≤ 13)) = true := by decide +kernel
theorem ck_151 : chkM 151 = true := chk_mk (by rw [show mK 151 = k_151 from rfl, show k_151 = k_151_0 from rfl]; exact cq_151_0) ch_151
theorem cq_152_0 : k_152_0.all (chkI 152) = true := by decide +kernel
theorem ch_152 : (chkH 152 && plainName (own 152) && decide (mL 152 ≤ 13)) = true := by decide +kernel
theorem ck_152 : chkM 152 = true := chk_mk (by rw [show mK 152 = k_152 from rfl, show k_152 = k_152_0 from rfl]; exact cq_152_0) ch_152
theorem cq_153_0 : k_153_0.all (chkI 153) = true := by decide +kernel
theorem ch_153 : (chkH 153 && plainName (own 153) && decide (mL 153 ≤ 13)) = true := by decide +kernel
theorem ck_153 : chkM 153 = true := chk_mk (by rw [show mK 153 = k_153 from rfl, show k_153 = k_153_0 from rfl]; exact cq_153_0) ch_153
theorem cq_154_0 : k_154_0.all (chkI 154) = true := by decide +kernel
theorem ch_154 : (chkH 154 && plainName (own 154) && decide (mL 154 ≤ 13)) = true := by decide +kernel
theorem ck_154 : chkM 154 = true := chk_mk (by rw [show mK 154 = k_154 from rfl, show k_154 = k_154_0 from rfl]; exact cq_154_0) ch_154
theorem cq_155_0 : k_155_0.all (chkI 155) = true := by decide +kernel
theorem cq_155_1 : k_155_1.all (chkI 155) = true := by decide +kernel
theorem ch_155 : (chkH 155 && plainName (own 155) && decide (mL 155 ≤ 13)) = true := by decide +kernel
theorem ck_155 : chkM 155 = true := chk_mk (by rw [show mK 155 = k_155 from rfl]; unfold k_155; simp only [List.all_append, cq_155_0, cq_155_1, Bool.and_self]) ch_155
theorem cq_156_0 : k_156_0.all (chkI 156) = true := by decide +kernel
theorem cq_156_1 : k_156_1.all (chkI 156) = true := by decide +kernel
theorem ch_156 : (chkH 156 && plainName (own 156) && decide (mL 156 ≤ 13)) = true := by decide +kernel
theorem ck_156 : chkM 156 = true := chk_mk (by rw [show mK 156 = k_156 from rfl]; unfold k_156; simp only [List.all_append, cq_156_0, cq_156_1, Bool.and_self]) ch_156
