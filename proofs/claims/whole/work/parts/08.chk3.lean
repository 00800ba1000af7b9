/-! every row passes -/
theorem cq_233_0 : k_233_0.all (chkI 233) = true := by decide +kernel
theorem ch_233 : (chkH 233 && plainName (own 233) && decide (mL 233 ≤ 13)) = true := by decide +kernel
theorem ck_233 : chkM 233 = true := chk_mk (by rw [show mK 233 = k_233 from rfl, show k_233 = k_233_0 from rfl]; exact cq_233_0) ch_233
theorem cq_234_0 : k_234_0.all (chkI 234) = true := by decide +kernel
theorem ch_234 : (chkH 234 && plainName (own 234) && decide (mL 234 ≤ 13)) = true := by decide +kernel
theorem ck_234 : chkM 234 = true := chk_mk (by rw [show mK 234 = k_234 from rfl, show k_234 = k_234_0 from rfl]; exact cq_234_0) ch_234
theorem cq_235_0 : k_235_0.all (chkI 235) = true := by decide +kernel
theorem ch_235 : (chkH 235 && plainName (own 235) && decide (mL 235 ≤ 13)) = true := by decide +kernel
theorem ck_235 : chkM 235 = true := chk_mk (by rw [show mK 235 = k_235 from rfl, show k_235 = k_235_0 from rfl]; exact cq_235_0) ch_235
theorem cq_236_0 : k_236_0.all (chkI 236) = true := by decide +kernel
theorem ch_236 : (chkH 236 && plainName (own 236) && decide (mL 236 ≤ 13)) = true := by decide +kernel
theorem ck_236 : chkM 236 = true := chk_mk (by rw [show mK 236 = k_236 from rfl, show k_236 = k_236_0 from rfl]; exact cq_236_0) ch_236
theorem cq_237_0 : k_237_0.all (chkI 237) = true := by decide +kernel
theorem ch_237 : (chkH 237 && plainName (own 237) && decide (mL 237 ≤ 13)) = true := by decide +kernel
theorem ck_237 : chkM 237 = true := chk_mk (by rw [show mK 237 = k_237 from rfl, show k_237 = k_237_0 from rfl]; exact cq_237_0) ch_237
theorem cq_238_0 : k_238_0.all (chkI 238) = true := by decide +kernel
theorem ch_238 : (chkH 238 && plainName (own 238) && decide (mL 238 ≤ 13)) = true := by decide +kernel
theorem ck_238 : chkM 238 = true := chk_mk (by rw [show mK 238 = k_238 from rfl, show k_238 = k_238_0 from rfl]; exact cq_238_0) ch_238
theorem cq_239_0 : k_239_0.all (chkI 239) = true := by decide +kernel
theorem ch_239 : (chkH 239 && plainName (own 239) && decide (mL 239 ≤ 13)) = true := by decide +kernel
theorem ck_239 : chkM 239 = true := chk_mk (by rw [show mK 239 = k_239 from rfl, show k_239 = k_239_0 from rfl]; exact cq_239_0) ch_239
theorem cq_240_0 : k_240_0.all (chkI 240) = true := by decide +kernel
theorem ch_240 : (chkH 240 && plainName (own 240) && decide (mL 240 ≤ 13)) = true := by decide +kernel
theorem ck_240 : chkM 240 = true := chk_mk (by rw [show mK 240 = k_240 from rfl, show k_240 = k_240_0 from rfl]; exact cq_240_0) ch_240
theorem cq_241_0 : k_241_0.all (chkI 241) = true := by decide +kernel
theorem ch_241 : (chkH 241 && plainName (own 241) && decide (mL 241 ≤ 13)) = true := by decide +kernel
theorem ck_241 : chkM 241 = true := chk_mk (by rw [show mK 241 = k_241 from rfl, show k_241 = k_241_0 from rfl]; exact cq_241_0) ch_241
theorem cq_242_0 : k_242_0.all (chkI 242) = true := by decide +kernel
theorem ch_242 : (chkH 242 && plainName (own 242) && decide (mL 242 ≤ 13)) = true := by decide +kernel
theorem ck_242 : chkM 242 = true := chk_mk (by rw [show mK 242 = k_242 from rfl, show k_242 = k_242_0 from rfl]; exact cq_242_0) ch_242
theorem cq_243_0 : k_243_0.all (chkI 243) = true := by decide +kernel
theorem ch_243 : (chkH 243 && plainName (own 243) && decide (mL 243 ≤ 13)) = true := by decide +kernel
theorem ck_243 : chkM 243 = true := chk_mk (by rw [show mK 243 = k_243 from rfl, show k_243 = k_243_0 from rfl]; exact cq_243_0) ch_243
theorem cq_244_0 : k_244_0.all (chkI 244) = true := by decide +kernel
theorem ch_244 : (chkH 244 && plainName (own 244) && decide (mL 244 ≤ 13)) = true := by decide +kernel
theorem ck_244 : chkM 244 = true := chk_mk (by rw [show mK 244 = k_244 from rfl, show k_244 = k_244_0 from rfl]; exact cq_244_0) ch_244
theorem cq_245_0 : k_245_0.all (chkI 245) = true := by decide +kernel
theorem ch_245 : (chkH 245 && plainName (own 245) && decide (mL 245 ≤ 13)) = true := by decide +kernel
theorem ck_245 : chkM 245 = true := chk_mk (by rw [show mK 245 = k_245 from rfl, show k_245 = k_245_0 from rfl]; exact cq_245_0) ch_245
theorem cq_246_0 : k_246_0.all (chkI 246) = true := by decide +kernel
theorem ch_246 : (chkH 246 && plainName (own 246) && decide (mL 246 ≤ 13)) = true := by decide +kernel
theorem ck_246 : chkM 246 = true := chk_mk (by rw [show mK 246 = k_246 from rfl, show k_246 = k_246_0 from rfl]; exact cq_246_0) ch_246
theorem cq_247_0 : k_247_0.all (chkI 247) = true := by decide +kernel
theorem ch_247 : (chkH 247 && plainName (own 247) && decide (mL 247 ≤ 13)) = true := by decide +kernel
theorem ck_247 : chkM 247 = true := chk_mk (by rw [show mK 247 = k_247 from rfl, show k_247 = k_247_0 from rfl]; exact cq_247_0) ch_247
theorem cq_248_0 : k_248_0.all (chkI 248) = true := by decide +kernel
theorem ch_248 : (chkH 248 && plainName (own 248) && decide (mL 248 ≤ 13)) = true := by decide +kernel
theorem ck_248 : chkM 248 = true := chk_mk (by rw [show mK 248 = k_248 from rfl, show k_248 = k_248_0 from rfl]; exact cq_248_0) ch_248
theorem cq_249_0 : k_249_0.all (chkI 249) = true := by decide +kernel
theorem ch_249 : (chkH 249 && plainName (own 249) && decide (mL 249 ≤ 13)) = true := by decide +kernel
theorem ck_249 : chkM 249 = true := chk_mk (by rw [show mK 249 = k_249 from rfl, show k_249 = k_249_0 from rfl]; exact cq_249_0) ch_249
theorem cq_250_0 : k_250_0.all (chkI 250) = true := by decide +kernel
theorem ch_250 : (chkH 250 && plainName (own 250) && decide (mL 250 ≤ 13)) = true := by decide +kernel
theorem ck_250 : chkM 250 = true := chk_mk (by rw [show mK 250 = k_250 from rfl, show k_250 = k_250_0 from rfl]; exact cq_250_0) ch_250
theorem cq_251_0 : k_251_0.all (chkI 251) = true := by decide +kernel
theorem ch_251 : (chkH 251 && plainName (own 251) && decide (mL 251 ≤ 13)) = true := by decide +kernel
theorem ck_251 : chkM 251 = true := chk_mk (by rw [show mK 251 = k_251 from rfl, show k_251 = k_251_0 from rfl]; exact cq_251_0) ch_251
theorem cq_252_0 : k_252_0.all (chkI 252) = true := by decide +kernel
theorem ch_252 : (chkH 252 && plainName (own 252) && decide (mL 252 ≤ 13)) = true := by decide +kernel
theorem ck_252 : chkM 252 = true := chk_mk (by rw [show mK 252 = k_252 from rfl, show k_252 = k_252_0 from rfl]; exact cq_252_0) ch_252
theorem cq_253_0 : k_253_0.all (chkI 253) = true := by decide +kernel
theorem ch_253 : (chkH 253 && plainName (own 253) && decide (mL 253 ≤ 13)) = true := by decide +kernel
theorem ck_253 : chkM 253 = true := chk_mk (by rw [show mK 253 = k_253 from rfl, show k_253 = k_253_0 from rfl]; exact cq_253_0) ch_253
theorem cq_254_0 : k_254_0.all (chkI 254) = true := by decide +kernel
theorem ch_254 : (chkH 254 && plainName (own 254) && decide (mL 254 ≤ 13)) = true := by decide +kernel
theorem ck_254 : chkM 254 = true := chk_mk (by rw [show mK 254 = k_254 from rfl, show k_254 = k_254_0 from rfl]; exact cq_254_0) ch_254
theorem cq_255_0 : k_255_0.all (chkI 255) = true := by decide +kernel
theorem ch_255 : (chkH 255 && plainName (own 255) && decide (mL 255 ≤ 13)) = true := by decide +kernel
theorem ck_255 : chkM 255 = true := chk_mk (by rw [show mK 255 = k_255 from rfl, show k_255 = k_255_0 from rfl]; exact cq_255_0) ch_255
theorem cq_256_0 : k_256_0.all (chkI 256) = true := by decide +kernel
theorem ch_256 : (chkH 256 && plainName (own 256) && decide (mL 256 ≤ 13)) = true := by decide +kernel
theorem ck_256 : chkM 256 = true := chk_mk (by rw [show mK 256 = k_256 from rfl, show k_256 = k_256_0 from rfl]; exact cq_256_0) ch_256
theorem cq_257_0 : k_257_0.all (chkI 257) = true := by decide +kernel
theorem ch_257 : (chkH 257 && plainName (own 257) && decide (mL 257 ≤ 13)) = true := by decide +kernel
theorem ck_257 : chkM 257 = true := chk_mk (by rw [show mK 257 = k_257 from rfl, show k_257 = k_257_0 from rfl]; exact cq_257_0) ch_257
theorem cq_258_0 : k_258_0.all (chkI 258) = true := by decide +kernel
theorem ch_258 : (chkH 258 && plainName (own 258) && decide (mL 258 ≤ 13)) = true := by decide +kernel
theorem ck_258 : chkM 258 = true := chk_mk (by rw [show mK 258 = k_258 from rfl, show k_258 = k_258_0 from rfl]; exact cq_258_0) ch_258
theorem cq_259_0 : k_259_0.all (chkI 259) = true := by decide +kernel
theorem ch_259 : (chkH 259 && plainName (own 259) && decide (mL 259 ≤ 13)) = true := by decide +kernel
theorem ck_259 : chkM 259 = true := chk_mk (by rw [show mK 259 = k_259 from rfl, show k_259 = k_259_0 from rfl]; exact cq_259_0) ch_259
theorem cq_260_0 : k_260_0.all (chkI 260) = true := by decide +kernel
theorem ch_260 : (chkH 260 && plainName (own 260) && decide (mL 260 ≤ 13)) = true := by decide +kernel
theorem ck_260 : chkM 260 = true := chk_mk (by rw [show mK 260 = k_260 from rfl, show k_260 = k_260_0 from rfl]; exact cq_260_0) ch_260
theorem cq_261_0 : k_261_0.all (chkI 261) = true := by decide +kernel
theorem ch_261 : (chkH 261 && plainName (own 261) && decide (mL 261 ≤ 13)) = true := by decide +kernel
theorem ck_261 : chkM 261 = true := chk_mk (by rw [show mK 261 = k_261 from rfl, show k_261 = k_261_0 from rfl]; exact cq_261_0) ch_261
theorem cq_262_0 : k_262_0.all (chkI 262) = true := by decide +kernel
theorem ch_262 : (chkH 262 && plainName (own 262) && decide (mL 262 ≤ 13)) = true := by decide +kernel
theorem ck_262 : chkM 262 = true := chk_mk (by rw [show mK 262 = k_262 from rfl, show k_262 = k_262_0 from rfl]; exact cq_262_0) ch_262
theorem cq_263_0 : k_263_0.all (chkI 263) = true := by decide +kernel
theorem ch_263 : (chkH 263 && plainName (own 263) && decide (mL 263 ≤ 13)) = true := by decide +kernel
theorem ck_263 : chkM 263 = true := chk_mk (by rw [show mK 263 = k_263 from rfl, show k_263 = k_263_0 from rfl]; exact cq_263_0) ch_263
theorem cq_264_0 : k_264_0.all (chkI 264) = true := by decide +kernel
theorem ch_264 : (chkH 264 && plainName (own 264) && decide (mL 264 ≤ 13)) = true := by decide +kernel
theorem ck_264 : chkM 264 = true := chk_mk (by rw [show mK 264 = k_264 from rfl, show k_264 = k_264_0 from rfl]; exact cq_264_0) ch_264
theorem cq_265_0 : k_265_0.all (chkI 265) = true := by decide +kernel
theorem ch_265 : (chkH 265 && plainName (own 265) && decide (mL 265 ≤ 13)) = true := by decide +kernel
theorem ck_265 : chkM 265 = true := chk_mk (by rw [show mK 265 = k_265 from rfl, show k_265 = k_265_0 from rfl]; exact cq_265_0) ch_265
theorem cq_266_0 : k_266_0.all (chkI 266) = true := by decide +kernel
theorem ch_266 : (chkH 266 && plainName (own 266) && decide (mL 266 ≤ 13)) = true := by decide +kernel
theorem ck_266 : chkM 266 = true := chk_mk (by rw [show mK 266 = k_266 from rfl, show k_266 = k_266_0 from rfl]; exact cq_266_0) ch_266
theorem cq_267_0 : k_267_0.all (chkI 267) = true := by decide +kernel
theorem ch_267 : (chkH 267 && plainName (own 267) && decide (mL 267 ≤ 13)) = true := by decide +kernel
theorem ck_267 : chkM 267 = true := chk_mk (by rw [show mK 267 = k_267 from rfl, show k_267 = k_267_0 from rfl]; exact cq_267_0) ch_267
theorem cq_268_0 : k_268_0.all (chkI 268) = true := by decide +kernel
theorem ch_268 : (chkH 268 && plainName (own 268) && decide (mL 268 ≤ 13)) = true := by decide +kernel
theorem ck_268 : chkM 268 = true := chk_mk (by rw [show mK 268 = k_268 from rfl, show k_268 = k_268_0 from rfl]; exact cq_268_0) ch_268
theorem cq_269_0 : k_269_0.all (chkI 269) = true := by decide +kernel
theorem ch_269 : (chkH 269 && plainName (own 269) && decide (mL 269 ≤ 13)) = true := by decide +kernel
theorem ck_269 : chkM 269 = true := chk_mk (by rw [show mK 269 = k_269 from rfl, show k_269 = k_269_0 from rfl]; exact cq_269_0) ch_269
theorem cq_270_0 : k_270_0.all (chkI 270) = true := by decide +kernel
theorem ch_270 : (chkH 270 && plainName (own 270) && decide (mL 270 ≤ 13)) = true := by decide +kernel
theorem ck_270 : chkM 270 = true := chk_mk (by rw [show mK 270 = k_270 from rfl, show k_270 = k_270_0 from rfl]; exact cq_270_0) ch_270
theorem chk_all {mid : Nat} (h : mid < NM) : chkM mid = true := by
  have h : mid < 271 := h
  by_cases h0 : mid < 10
  · rcases (show mid = 0 ∨ mid = 1 ∨ mid = 2 ∨ mid = 3 ∨ mid = 4 ∨ mid = 5 ∨ mid = 6 ∨ mid = 7 ∨ mid = 8 ∨ mid = 9 by omega) with rfl | rfl | rfl | rfl | rfl | rfl | rfl | rfl | rfl | rfl
    · exact ck_0
    · exact ck_1
    · exact ck_2
    · exact ck_3
    · exact ck_4
    · exact ck_5
    · exact ck_6
    · exact ck_7
    · exact ck_8
    · exact ck_9
  by_cases h10 : mid < 20
  · rcases (show mid = 10 ∨ mid = 11 ∨ mid = 12 ∨ mid = 13 ∨ mid = 14 ∨ mid = 15 ∨ mid = 16 ∨ mid = 17 ∨ mid = 18 ∨ mid = 19 by omega) with rfl | rfl | rfl | rfl | rfl | rfl | rfl | rfl | rfl | rfl
    · exact ck_10
    · exact ck_11
    · exact ck_12
    · exact ck_13
    · exact ck_14
    · exact ck_15
    · exact ck_16
    · exact ck_17
    · exact ck_18
    · exact ck_19
  by_cases h20 : mid < 30
  · rcases (show mid = 20 ∨ mid = 21 ∨ mid = 22 ∨ mid = 23 ∨ mid = 24 ∨ mid = 25 ∨ mid = 26 ∨ mid = 27 ∨ mid = 28 ∨ mid = 29 by omega) with rfl | rfl | rfl | rfl | rfl | rfl | rfl | rfl | rfl | rfl
    · exact ck_20
    · exact ck_21
    · exact ck_22
    · exact ck_23
    · exact ck_24
    · exact ck_25
    · exact ck_26
    · exact ck_27
    · exact ck_28
    · exact ck_29
  by_cases h30 : mid < 40
  · rcases (show mid = 30 ∨ mid = 31 ∨ mid = 32 ∨ mid = 33 ∨ mid = 34 ∨ mid = 35 ∨ mid = 36 ∨ mid = 37 ∨ mid = 38 ∨ mid = 39 by omega) with rfl | rfl | rfl | rfl | rfl | rfl | rfl | rfl | rfl | rfl
    · exact ck_30
    · exact ck_31
    · exact ck_32
    · exact ck_33
    · exact ck_34
    · exact ck_35
    · exact ck_36
    · exact ck_37
    · exact ck_38
    · exact ck_39
  by_cases h40 : mid < 50
  · rcases (show mid = 40 ∨ mid = 41 ∨ mid = 42 ∨ mid = 43 ∨ mid = 44 ∨ mid = 45 ∨ mid = 46 ∨ mid = 47 ∨ mid = 48 ∨ mid = 49 by omega) with rfl | rfl | rfl | rfl | rfl | rfl | rfl | rfl | rfl | rfl
    · exact ck_40
    · exact ck_41
    · exact ck_42
    · exact ck_43
    · exact ck_44
    · exact ck_45
    · exact ck_46
    · exact ck_47
    · exact ck_48
    · exact ck_49
  by_cases h50 : mid < 60
  · rcases (show mid = 50 ∨ mid = 51 ∨ mid = 52 ∨ mid = 53 ∨ mid = 54 ∨ mid = 55 ∨ mid = 56 ∨ mid = 57 ∨ mid = 58 ∨ mid = 59 by omega) with rfl | rfl | rfl | rfl | rfl | rfl | rfl | rfl | rfl | rfl
    · exact ck_50
    · exact ck_51
    · exact ck_52
    · exact ck_53
    · exact ck_54
    · exact ck_55
    · exact ck_56
    · exact ck_57
    · exact ck_58
    · exact ck_59
  by_cases h60 : mid < 70
  · rcases (show mid = 60 ∨ mid = 61 ∨ mid = 62 ∨ mid = 63 ∨ mid = 64 ∨ mid = 65 ∨ mid = 66 ∨ mid = 67 ∨ mid = 68 ∨ mid = 69 by omega) with rfl | rfl | rfl | rfl | rfl | rfl | rfl | rfl | rfl | rfl
    · exact ck_60
    · exact ck_61
    · exact ck_62
    · exact ck_63
    · exact ck_64
    · exact ck_65
    · exact ck_66
    · exact ck_67
    · exact ck_68
    · exact ck_69
  by_cases h70 : mid < 80
  · rcases (show mid = 70 ∨ mid = 71 ∨ mid = 72 ∨ mid = 73 ∨ mid = 74 ∨ mid = 75 ∨ mid = 76 ∨ mid = 77 ∨ mid = 78 ∨ mid = 79 by omega) with rfl | rfl | rfl | rfl | rfl | rfl | rfl | rfl | rfl | rfl
    · exact ck_70
    · exact ck_71
    · exact ck_72
    · exact ck_73
    · exact ck_74
    · exact ck_75
    · exact ck_76
    · exact ck_77
    · exact ck_78
    · exact ck_79
  by_cases h80 : mid < 90
  · rcases (show mid = 80 ∨ mid = 81 ∨ mid = 82 ∨ mid = 83 ∨ mid = 84 ∨ mid = 85 ∨ mid = 86 ∨ mid = 87 ∨ mid = 88 ∨ mid = 89 by omega) with rfl | rfl | rfl | rfl | rfl | rfl | rfl | rfl | rfl | rfl
    · exact ck_80
    · exact ck_81
    · exact ck_82
    · exact ck_83
    · exact ck_84
    · exact ck_85
    · exact ck_86
    · exact ck_87
    · exact ck_88
    · exact ck_89
  by_cases h90 : mid < 100
  · rcases (show mid = 90 ∨ mid = 91 ∨ mid = 92 ∨ mid = 93 ∨ mid = 94 ∨ mid = 95 ∨ mid = 96 ∨ mid = 97 ∨ mid = 98 ∨ mid = 99 by omega) with rfl | rfl | rfl | rfl | rfl | rfl | rfl | rfl | rfl | rfl
    · exact ck_90
    · exact ck_91
    · exact ck_92
    · exact ck_93
    · exact ck_94
    · exact ck_95
    · exact ck_96
    · exact ck_97
    · exact ck_98
    · exact ck_99
  by_cases h100 : mid < 110
  · rcases (show mid = 100 ∨ mid = 101 ∨ mid = 102 ∨ mid = 103 ∨ mid = 104 ∨ mid = 105 ∨ mid = 106 ∨ mid = 107 ∨ mid = 108 ∨ mid = 109 by omega) with rfl | rfl | rfl | rfl | rfl | rfl | rfl | rfl | rfl | rfl
    · exact ck_100
    · exact ck_101
    · exact ck_102
    · exact ck_103
    · exact ck_104
    · exact ck_105
    · exact ck_106
    · exact ck_107
    · exact ck_108
    · exact ck_109
  by_cases h110 : mid < 120
  · rcases (show mid = 110 ∨ mid = 111 ∨ mid = 112 ∨ mid = 113 ∨ mid = 114 ∨ mid = 115 ∨ mid = 116 ∨ mid = 117 ∨ mid = 118 ∨ mid = 119 by omega) with rfl | rfl | rfl | rfl | rfl | rfl | rfl | rfl | rfl | rfl
    · exact ck_110
    · exact ck_111
    · exact ck_112
    · exact ck_113
    · exact ck_114
    · exact ck_115
    · exact ck_116
    · exact ck_117
    · exact ck_118
    · exact ck_119
  by_cases h120 : mid < 130
  · rcases (show mid = 120 ∨ mid = 121 ∨ mid = 122 ∨ mid = 123 ∨ mid = 124 ∨ mid = 125 ∨ mid = 126 ∨ mid = 127 ∨ mid = 128 ∨ mid = 129 by omega) with rfl | rfl | rfl | rfl | rfl | rfl | rfl | rfl | rfl | rfl
    · exact ck_120
    · exact ck_121
    · exact ck_122
    · exact ck_123
    · exact ck_124
    · exact ck_125
    · exact ck_126
    · exact ck_127
    · exact ck_128
    · exact ck_129
  by_cases h130 : mid < 140
  · rcases (show mid = 130 ∨ mid = 131 ∨ mid = 132 ∨ mid = 133 ∨ mid = 134 ∨ mid = 135 ∨ mid = 136 ∨ mid = 137 ∨ mid = 138 ∨ mid = 139 by omega) with rfl | rfl | rfl | rfl | rfl | rfl | rfl | rfl | rfl | rfl
    · exact ck_130
    · exact ck_131
    · exact ck_132
    · exact ck_133
    · exact ck_134
    · exact ck_135
    · exact ck_136
    · exact ck_137
    · exact ck_138
    · exact ck_139
  by_cases h140 : mid < 150
  · rcases (show mid = 140 ∨ mid = 141 ∨ mid = 142 ∨ mid = 143 ∨ mid = 144 ∨ mid = 145 ∨ mid = 146 ∨ mid = 147 ∨ mid = 148 ∨ mid = 149 by omega) with rfl | rfl | rfl | rfl | rfl | rfl | rfl | rfl | rfl | rfl
    · exact ck_140
    · exact ck_141
    · exact ck_142
    · exact ck_143
    · exact ck_144
    · exact ck_145
    · exact ck_146
    · exact ck_147
    · exact ck_148
    · exact ck_149
  by_cases h150 : mid < 160
  · rcases (show mid = 150 ∨ mid = 151 ∨ mid = 152 ∨ mid = 153 ∨ mid = 154 ∨ mid = 155 ∨ mid = 156 ∨ mid = 157 ∨ mid = 158 ∨ mid = 159 by omega) with rfl | rfl | rfl | rfl | rfl | rfl | rfl | rfl | rfl | rfl
    · exact ck_150
    · exact ck_151
    · exact ck_152
    · exact ck_153
    · exact ck_154
    · exact ck_155
    · exact ck_156
    · exact ck_157
    · exact ck_158
    · exact ck_159
  by_cases h160 : mid < 170
  · rcases (show mid = 160 ∨ mid = 161 ∨ mid = 162 ∨ mid = 163 ∨ mid = 164 ∨ mid = 165 ∨ mid = 166 ∨ mid = 167 ∨ mid = 168 ∨ mid = 169 by omega) with rfl | rfl | rfl | rfl | rfl | rfl | rfl | rfl | rfl | rfl
    · exact ck_160
    · exact ck_161
    · exact ck_162
    · exact ck_163
    · exact ck_164
    · exact ck_165
    · exact ck_166
    · exact ck_167
    · exact ck_168
    · exact ck_169
  by_cases h170 : mid < 180
  · rcases (show mid = 170 ∨ mid = 171 ∨ mid = 172 ∨ mid = 173 ∨ mid = 174 ∨ mid = 175 ∨ mid = 176 ∨ mid = 177 ∨ mid = 178 ∨ mid = 179 by omega) with rfl | rfl | rfl | rfl | rfl | rfl | rfl | rfl | rfl | rfl
    · exact ck_170
    · exact ck_171
    · exact ck_172
    · exact ck_173
    · exact ck_174
    · exact ck_175
    · exact ck_176
    · exact ck_177
    · exact ck_178
    · exact ck_179
  by_cases h180 : mid < 190
  · rcases (show mid = 180 ∨ mid = 181 ∨ mid = 182 ∨ mid = 183 ∨ mid = 184 ∨ mid = 185 ∨ mid = 186 ∨ mid = 187 ∨ mid = 188 ∨ mid = 189 by omega) with rfl | rfl | rfl | rfl | rfl | rfl | rfl | rfl | rfl | rfl
    · exact ck_180
    · exact ck_181
    · exact ck_182
    · exact ck_183
    · exact ck_184
    · exact ck_185
    · exact ck_186
    · exact ck_187
    · exact ck_188
    · exact ck_189
  by_cases h190 : mid < 200
  · rcases (show mid = 190 ∨ mid = 191 ∨ mid = 192 ∨ mid = 193 ∨ mid = 194 ∨ mid = 195 ∨ mid = 196 ∨ mid = 197 ∨ mid = 198 ∨ mid = 199 by omega) with rfl | rfl | rfl | rfl | rfl | rfl | rfl | rfl | rfl | rfl
    · exact ck_190
    · exact ck_191
    · exact ck_192
    · exact ck_193
    · exact ck_194
    · exact ck_195
    · exact ck_196
    · exact ck_197
    · exact ck_198
    · exact ck_199
  by_cases h200 : mid < 210
  · rcases (show mid = 200 ∨ mid = 201 ∨ mid = 202 ∨ mid = 203 ∨ mid = 204 ∨ mid = 205 ∨ mid = 206 ∨ mid = 207 ∨ mid = 208 ∨ mid = 209 by omega) with rfl | rfl | rfl | rfl | rfl | rfl | rfl | rfl | rfl | rfl
    · exact ck_200
    · exact ck_201
    · exact ck_202
    · exact ck_203
    · exact ck_204
    · exact ck_205
    · exact ck_206
    · exact ck_207
    · exact ck_208
    · exact ck_209
  by_cases h210 : mid < 220
  · rcases (show mid = 210 ∨ mid = 211 ∨ mid = 212 ∨ mid = 213 ∨ mid = 214 ∨ mid = 215 ∨ mid = 216 ∨ mid = 217 ∨ mid = 218 ∨ mid = 219 by omega) with rfl | rfl | rfl | rfl | rfl | rfl | rfl | rfl | rfl | rfl
    · exact ck_210
    · exact ck_211
    · exact ck_212
    · exact ck_213
    · exact ck_214
    · exact ck_215
    · exact ck_216
    · exact ck_217
    · exact ck_218
    · exact ck_219
  by_cases h220 : mid < 230
  · rcases (show mid = 220 ∨ mid = 221 ∨ mid = 222 ∨ mid = 223 ∨ mid = 224 ∨ mid = 225 ∨ mid = 226 ∨ mid = 227 ∨ mid = 228 ∨ mid = 229 by omega) with rfl | rfl | rfl | rfl | rfl | rfl | rfl | rfl | rfl | rfl
    · exact ck_220
    · exact ck_221
    · exact ck_222
    · exact ck_223
    · exact ck_224
    · exact ck_225
    · exact ck_226
    · exact ck_227
    · exact ck_228
    · exact ck_229
  by_cases h230 : mid < 240
  · rcases (show mid = 230 ∨ mid = 231 ∨ mid = 232 ∨ mid = 233 ∨ mid = 234 ∨ mid = 235 ∨ mid = 236 ∨ mid = 237 ∨ mid = 238 ∨ mid = 239 by omega) with rfl | rfl | rfl | rfl | rfl | rfl | rfl | rfl | rfl | rfl
    · exact ck_230
    · exact ck_231
    · exact ck_232
    · exact ck_233
    · exact ck_234
    · exact ck_235
    · exact ck_236
    · exact ck_237
    · exact ck_238
    · exact ck_239
  by_cases h240 : mid < 250
  · rcases (show mid = 240 ∨ mid = 241 ∨ mid = 242 ∨ mid = 243 ∨ mid = 244 ∨ mid = 245 ∨ mid = 246 ∨ mid = 247 ∨ mid = 248 ∨ mid = 249 by omega) with rfl | rfl | rfl | rfl | rfl | rfl | rfl | rfl | rfl | rfl
    · exact ck_240
    · exact ck_241
    · exact ck_242
    · exact ck_243
    · exact ck_244
    · exact ck_245
    · exact ck_246
    · exact ck_247
    · exact ck_248
    · exact ck_249
  by_cases h250 : mid < 260
  · rcases (show mid = 250 ∨ mid = 251 ∨ mid = 252 ∨ mid = 253 ∨ mid = 254 ∨ mid = 255 ∨ mid = 256 ∨ mid = 257 ∨ mid = 258 ∨ mid = 259 by omega) with rfl | rfl | rfl | rfl | rfl | rfl | rfl | rfl | rfl | rfl
    · exact ck_250
    · exact ck_251
    · exact ck_252
    · exact ck_253
    · exact ck_254
    · exact ck_255
    · exact ck_256
    · exact ck_257
    · exact ck_258
    · exact ck_259
  by_cases h260 : mid < 270
  · rcases (show mid = 260 ∨ mid = 261 ∨ mid = 262 ∨ mid = 263 ∨ mid = 264 ∨ mid = 265 ∨ mid = 266 ∨ mid = 267 ∨ mid = 268 ∨ mid = 269 by omega) with rfl | rfl | rfl | rfl | rfl | rfl | rfl | rfl | rfl | rfl
    · exact ck_260
    · exact ck_261
    · exact ck_262
    · exact ck_263
    · exact ck_264
    · exact ck_265
    · exact ck_266
    · exact ck_267
    · exact ck_268
    · exact ck_269
  by_cases h270 : mid < 271
  · rcases (show mid = 270 by omega) with rfl
    · exact ck_270
  omega
