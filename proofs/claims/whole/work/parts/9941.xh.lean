/-! what the law's calls catch (printed by wip/whole/genh.py) -/
theorem XC_h {X : JX} {d mid pc pc2 e t k : Nat} {L : List (Option Value)} {st : List Value} {Q : JR → JM → Prop} {M : JM} (h1 : isI mid pc = false) (h2 : hdl (mX mid) pc e = some (t, k)) (hw : k = 0 ∨ wide L[k - 1]? = false) : XC X d mid pc pc2 L st Q (.inr e) M = XX X d mid (t, L.set k none, [], M) Q := by
  unfold XC XB
  simp only [h1, Bool.false_eq_true, if_false]
  have h3 : mX mid ≠ [] := by
    intro q
    rw [q] at h2
    cases h2
  rw [if_neg h3, h2]
  simp only
  rw [if_pos hw]
section XHC
variable {X : JX} {d pc2 : Nat} {l0 l1 l2 l3 l4 l5 l6 : Option Value} {st : List Value} {Q : JR → JM → Prop} {M : JM}
theorem XH233_0 (h : wide (some l2) = false) : XC X d 233 4 pc2 [l0, l1, l2, l3] st Q (.inr 0) M = XX X d 233 (13, [l0, l1, l2, none], [], M) Q := XC_h (t := 13) (k := 3) (L := [l0, l1, l2, l3]) rfl rfl (Or.inr h)
theorem XH234_0 (h : wide (some l1) = false) : XC X d 234 3 pc2 [l0, l1, l2] st Q (.inr 0) M = XX X d 234 (12, [l0, l1, none], [], M) Q := XC_h (t := 12) (k := 2) (L := [l0, l1, l2]) rfl rfl (Or.inr h)
theorem XH234_1 (h : wide (some l1) = false) : XC X d 234 3 pc2 [l0, l1, l2] st Q (.inr 1) M = XX X d 234 (15, [l0, l1, none], [], M) Q := XC_h (t := 15) (k := 2) (L := [l0, l1, l2]) rfl rfl (Or.inr h)
theorem XH235_2 (h : wide (some l2) = false) : XC X d 235 4 pc2 [l0, l1, l2, l3] st Q (.inr 2) M = XX X d 235 (13, [l0, l1, l2, none], [], M) Q := XC_h (t := 13) (k := 3) (L := [l0, l1, l2, l3]) rfl rfl (Or.inr h)
theorem XH236_2 (h : wide (some l2) = false) : XC X d 236 4 pc2 [l0, l1, l2, l3] st Q (.inr 2) M = XX X d 236 (13, [l0, l1, l2, none], [], M) Q := XC_h (t := 13) (k := 3) (L := [l0, l1, l2, l3]) rfl rfl (Or.inr h)
theorem XH237_2 (h : wide (some l3) = false) : XC X d 237 5 pc2 [l0, l1, l2, l3, l4] st Q (.inr 2) M = XX X d 237 (15, [l0, l1, l2, l3, none], [], M) Q := XC_h (t := 15) (k := 4) (L := [l0, l1, l2, l3, l4]) rfl rfl (Or.inr h)
theorem XH238_2 (h : wide (some l2) = false) : XC X d 238 4 pc2 [l0, l1, l2, l3] st Q (.inr 2) M = XX X d 238 (13, [l0, l1, l2, none], [], M) Q := XC_h (t := 13) (k := 3) (L := [l0, l1, l2, l3]) rfl rfl (Or.inr h)
theorem XH239_2 (h : wide (some l2) = false) : XC X d 239 4 pc2 [l0, l1, l2, l3] st Q (.inr 2) M = XX X d 239 (13, [l0, l1, l2, none], [], M) Q := XC_h (t := 13) (k := 3) (L := [l0, l1, l2, l3]) rfl rfl (Or.inr h)
theorem XH240_2 (h : wide (some l2) = false) : XC X d 240 4 pc2 [l0, l1, l2, l3] st Q (.inr 2) M = XX X d 240 (13, [l0, l1, l2, none], [], M) Q := XC_h (t := 13) (k := 3) (L := [l0, l1, l2, l3]) rfl rfl (Or.inr h)
theorem XH240_3 (h : wide (some l2) = false) : XC X d 240 4 pc2 [l0, l1, l2, l3] st Q (.inr 3) M = XX X d 240 (16, [l0, l1, l2, none], [], M) Q := XC_h (t := 16) (k := 3) (L := [l0, l1, l2, l3]) rfl rfl (Or.inr h)
theorem XH241_3 (h : wide (some l1) = false) : XC X d 241 3 pc2 [l0, l1, l2] st Q (.inr 3) M = XX X d 241 (12, [l0, l1, none], [], M) Q := XC_h (t := 12) (k := 2) (L := [l0, l1, l2]) rfl rfl (Or.inr h)
theorem XH242_3 (h : wide (some l1) = false) : XC X d 242 3 pc2 [l0, l1, l2] st Q (.inr 3) M = XX X d 242 (12, [l0, l1, none], [], M) Q := XC_h (t := 12) (k := 2) (L := [l0, l1, l2]) rfl rfl (Or.inr h)
theorem XH243_3 (h : wide (some l1) = false) : XC X d 243 3 pc2 [l0, l1, l2] st Q (.inr 3) M = XX X d 243 (12, [l0, l1, none], [], M) Q := XC_h (t := 12) (k := 2) (L := [l0, l1, l2]) rfl rfl (Or.inr h)
theorem XH244_1 (h : wide (some l2) = false) : XC X d 244 4 pc2 [l0, l1, l2, l3] st Q (.inr 1) M = XX X d 244 (13, [l0, l1, l2, none], [], M) Q := XC_h (t := 13) (k := 3) (L := [l0, l1, l2, l3]) rfl rfl (Or.inr h)
theorem XH244_0 (h : wide (some l2) = false) : XC X d 244 4 pc2 [l0, l1, l2, l3] st Q (.inr 0) M = XX X d 244 (16, [l0, l1, l2, none], [], M) Q := XC_h (t := 16) (k := 3) (L := [l0, l1, l2, l3]) rfl rfl (Or.inr h)
theorem XH245_2 (h : wide (some l2) = false) : XC X d 245 4 pc2 [l0, l1, l2, l3] st Q (.inr 2) M = XX X d 245 (13, [l0, l1, l2, none], [], M) Q := XC_h (t := 13) (k := 3) (L := [l0, l1, l2, l3]) rfl rfl (Or.inr h)
theorem XH245_0 (h : wide (some l2) = false) : XC X d 245 4 pc2 [l0, l1, l2, l3] st Q (.inr 0) M = XX X d 245 (16, [l0, l1, l2, none], [], M) Q := XC_h (t := 16) (k := 3) (L := [l0, l1, l2, l3]) rfl rfl (Or.inr h)
theorem XH246_2 (h : wide (some l3) = false) : XC X d 246 5 pc2 [l0, l1, l2, l3, l4] st Q (.inr 2) M = XX X d 246 (15, [l0, l1, l2, l3, none], [], M) Q := XC_h (t := 15) (k := 4) (L := [l0, l1, l2, l3, l4]) rfl rfl (Or.inr h)
theorem XH247_2 (h : wide (some l3) = false) : XC X d 247 5 pc2 [l0, l1, l2, l3, l4] st Q (.inr 2) M = XX X d 247 (15, [l0, l1, l2, l3, none], [], M) Q := XC_h (t := 15) (k := 4) (L := [l0, l1, l2, l3, l4]) rfl rfl (Or.inr h)
theorem XH247_1 (h : wide (some l3) = false) : XC X d 247 5 pc2 [l0, l1, l2, l3, l4] st Q (.inr 1) M = XX X d 247 (19, [l0, l1, l2, l3, none], [], M) Q := XC_h (t := 19) (k := 4) (L := [l0, l1, l2, l3, l4]) rfl rfl (Or.inr h)
theorem XH247_0 (h : wide (some l3) = false) : XC X d 247 5 pc2 [l0, l1, l2, l3, l4] st Q (.inr 0) M = XX X d 247 (23, [l0, l1, l2, l3, none], [], M) Q := XC_h (t := 23) (k := 4) (L := [l0, l1, l2, l3, l4]) rfl rfl (Or.inr h)
theorem XH248_2 (h : wide (some l2) = false) : XC X d 248 4 pc2 [l0, l1, l2, l3] st Q (.inr 2) M = XX X d 248 (13, [l0, l1, l2, none], [], M) Q := XC_h (t := 13) (k := 3) (L := [l0, l1, l2, l3]) rfl rfl (Or.inr h)
theorem XH249_2 (h : wide (some l2) = false) : XC X d 249 4 pc2 [l0, l1, l2, l3] st Q (.inr 2) M = XX X d 249 (20, [l0, l1, l2, none], [], M) Q := XC_h (t := 20) (k := 3) (L := [l0, l1, l2, l3]) rfl rfl (Or.inr h)
theorem XH250_2 (h : wide (some l2) = false) : XC X d 250 4 pc2 [l0, l1, l2, l3] st Q (.inr 2) M = XX X d 250 (20, [l0, l1, l2, none], [], M) Q := XC_h (t := 20) (k := 3) (L := [l0, l1, l2, l3]) rfl rfl (Or.inr h)
theorem XH251_2 (h : wide (some l3) = false) : XC X d 251 5 pc2 [l0, l1, l2, l3, l4] st Q (.inr 2) M = XX X d 251 (15, [l0, l1, l2, l3, none], [], M) Q := XC_h (t := 15) (k := 4) (L := [l0, l1, l2, l3, l4]) rfl rfl (Or.inr h)
theorem XH251_3 (h : wide (some l3) = false) : XC X d 251 5 pc2 [l0, l1, l2, l3, l4] st Q (.inr 3) M = XX X d 251 (19, [l0, l1, l2, l3, none], [], M) Q := XC_h (t := 19) (k := 4) (L := [l0, l1, l2, l3, l4]) rfl rfl (Or.inr h)
theorem XH252_2 (h : wide (some l3) = false) : XC X d 252 5 pc2 [l0, l1, l2, l3, l4] st Q (.inr 2) M = XX X d 252 (15, [l0, l1, l2, l3, none], [], M) Q := XC_h (t := 15) (k := 4) (L := [l0, l1, l2, l3, l4]) rfl rfl (Or.inr h)
theorem XH252_3 (h : wide (some l3) = false) : XC X d 252 5 pc2 [l0, l1, l2, l3, l4] st Q (.inr 3) M = XX X d 252 (19, [l0, l1, l2, l3, none], [], M) Q := XC_h (t := 19) (k := 4) (L := [l0, l1, l2, l3, l4]) rfl rfl (Or.inr h)
theorem XH253_2 (h : wide (some l3) = false) : XC X d 253 5 pc2 [l0, l1, l2, l3, l4] st Q (.inr 2) M = XX X d 253 (15, [l0, l1, l2, l3, none], [], M) Q := XC_h (t := 15) (k := 4) (L := [l0, l1, l2, l3, l4]) rfl rfl (Or.inr h)
theorem XH253_3 (h : wide (some l3) = false) : XC X d 253 5 pc2 [l0, l1, l2, l3, l4] st Q (.inr 3) M = XX X d 253 (19, [l0, l1, l2, l3, none], [], M) Q := XC_h (t := 19) (k := 4) (L := [l0, l1, l2, l3, l4]) rfl rfl (Or.inr h)
theorem XH254_2 (h : wide (some l3) = false) : XC X d 254 5 pc2 [l0, l1, l2, l3, l4] st Q (.inr 2) M = XX X d 254 (15, [l0, l1, l2, l3, none], [], M) Q := XC_h (t := 15) (k := 4) (L := [l0, l1, l2, l3, l4]) rfl rfl (Or.inr h)
theorem XH254_3 (h : wide (some l3) = false) : XC X d 254 5 pc2 [l0, l1, l2, l3, l4] st Q (.inr 3) M = XX X d 254 (19, [l0, l1, l2, l3, none], [], M) Q := XC_h (t := 19) (k := 4) (L := [l0, l1, l2, l3, l4]) rfl rfl (Or.inr h)
theorem XH255_2 (h : wide (some l4) = false) : XC X d 255 7 pc2 [l0, l1, l2, l3, l4, l5] st Q (.inr 2) M = XX X d 255 (24, [l0, l1, l2, l3, l4, none], [], M) Q := XC_h (t := 24) (k := 5) (L := [l0, l1, l2, l3, l4, l5]) rfl rfl (Or.inr h)
theorem XH255_3 (h : wide (some l4) = false) : XC X d 255 7 pc2 [l0, l1, l2, l3, l4, l5] st Q (.inr 3) M = XX X d 255 (28, [l0, l1, l2, l3, l4, none], [], M) Q := XC_h (t := 28) (k := 5) (L := [l0, l1, l2, l3, l4, l5]) rfl rfl (Or.inr h)
theorem XH256_2 (h : wide (some l4) = false) : XC X d 256 7 pc2 [l0, l1, l2, l3, l4, l5] st Q (.inr 2) M = XX X d 256 (17, [l0, l1, l2, l3, l4, none], [], M) Q := XC_h (t := 17) (k := 5) (L := [l0, l1, l2, l3, l4, l5]) rfl rfl (Or.inr h)
theorem XH256_3 (h : wide (some l4) = false) : XC X d 256 7 pc2 [l0, l1, l2, l3, l4, l5] st Q (.inr 3) M = XX X d 256 (21, [l0, l1, l2, l3, l4, none], [], M) Q := XC_h (t := 21) (k := 5) (L := [l0, l1, l2, l3, l4, l5]) rfl rfl (Or.inr h)
theorem XH257_2 (h : wide (some l4) = false) : XC X d 257 7 pc2 [l0, l1, l2, l3, l4, l5] st Q (.inr 2) M = XX X d 257 (17, [l0, l1, l2, l3, l4, none], [], M) Q := XC_h (t := 17) (k := 5) (L := [l0, l1, l2, l3, l4, l5]) rfl rfl (Or.inr h)
theorem XH257_3 (h : wide (some l4) = false) : XC X d 257 7 pc2 [l0, l1, l2, l3, l4, l5] st Q (.inr 3) M = XX X d 257 (21, [l0, l1, l2, l3, l4, none], [], M) Q := XC_h (t := 21) (k := 5) (L := [l0, l1, l2, l3, l4, l5]) rfl rfl (Or.inr h)
theorem XH258_2 (h : wide (some l2) = false) : XC X d 258 4 pc2 [l0, l1, l2, l3] st Q (.inr 2) M = XX X d 258 (13, [l0, l1, l2, none], [], M) Q := XC_h (t := 13) (k := 3) (L := [l0, l1, l2, l3]) rfl rfl (Or.inr h)
theorem XH259_2 (h : wide (some l3) = false) : XC X d 259 5 pc2 [l0, l1, l2, l3, l4] st Q (.inr 2) M = XX X d 259 (15, [l0, l1, l2, l3, none], [], M) Q := XC_h (t := 15) (k := 4) (L := [l0, l1, l2, l3, l4]) rfl rfl (Or.inr h)
theorem XH259_3 (h : wide (some l3) = false) : XC X d 259 5 pc2 [l0, l1, l2, l3, l4] st Q (.inr 3) M = XX X d 259 (19, [l0, l1, l2, l3, none], [], M) Q := XC_h (t := 19) (k := 4) (L := [l0, l1, l2, l3, l4]) rfl rfl (Or.inr h)
theorem XH260_2 (h : wide (some l3) = false) : XC X d 260 5 pc2 [l0, l1, l2, l3, l4] st Q (.inr 2) M = XX X d 260 (15, [l0, l1, l2, l3, none], [], M) Q := XC_h (t := 15) (k := 4) (L := [l0, l1, l2, l3, l4]) rfl rfl (Or.inr h)
theorem XH260_3 (h : wide (some l3) = false) : XC X d 260 5 pc2 [l0, l1, l2, l3, l4] st Q (.inr 3) M = XX X d 260 (19, [l0, l1, l2, l3, none], [], M) Q := XC_h (t := 19) (k := 4) (L := [l0, l1, l2, l3, l4]) rfl rfl (Or.inr h)
theorem XH261_2 (h : wide (some l2) = false) : XC X d 261 4 pc2 [l0, l1, l2, l3] st Q (.inr 2) M = XX X d 261 (13, [l0, l1, l2, none], [], M) Q := XC_h (t := 13) (k := 3) (L := [l0, l1, l2, l3]) rfl rfl (Or.inr h)
theorem XH261_3 (h : wide (some l2) = false) : XC X d 261 4 pc2 [l0, l1, l2, l3] st Q (.inr 3) M = XX X d 261 (16, [l0, l1, l2, none], [], M) Q := XC_h (t := 16) (k := 3) (L := [l0, l1, l2, l3]) rfl rfl (Or.inr h)
theorem XH262_2 (h : wide (some l2) = false) : XC X d 262 4 pc2 [l0, l1, l2, l3] st Q (.inr 2) M = XX X d 262 (13, [l0, l1, l2, none], [], M) Q := XC_h (t := 13) (k := 3) (L := [l0, l1, l2, l3]) rfl rfl (Or.inr h)
theorem XH263_3 (h : wide (some l2) = false) : XC X d 263 4 pc2 [l0, l1, l2, l3] st Q (.inr 3) M = XX X d 263 (13, [l0, l1, l2, none], [], M) Q := XC_h (t := 13) (k := 3) (L := [l0, l1, l2, l3]) rfl rfl (Or.inr h)
theorem XH264_2 (h : wide (some l2) = false) : XC X d 264 4 pc2 [l0, l1, l2, l3] st Q (.inr 2) M = XX X d 264 (12, [l0, l1, l2, none], [], M) Q := XC_h (t := 12) (k := 3) (L := [l0, l1, l2, l3]) rfl rfl (Or.inr h)
theorem XH264_4 (h : wide (some l2) = false) : XC X d 264 4 pc2 [l0, l1, l2, l3] st Q (.inr 4) M = XX X d 264 (15, [l0, l1, l2, none], [], M) Q := XC_h (t := 15) (k := 3) (L := [l0, l1, l2, l3]) rfl rfl (Or.inr h)
theorem XH265_2 (h : wide (some l2) = false) : XC X d 265 4 pc2 [l0, l1, l2, l3] st Q (.inr 2) M = XX X d 265 (13, [l0, l1, l2, none], [], M) Q := XC_h (t := 13) (k := 3) (L := [l0, l1, l2, l3]) rfl rfl (Or.inr h)
theorem XH265_4 (h : wide (some l2) = false) : XC X d 265 4 pc2 [l0, l1, l2, l3] st Q (.inr 4) M = XX X d 265 (16, [l0, l1, l2, none], [], M) Q := XC_h (t := 16) (k := 3) (L := [l0, l1, l2, l3]) rfl rfl (Or.inr h)
theorem XH266_2 (h : wide (some l3) = false) : XC X d 266 5 pc2 [l0, l1, l2, l3, l4] st Q (.inr 2) M = XX X d 266 (15, [l0, l1, l2, l3, none], [], M) Q := XC_h (t := 15) (k := 4) (L := [l0, l1, l2, l3, l4]) rfl rfl (Or.inr h)
theorem XH266_3 (h : wide (some l3) = false) : XC X d 266 5 pc2 [l0, l1, l2, l3, l4] st Q (.inr 3) M = XX X d 266 (19, [l0, l1, l2, l3, none], [], M) Q := XC_h (t := 19) (k := 4) (L := [l0, l1, l2, l3, l4]) rfl rfl (Or.inr h)
theorem XH267_2 (h : wide (some l2) = false) : XC X d 267 4 pc2 [l0, l1, l2, l3] st Q (.inr 2) M = XX X d 267 (13, [l0, l1, l2, none], [], M) Q := XC_h (t := 13) (k := 3) (L := [l0, l1, l2, l3]) rfl rfl (Or.inr h)
theorem XH268_2 (h : wide (some l2) = false) : XC X d 268 4 pc2 [l0, l1, l2, l3] st Q (.inr 2) M = XX X d 268 (13, [l0, l1, l2, none], [], M) Q := XC_h (t := 13) (k := 3) (L := [l0, l1, l2, l3]) rfl rfl (Or.inr h)
theorem XH269_0 (h : wide (some l1) = false) : XC X d 269 3 pc2 [l0, l1, l2] st Q (.inr 0) M = XX X d 269 (12, [l0, l1, none], [], M) Q := XC_h (t := 12) (k := 2) (L := [l0, l1, l2]) rfl rfl (Or.inr h)
theorem XH270_0 (h : wide (some l1) = false) : XC X d 270 3 pc2 [l0, l1, l2] st Q (.inr 0) M = XX X d 270 (12, [l0, l1, none], [], M) Q := XC_h (t := 12) (k := 2) (L := [l0, l1, l2]) rfl rfl (Or.inr h)
end XHC
