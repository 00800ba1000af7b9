/-! every row passes -/
theorem cq_157_0 : k_157_0.all (chkI 157) = true := by decide +kernel
theorem ch_157 : (chkH 157 && plainName (own 157) && decide (mL 157 ≤ 13)) = true := by decide +kernel
theorem ck_157 : chkM 157 = true := chk_mk (by rw [show mK 157 = k_157 from rfl, show k_157 = k_157_0 from rfl]; exact cq_157_0) ch_157
theorem cq_158_0 : k_158_0.all (chkI 158) = true := by decide +kernel
theorem ch_158 : (chkH 158 && plainName (own 158) && decide (mL 158 ≤ 13)) = true := by decide +kernel
theorem ck_158 : chkM 158 = true := chk_mk (by rw [show mK 158 = k_158 from rfl, show k_158 = k_158_0 from rfl]; exact cq_158_0) ch_158
theorem cq_159_0 : k_159_0.all (chkI 159) = true := by decide +kernel
theorem cq_159_1 : k_159_1.all (chkI 159) = true := by decide +kernel
theorem ch_159 : (chkH 159 && plainName (own 159) && decide (mL 159 ≤ 13)) = true := by decide +kernel
theorem ck_159 : chkM 159 = true := chk_mk (by rw [show mK 159 = k_159 from rfl]; unfold k_159; simp only [List.all_append, cq_159_0, cq_159_1, Bool.and_self]) ch_159
theorem cq_160_0 : k_160_0.all (chkI 160) = true := by decide +kernel
theorem ch_160 : (chkH 160 && plainName (own 160) && decide (mL 160 ≤ 13)) = true := by decide +kernel
theorem ck_160 : chkM 160 = true := chk_mk (by rw [show mK 160 = k_160 from rfl, show k_160 = k_160_0 from rfl]; exact cq_160_0) ch_160
theorem cq_161_0 : k_161_0.all (chkI 161) = true := by decide +kernel
theorem ch_161 : (chkH 161 && plainName (own 161) && decide (mL 161 ≤ 13)) = true := by decide +kernel
theorem ck_161 : chkM 161 = true := chk_mk (by rw [show mK 161 = k_161 from rfl, show k_161 = k_161_0 from rfl]; exact cq_161_0) ch_161
theorem cq_162_0 : k_162_0.all (chkI 162) = true := by decide +kernel
theorem cq_162_1 : k_162_1.all (chkI 162) = true := by decide +kernel
theorem ch_162 : (chkH 162 && plainName (own 162) && decide (mL 162 ≤ 13)) = true := by decide +kernel
theorem ck_162 : chkM 162 = true := chk_mk (by rw [show mK 162 = k_162 from rfl]; unfold k_162; simp only [List.all_append, cq_162_0, cq_162_1, Bool.and_self]) ch_162
theorem cq_163_0 : k_163_0.all (chkI 163) = true := by decide +kernel
theorem cq_163_1 : k_163_1.all (chkI 163) = true := by decide +kernel
theorem ch_163 : (chkH 163 && plainName (own 163) && decide (mL 163 ≤ 13)) = true := by decide +kernel
theorem ck_163 : chkM 163 = true := chk_mk (by rw [show mK 163 = k_163 from rfl]; unfold k_163; simp only [List.all_append, cq_163_0, cq_163_1, Bool.and_self]) ch_163
theorem cq_164_0 : k_164_0.all (chkI 164) = true := by decide +kernel
theorem ch_164 : (chkH 164 && plainName (own 164) && decide (mL 164 ≤ 13)) = true := by decide +kernel
theorem ck_164 : chkM 164 = true := chk_mk (by rw [show mK 164 = k_164 from rfl, show k_164 = k_164_0 from rfl]; exact cq_164_0) ch_164
theorem cq_165_0 : k_165_0.all (chkI 165) = true := by decide +kernel
theorem ch_165 : (chkH 165 && plainName (own 165) && decide (mL 165 ≤ 13)) = true := by decide +kernel
theorem ck_165 : chkM 165 = true := chk_mk (by rw [show mK 165 = k_165 from rfl, show k_165 = k_165_0 from rfl]; exact cq_165_0) ch_165
theorem cq_166_0 : k_166_0.all (chkI 166) = true := by decide +kernel
theorem ch_166 : (chkH 166 && plainName (own 166) && decide (mL 166 ≤ 13)) = true := by decide +kernel
theorem ck_166 : chkM 166 = true := chk_mk (by rw [show mK 166 = k_166 from rfl, show k_166 = k_166_0 from rfl]; exact cq_166_0) ch_166
theorem cq_167_0 : k_167_0.all (chkI 167) = true := by decide +kernel
theorem ch_167 : (chkH 167 && plainName (own 167) && decide (mL 167 ≤ 13)) = true := by decide +kernel
theorem ck_167 : chkM 167 = true := chk_mk (by rw [show mK 167 = k_167 from rfl, show k_167 = k_167_0 from rfl]; exact cq_167_0) ch_167
theorem cq_168_0 : k_168_0.all (chkI 168) = true := by decide +kernel
theorem ch_168 : (chkH 168 && plainName (own 168) && decide (mL 168 ≤ 13)) = true := by decide +kernel
theorem ck_168 : chkM 168 = true := chk_mk (by rw [show mK 168 = k_168 from rfl, show k_168 = k_168_0 from rfl]; exact cq_168_0) ch_168
theorem cq_169_0 : k_169_0.all (chkI 169) = true := by decide +kernel
theorem ch_169 : (chkH 169 && plainName (own 169) && decide (mL 169 ≤ 13)) = true := by decide +kernel
theorem ck_169 : chkM 169 = true := chk_mk (by rw [show mK 169 = k_169 from rfl, show k_169 = k_169_0 from rfl]; exact cq_169_0) ch_169
theorem cq_170_0 : k_170_0.all (chkI 170) = true := by decide +kernel
theorem cq_170_1 : k_170_1.all (chkI 170) = true := by decide +kernel
theorem cq_170_2 : k_170_2.all (chkI 170) = true := by decide +kernel
theorem ch_170 : (chkH 170 && plainName (own 170) && decide (mL 170 ≤ 13)) = true := by decide +kernel
theorem ck_170 : chkM 170 = true := chk_mk (by rw [show mK 170 = k_170 from rfl]; unfold k_170; simp only [List.all_append, cq_170_0, cq_170_1, cq_170_2, Bool.and_self]) ch_170
theorem cq_171_0 : k_171_0.all (chkI 171) = true := by decide +kernel
theorem ch_171 : (chkH 171 && plainName (own 171) && decide (mL 171 ≤ 13)) = true := by decide +kernel
theorem ck_171 : chkM 171 = true := chk_mk (by rw [show mK 171 = k_171 from rfl, show k_171 = k_171_0 from rfl]; exact cq_171_0) ch_171
theorem cq_172_0 : k_172_0.all (chkI 172) = true := by decide +kernel
theorem ch_172 : (chkH 172 && plainName (own 172) && decide (mL 172 ≤ 13)) = true := by decide +kernel
theorem ck_172 : chkM 172 = true := chk_mk (by rw [show mK 172 = k_172 from rfl, show k_172 = k_172_0 from rfl]; exact cq_172_0) ch_172
theorem cq_173_0 : k_173_0.all (chkI 173) = true := by decide +kernel
theorem ch_173 : (chkH 173 && plainName (own 173) && decide (mL 173 ≤ 13)) = true := by decide +kernel
theorem ck_173 : chkM 173 = true := chk_mk (by rw [show mK 173 = k_173 from rfl, show k_173 = k_173_0 from rfl]; exact cq_173_0) ch_173
theorem cq_174_0 : k_174_0.all (chkI 174) = true := by decide +kernel
theorem ch_174 : (chkH 174 && plainName (own 174) && decide (mL 174 ≤ 13)) = true := by decide +kernel
theorem ck_174 : chkM 174 = true := chk_mk (by rw [show mK 174 = k_174 from rfl, show k_174 = k_174_0 from rfl]; exact cq_174_0) ch_174
theorem cq_175_0 : k_175_0.all (chkI 175) = true := by decide +kernel
theorem ch_175 : (chkH 175 && plainName (own 175) && decide (mL 175 ≤ 13)) = true := by decide +kernel
theorem ck_175 : chkM 175 = true := chk_mk (by rw [show mK 175 = k_175 from rfl, show k_175 = k_175_0 from rfl]; exact cq_175_0) ch_175
theorem cq_176_0 : k_176_0.all (chkI 176) = true := by decide +kernel
theorem ch_176 : (chkH 176 && plainName (own 176) && decide (mL 176 ≤ 13)) = true := by decide +kernel
theorem ck_176 : chkM 176 = true := chk_mk (by rw [show mK 176 = k_176 from rfl, show k_176 = k_176_0 from rfl]; exact cq_176_0) ch_176
theorem cq_177_0 : k_177_0.all (chkI 177) = true := by decide +kernel
theorem cq_177_1 : k_177_1.all (chkI 177) = true := by decide +kernel
theorem ch_177 : (chkH 177 && plainName (own 177) && decide (mL 177 ≤ 13)) = true := by decide +kernel
theorem ck_177 : chkM 177 = true := chk_mk (by rw [show mK 177 = k_177 from rfl]; unfold k_177; simp only [List.all_append, cq_177_0, cq_177_1, Bool.and_self]) ch_177
theorem cq_178_0 : k_178_0.all (chkI 178) = true := by decide +kernel
theorem cq_178_1 : k_178_1.all (chkI 178) = true := by decide +kernel
theorem ch_178 : (chkH 178 && plainName (own 178) && decide (mL 178 ≤ 13)) = true := by decide +kernel
theorem ck_178 : chkM 178 = true := chk_mk (by rw [show mK 178 = k_178 from rfl]; unfold k_178; simp only [List.all_append, cq_178_0, cq_178_1, Bool.and_self]) ch_178
theorem cq_179_0 : k_179_0.all (chkI 179) = true := by decide +kernel
theorem ch_179 : (chkH 179 && plainName (own 179) && decide (mL 179 ≤ 13)) = true := by decide +kernel
theorem ck_179 : chkM 179 = true := chk_mk (by rw [show mK 179 = k_179 from rfl, show k_179 = k_179_0 from rfl]; exact cq_179_0) ch_179
theorem cq_180_0 : k_180_0.all (chkI 180) = true := by decide +kernel
theorem ch_180 : (chkH 180 && plainName (own 180) && decide (mL 180 ≤ 13)) = true := by decide +kernel
theorem ck_180 : chkM 180 = true := chk_mk (by rw [show mK 180 = k_180 from rfl, show k_180 = k_180_0 from rfl]; exact cq_180_0) ch_180
theorem cq_181_0 : k_181_0.all (chkI 181) = true := by decide +kernel
theorem ch_181 : (chkH 181 && plainName (own 181) && decide (mL 181 ≤ 13)) = true := by decide +kernel
theorem ck_181 : chkM 181 = true := chk_mk (by rw [show mK 181 = k_181 from rfl, show k_181 = k_181_0 from rfl]; exact cq_181_0) ch_181
theorem cq_182_0 : k_182_0.all (chkI 182) = true := by decide +kernel
theorem ch_182 : (chkH 182 && plainName (own 182) && decide (mL 182 ≤ 13)) = true := by decide +kernel
theorem ck_182 : chkM 182 = true := chk_mk (by rw [show mK 182 = k_182 from rfl, show k_182 = k_182_0 from rfl]; exact cq_182_0) ch_182
theorem cq_183_0 : k_183_0.all (chkI 183) = true := by decide +kernel
theorem ch_183 : (chkH 183 && plainName (own 183) && decide (mL 183 ≤ 13)) = true := by decide +kernel
theorem ck_183 : chkM 183 = true := chk_mk (by rw [show mK 183 = k_183 from rfl, show k_183 = k_183_0 from rfl]; exact cq_183_0) ch_183
theorem cq_184_0 : k_184_0.all (chkI 184) = true := by decide +kernel
theorem ch_184 : (chkH 184 && plainName (own 184) && decide (mL 184 ≤ 13)) = true := by decide +kernel
theorem ck_184 : chkM 184 = true := chk_mk (by rw [show mK 184 = k_184 from rfl, show k_184 = k_184_0 from rfl]; exact cq_184_0) ch_184
theorem cq_185_0 : k_185_0.all (chkI 185) = true := by decide +kernel
theorem ch_185 : (chkH 185 && plainName (own 185) && decide (mL 185 ≤ 13)) = true := by decide +kernel
theorem ck_185 : chkM 185 = true := chk_mk (by rw [show mK 185 = k_185 from rfl, show k_185 = k_185_0 from rfl]; exact cq_185_0) ch_185
theorem cq_186_0 : k_186_0.all (chkI 186) = true := by decide +kernel
theorem ch_186 : (chkH 186 && plainName (own 186) && decide (mL 186 ≤ 13)) = true := by decide +kernel
theorem ck_186 : chkM 186 = true := chk_mk (by rw [show mK 186 = k_186 from rfl, show k_186 = k_186_0 from rfl]; exact cq_186_0) ch_186
theorem cq_187_0 : k_187_0.all (chkI 187) = true := by decide +kernel
theorem ch_187 : (chkH 187 && plainName (own 187) && decide (mL 187 ≤ 13)) = true := by decide +kernel
theorem ck_187 : chkM 187 = true := chk_mk (by rw [show mK 187 = k_187 from rfl, show k_187 = k_187_0 from rfl]; exact cq_187_0) ch_187
theorem cq_188_0 : k_188_0.all (chkI 188) = true := by decide +kernel
theorem ch_188 : (chkH 188 && plainName (own 188) && decide (mL 188 ≤ 13)) = true := by decide +kernel
theorem ck_188 : chkM 188 = true := chk_mk (by rw [show mK 188 = k_188 from rfl, show k_188 = k_188_0 from rfl]; exact cq_188_0) ch_188
theorem cq_189_0 : k_189_0.all (chkI 189) = true := by decide +kernel
theorem ch_189 : (chkH 189 && plainName (own 189) && decide (mL 189 ≤ 13)) = true := by decide +kernel
theorem ck_189 : chkM 189 = true := chk_mk (by rw [show mK 189 = k_189 from rfl, show k_189 = k_189_0 from rfl]; exact cq_189_0) ch_189
theorem cq_190_0 : k_190_0.all (chkI 190) = true := by decide +kernel
theorem ch_190 : (chkH 190 && plainName (own 190) && decide (mL 190 ≤ 13)) = true := by decide +kernel
theorem ck_190 : chkM 190 = true := chk_mk (by rw [show mK 190 = k_190 from rfl, show k_190 = k_190_0 from rfl]; exact cq_190_0) ch_190
theorem cq_191_0 : k_191_0.all (chkI 191) = true := by decide +kernel
theorem cq_191_1 : k_191_1.all (chkI 191) = true := by decide +kernel
theorem ch_191 : (chkH 191 && plainName (own 191) && decide (mL 191 ≤ 13)) = true := by decide +kernel
theorem ck_191 : chkM 191 = true := chk_mk (by rw [show mK 191 = k_191 from rfl]; unfold k_191; simp only [List.all_append, cq_191_0, cq_191_1, Bool.and_self]) ch_191
theorem cq_192_0 : k_192_0.all (chkI 192) = true := by decide +kernel
theorem cq_192_1 : k_192_1.all (chkI 192) = true := by decide +kernel
theorem ch_192 : (chkH 192 && plainName (own 192) && decide (mL 192 ≤ 13)) = true := by decide +kernel
theorem ck_192 : chkM 192 = true := chk_mk (by rw [show mK 192 = k_192 from rfl]; unfold k_192; simp only [List.all_append, cq_192_0, cq_192_1, Bool.and_self]) ch_192
theorem cq_193_0 : k_193_0.all (chkI 193) = true := by decide +kernel
theorem ch_193 : (chkH 193 && plainName (own 193) && decide (mL 193 ≤ 13)) = true := by decide +kernel
theorem ck_193 : chkM 193 = true := chk_mk (by rw [show mK 193 = k_193 from rfl, show k_193 = k_193_0 from rfl]; exact cq_193_0) ch_193
theorem cq_194_0 : k_194_0.all (chkI 194) = true := by decide +kernel
theorem ch_194 : (chkH 194 && plainName (own 194) && decide (mL 194 ≤ 13)) = true := by decide +kernel
theorem ck_194 : chkM 194 = true := chk_mk (by rw [show mK 194 = k_194 from rfl, show k_194 = k_194_0 from rfl]; exact cq_194_0) ch_194
theorem cq_195_0 : k_195_0.all (chkI 195) = true := by decide +kernel
theorem cq_195_1 : k_195_1.all (chkI 195) = true := by decide +kernel
theorem cq_195_2 : k_195_2.all (chkI 195) = true := by decide +kernel
theorem ch_195 : (chkH 195 && plainName (own 195) && decide (mL 195 ≤ 13)) = true := by decide +kernel
theorem ck_195 : chkM 195 = true := chk_mk (by rw [show mK 195 = k_195 from rfl]; unfold k_195; simp only [List.all_append, cq_195_0, cq_195_1, cq_195_2, Bool.and_self]) ch_195
theorem cq_196_0 : k_196_0.all (chkI 196) = true := by decide +kernel
theorem ch_196 : (chkH 196 && plainName (own 196) && decide (mL 196 ≤ 13)) = true := by decide +kernel
theorem ck_196 : chkM 196 = true := chk_mk (by rw [show mK 196 = k_196 from rfl, show k_196 = k_196_0 from rfl]; exact cq_196_0) ch_196
theorem cq_197_0 : k_197_0.all (chkI 197) = true := by decide +kernel
theorem ch_197 : (chkH 197 && plainName (own 197) && decide (mL 197 ≤ 13)) = true := by decide +kernel
theorem ck_197 : chkM 197 = true := chk_mk (by rw [show mK 197 = k_197 from rfl, show k_197 = k_197_0 from rfl]; exact cq_197_0) ch_197
theorem cq_198_0 : k_198_0.all (chkI 198) = true := by decide +kernel
theorem ch_198 : (chkH 198 && plainName (own 198) && decide (mL 198 ≤ 13)) = true := by decide +kernel
theorem ck_198 : chkM 198 = true := chk_mk (by rw [show mK 198 = k_198 from rfl, show k_198 = k_198_0 from rfl]; exact cq_198_0) ch_198
theorem cq_199_0 : k_199_0.all (chkI 199) = true := by decide +kernel
theorem ch_199 : (chkH 199 && plainName (own 199) && decide (mL 199 ≤ 13)) = true := by decide +kernel
theorem ck_199 : chkM 199 = true := chk_mk (by rw [show mK 199 = k_199 from rfl, show k_199 = k_199_0 from rfl]; exact cq_199_0) ch_199
theorem cq_200_0 : k_200_0.all (chkI 200) = true := by decide +kernel
theorem ch_200 : (chkH 200 && plainName (own 200) && decide (mL 200 ≤ 13)) = true := by decide +kernel
theorem ck_200 : chkM 200 = true := chk_mk (by rw [show mK 200 = k_200 from rfl, show k_200 = k_200_0 from rfl]; exact cq_200_0) ch_200
theorem cq_201_0 : k_201_0.all (chkI 201) = true := by decide +kernel
theorem ch_201 : (chkH 201 && plainName (own 201) && decide (mL 201 ≤ 13)) = true := by decide +kernel
theorem ck_201 : chkM 201 = true := chk_mk (by rw [show mK 201 = k_201 from rfl, show k_201 = k_201_0 from rfl]; exact cq_201_0) ch_201
theorem cq_202_0 : k_202_0.all (chkI 202) = true := by decide +kernel
theorem ch_202 : (chkH 202 && plainName (own 202) && decide (mL 202 ≤ 13)) = true := by decide +kernel
theorem ck_202 : chkM 202 = true := chk_mk (by rw [show mK 202 = k_202 from rfl, show k_202 = k_202_0 from rfl]; exact cq_202_0) ch_202
theorem cq_203_0 : k_203_0.all (chkI 203) = true := by decide +kernel
theorem ch_203 : (chkH 203 && plainName (own 203) && decide (mL 203 ≤ 13)) = true := by decide +kernel
theorem ck_203 : chkM 203 = true := chk_mk (by rw [show mK 203 = k_203 from rfl, show k_203 = k_203_0 from rfl]; exact cq_203_0) ch_203
theorem cq_204_0 : k_204_0.all (chkI 204) = true := by decide +kernel
theorem ch_204 : (chkH 204 && plainName (own 204) && decide (mL 204 ≤ 13)) = true := by decide +kernel
theorem ck_204 : chkM 204 = true := chk_mk (by rw [show mK 204 = k_204 from rfl, show k_204 = k_204_0 from rfl]; exact cq_204_0) ch_204
theorem cq_205_0 : k_205_0.all (chkI 205) = true := by decide +kernel
theorem ch_205 : (chkH 205 && plainName (own 205) && decide (mL 205 ≤ 13)) = true := by decide +kernel
theorem ck_205 : chkM 205 = true := chk_mk (by rw [show mK 205 = k_205 from rfl, show k_205 = k_205_0 from rfl]; exact cq_205_0) ch_205
theorem cq_206_0 : k_206_0.all (chkI 206) = true := by decide +kernel
theorem ch_206 : (chkH 206 && plainName (own 206) && decide (mL 206 ≤ 13)) = true := by decide +kernel
theorem ck_206 : chkM 206 = true := chk_mk (by rw [show mK 206 = k_206 from rfl, show k_206 = k_206_0 from rfl]; exact cq_206_0) ch_206
theorem cq_207_0 : k_207_0.all (chkI 207) = true := by decide +kernel
theorem ch_207 : (chkH 207 && plainName (own 207) && decide (mL 207 ≤ 13)) = true := by decide +kernel
theorem ck_207 : chkM 207 = true := chk_mk (by rw [show mK 207 = k_207 from rfl, show k_207 = k_207_0 from rfl]; exact cq_207_0) ch_207
theorem cq_208_0 : k_208_0.all (chkI 208) = true := by decide +kernel
theorem ch_208 : (chkH 208 && plainName (own 208) && decide (mL 208 ≤ 13)) = true := by decide +kernel
theorem ck_208 : chkM 208 = true := chk_mk (by rw [show mK 208 = k_208 from rfl, show k_208 = k_208_0 from rfl]; exact cq_208_0) ch_208
theorem cq_209_0 : k_209_0.all (chkI 209) = true := by decide +kernel
theorem ch_209 : (chkH 209 && plainName (own 209) && decide (mL 209 ≤ 13)) = true := by decide +kernel
theorem ck_209 : chkM 209 = true := chk_mk (by rw [show mK 209 = k_209 from rfl, show k_209 = k_209_0 from rfl]; exact cq_209_0) ch_209
theorem cq_210_0 : k_210_0.all (chkI 210) = true := by decide +kernel
theorem ch_210 : (chkH 210 && plainName (own 210) && decide (mL 210 ≤ 13)) = true := by decide +kernel
theorem ck_210 : chkM 210 = true := chk_mk (by rw [show mK 210 = k_210 from rfl, show k_210 = k_210_0 from rfl]; exact cq_210_0) ch_210
theorem cq_211_0 : k_211_0.all (chkI 211) = true := by decide +kernel
theorem ch_211 : (chkH 211 && plainName (own 211) && decide (mL 211 ≤ 13)) = true := by decide +kernel
theorem ck_211 : chkM 211 = true := chk_mk (by rw [show mK 211 = k_211 from rfl, show k_211 = k_211_0 from rfl]; exact cq_211_0) ch_211
theorem cq_212_0 : k_212_0.all (chkI 212) = true := by decide +kernel
theorem ch_212 : (chkH 212 && plainName (own 212) && decide (mL 212 ≤ 13)) = true := by decide +kernel
theorem ck_212 : chkM 212 = true := chk_mk (by rw [show mK 212 = k_212 from rfl, show k_212 = k_212_0 from rfl]; exact cq_212_0) ch_212
theorem cq_213_0 : k_213_0.all (chkI 213) = true := by decide +kernel
theorem ch_213 : (chkH 213 && plainName (own 213) && decide (mL 213 ≤ 13)) = true := by decide +kernel
theorem ck_213 : chkM 213 = true := chk_mk (by rw [show mK 213 = k_213 from rfl, show k_213 = k_213_0 from rfl]; exact cq_213_0) ch_213
theorem cq_214_0 : k_214_0.all (chkI 214) = true := by decide +kernel
theorem ch_214 : (chkH 214 && plainName (own 214) && decide (mL 214 ≤ 13)) = true := by decide +kernel
theorem ck_214 : chkM 214 = true := chk_mk (by rw [show mK 214 = k_214 from rfl, show k_214 = k_214_0 from rfl]; exact cq_214_0) ch_214
theorem cq_215_0 : k_215_0.all (chkI 215) = true := by decide +kernel
theorem ch_215 : (chkH 215 && plainName (own 215) && decide (mL 215 ≤ 13)) = true := by decide +kernel
theorem ck_215 : chkM 215 = true := chk_mk (by rw [show mK 215 = k_215 from rfl, show k_215 = k_215_0 from rfl]; exact cq_215_0) ch_215
theorem cq_216_0 : k_216_0.all (chkI 216) = true := by decide +kernel
theorem ch_216 : (chkH 216 && plainName (own 216) && decide (mL 216 ≤ 13)) = true := by decide +kernel
theorem ck_216 : chkM 216 = true := chk_mk (by rw [show mK 216 = k_216 from rfl, show k_216 = k_216_0 from rfl]; exact cq_216_0) ch_216
theorem cq_217_0 : k_217_0.all (chkI 217) = true := by decide +kernel
theorem ch_217 : (chkH 217 && plainName (own 217) && decide (mL 217 ≤ 13)) = true := by decide +kernel
theorem ck_217 : chkM 217 = true := chk_mk (by rw [show mK 217 = k_217 from rfl, show k_217 = k_217_0 from rfl]; exact cq_217_0) ch_217
theorem cq_218_0 : k_218_0.all (chkI 218) = true := by decide +kernel
theorem ch_218 : (chkH 218 && plainName (own 218) && decide (mL 218 ≤ 13)) = true := by decide +kernel
theorem ck_218 : chkM 218 = true := chk_mk (by rw [show mK 218 = k_218 from rfl, show k_218 = k_218_0 from rfl]; exact cq_218_0) ch_218
theorem cq_219_0 : k_219_0.all (chkI 219) = true := by decide +kernel
theorem cq_219_1 : k_219_1.all (chkI 219) = true := by decide +kernel
theorem ch_219 : (chkH 219 && plainName (own 219) && decide (mL 219 ≤ 13)) = true := by decide +kernel
theorem ck_219 : chkM 219 = true := chk_mk (by rw [show mK 219 = k_219 from rfl]; unfold k_219; simp only [List.all_append, cq_219_0, cq_219_1, Bool.and_self]) ch_219
theorem cq_220_0 : k_220_0.all (chkI 220) = true := by decide +kernel
theorem ch_220 : (chkH 220 && plainName (own 220) && decide (mL 220 ≤ 13)) = true := by decide +kernel
theorem ck_220 : chkM 220 = true := chk_mk (by rw [show mK 220 = k_220 from rfl, show k_220 = k_220_0 from rfl]; exact cq_220_0) ch_220
theorem cq_221_0 : k_221_0.all (chkI 221) = true := by decide +kernel
theorem ch_221 : (chkH 221 && plainName (own 221) && decide (mL 221 ≤ 13)) = true := by decide +kernel
theorem ck_221 : chkM 221 = true := chk_mk (by rw [show mK 221 = k_221 from rfl, show k_221 = k_221_0 from rfl]; exact cq_221_0) ch_221
theorem cq_222_0 : k_222_0.all (chkI 222) = true := by decide +kernel
theorem ch_222 : (chkH 222 && plainName (own 222) && decide (mL 222 ≤ 13)) = true := by decide +kernel
theorem ck_222 : chkM 222 = true := chk_mk (by rw [show mK 222 = k_222 from rfl, show k_222 = k_222_0 from rfl]; exact cq_222_0) ch_222
theorem cq_223_0 : k_223_0.all (chkI 223) = true := by decide +kernel
theorem ch_223 : (chkH 223 && plainName (own 223) && decide (mL 223 ≤ 13)) = true := by decide +kernel
theorem ck_223 : chkM 223 = true := chk_mk (by rw [show mK 223 = k_223 from rfl, show k_223 = k_223_0 from rfl]; exact cq_223_0) ch_223
theorem cq_224_0 : k_224_0.all (chkI 224) = true := by decide +kernel
theorem ch_224 : (chkH 224 && plainName (own 224) && decide (mL 224 ≤ 13)) = true := by decide +kernel
theorem ck_224 : chkM 224 = true := chk_mk (by rw [show mK 224 = k_224 from rfl, show k_224 = k_224_0 from rfl]; exact cq_224_0) ch_224
theorem cq_225_0 : k_225_0.all (chkI 225) = true := by decide +kernel
theorem ch_225 : (chkH 225 && plainName (own 225) && decide (mL 225 ≤ 13)) = true := by decide +kernel
theorem ck_225 : chkM 225 = true := chk_mk (by rw [show mK 225 = k_225 from rfl, show k_225 = k_225_0 from rfl]; exact cq_225_0) ch_225
theorem cq_226_0 : k_226_0.all (chkI 226) = true := by decide +kernel
theorem cq_226_1 : k_226_1.all (chkI 226) = true := by decide +kernel
theorem ch_226 : (chkH 226 && plainName (own 226) && decide (mL 226 ≤ 13)) = true := by decide +kernel
theorem ck_226 : chkM 226 = true := chk_mk (by rw [show mK 226 = k_226 from rfl]; unfold k_226; simp only [List.all_append, cq_226_0, cq_226_1, Bool.and_self]) ch_226
theorem cq_227_0 : k_227_0.all (chkI 227) = true := by decide +kernel
theorem cq_227_1 : k_227_1.all (chkI 227) = true := by decide +kernel
theorem ch_227 : (chkH 227 && plainName (own 227) && decide (mL 227 ≤ 13)) = true := by decide +kernel
theorem ck_227 : chkM 227 = true := chk_mk (by rw [show mK 227 = k_227 from rfl]; unfold k_227; simp only [List.all_append, cq_227_0, cq_227_1, Bool.and_self]) ch_227
theorem cq_228_0 : k_228_0.all (chkI 228) = true := by decide +kernel
theorem ch_228 : (chkH 228 && plainName (own 228) && decide (mL 228 ≤ 13)) = true := by decide +kernel
theorem ck_228 : chkM 228 = true := chk_mk (by rw [show mK 228 = k_228 from rfl, show k_228 = k_228_0 from rfl]; exact cq_228_0) ch_228
theorem cq_229_0 : k_229_0.all (chkI 229) = true := by decide +kernel
theorem ch_229 : (chkH 229 && plainName (own 229) && decide (mL 229 ≤ 13)) = true := by decide +kernel
theorem ck_229 : chkM 229 = true := chk_mk (by rw [show mK 229 = k_229 from rfl, show k_229 = k_229_0 from rfl]; exact cq_229_0) ch_229
theorem cq_230_0 : k_230_0.all (chkI 230) = true := by decide +kernel
theorem ch_230 : (chkH 230 && plainName (own 230) && decide (mL 230 ≤ 13)) = true := by decide +kernel
theorem ck_230 : chkM 230 = true := chk_mk (by rw [show mK 230 = k_230 from rfl, show k_230 = k_230_0 from rfl]; exact cq_230_0) ch_230
theorem cq_231_0 : k_231_0.all (chkI 231) = true := by decide +kernel
theorem ch_231 : (chkH 231 && plainName (own 231) && decide (mL 231 ≤ 13)) = true := by decide +kernel
theorem ck_231 : chkM 231 = true := chk_mk (by rw [show mK 231 = k_231 from rfl, show k_231 = k_231_0 from rfl]; exact cq_231_0) ch_231
theorem cq_232_0 : k_232_0.all (chkI 232) = true := by decide +kernel
theorem ch_232 : (chkH 232 && plainName (own 232) && decide (mL 232 ≤ 13)) = true := by decide +kernel
theorem ck_232 : chkM 232 = true := chk_mk (by rw [show mK 232 = k_232 from rfl, show k_232 = k_232_0 from rfl]; exact cq_232_0) ch_232
