/-! the rows of methods 160 to 225 pass the check -/
set_option maxRecDepth 1000000 in
theorem x_jc_161 : ∀ j, j < 161 → x_jchk j = true := x_lt_step x_jc_160 (show x_jchk 160 = true by decide +kernel)
set_option maxRecDepth 1000000 in
theorem x_jc_162 : ∀ j, j < 162 → x_jchk j = true := x_lt_step x_jc_161 (show x_jchk 161 = true by decide +kernel)
set_option maxRecDepth 1000000 in
theorem x_jc_163 : ∀ j, j < 163 → x_jchk j = true := x_lt_step x_jc_162 (show x_jchk 162 = true by decide +kernel)
set_option maxRecDepth 1000000 in
theorem x_jc_164 : ∀ j, j < 164 → x_jchk j = true := x_lt_step x_jc_163 (show x_jchk 163 = true by decide +kernel)
set_option maxRecDepth 1000000 in
theorem x_jc_165 : ∀ j, j < 165 → x_jchk j = true := x_lt_step x_jc_164 (show x_jchk 164 = true by decide +kernel)
set_option maxRecDepth 1000000 in
theorem x_jc_166 : ∀ j, j < 166 → x_jchk j = true := x_lt_step x_jc_165 (show x_jchk 165 = true by decide +kernel)
set_option maxRecDepth 1000000 in
theorem x_jc_167 : ∀ j, j < 167 → x_jchk j = true := x_lt_step x_jc_166 (show x_jchk 166 = true by decide +kernel)
set_option maxRecDepth 1000000 in
theorem x_jp_167_0 : ((x_C 167).take 100).all (x_rj 167) = true := by decide +kernel
set_option maxRecDepth 1000000 in
theorem x_jp_167_1 : (((x_C 167).drop 100)).all (x_rj 167) = true := by decide +kernel
set_option maxRecDepth 1000000 in
theorem x_jd_167 : x_chc (x_C 167) = true := by decide +kernel
theorem x_ja_167 : (x_C 167).all (x_rj 167) = true := (x_all_cut (x_rj 167) 100 (x_C 167) x_jp_167_0 x_jp_167_1)
theorem x_jc_168 : ∀ j, j < 168 → x_jchk j = true := x_lt_step x_jc_167 (by show ((x_C 167).all (x_rj 167) && x_chc (x_C 167)) = true; rw [x_ja_167, x_jd_167]; rfl)
set_option maxRecDepth 1000000 in
theorem x_jc_169 : ∀ j, j < 169 → x_jchk j = true := x_lt_step x_jc_168 (show x_jchk 168 = true by decide +kernel)
set_option maxRecDepth 1000000 in
theorem x_jc_170 : ∀ j, j < 170 → x_jchk j = true := x_lt_step x_jc_169 (show x_jchk 169 = true by decide +kernel)
set_option maxRecDepth 1000000 in
theorem x_jc_171 : ∀ j, j < 171 → x_jchk j = true := x_lt_step x_jc_170 (show x_jchk 170 = true by decide +kernel)
set_option maxRecDepth 1000000 in
theorem x_jc_172 : ∀ j, j < 172 → x_jchk j = true := x_lt_step x_jc_171 (show x_jchk 171 = true by decide +kernel)
set_option maxRecDepth 1000000 in
theorem x_jc_173 : ∀ j, j < 173 → x_jchk j = true := x_lt_step x_jc_172 (show x_jchk 172 = true by decide +kernel)
set_option maxRecDepth 1000000 in
theorem x_jc_174 : ∀ j, j < 174 → x_jchk j = true := x_lt_step x_jc_173 (show x_jchk 173 = true by decide +kernel)
set_option maxRecDepth 1000000 in
theorem x_jc_175 : ∀ j, j < 175 → x_jchk j = true := x_lt_step x_jc_174 (show x_jchk 174 = true by decide +kernel)
set_option maxRecDepth 1000000 in
theorem x_jc_176 : ∀ j, j < 176 → x_jchk j = true := x_lt_step x_jc_175 (show x_jchk 175 = true by decide +kernel)
set_option maxRecDepth 1000000 in
theorem x_jc_177 : ∀ j, j < 177 → x_jchk j = true := x_lt_step x_jc_176 (show x_jchk 176 = true by decide +kernel)
set_option maxRecDepth 1000000 in
theorem x_jc_178 : ∀ j, j < 178 → x_jchk j = true := x_lt_step x_jc_177 (show x_jchk 177 = true by decide +kernel)
set_option maxRecDepth 1000000 in
theorem x_jc_179 : ∀ j, j < 179 → x_jchk j = true := x_lt_step x_jc_178 (show x_jchk 178 = true by decide +kernel)
set_option maxRecDepth 1000000 in
theorem x_jc_180 : ∀ j, j < 180 → x_jchk j = true := x_lt_step x_jc_179 (show x_jchk 179 = true by decide +kernel)
set_option maxRecDepth 1000000 in
theorem x_jc_181 : ∀ j, j < 181 → x_jchk j = true := x_lt_step x_jc_180 (show x_jchk 180 = true by decide +kernel)
set_option maxRecDepth 1000000 in
theorem x_jc_182 : ∀ j, j < 182 → x_jchk j = true := x_lt_step x_jc_181 (show x_jchk 181 = true by decide +kernel)
set_option maxRecDepth 1000000 in
theorem x_jc_183 : ∀ j, j < 183 → x_jchk j = true := x_lt_step x_jc_182 (show x_jchk 182 = true by decide +kernel)
set_option maxRecDepth 1000000 in
theorem x_jc_184 : ∀ j, j < 184 → x_jchk j = true := x_lt_step x_jc_183 (show x_jchk 183 = true by decide +kernel)
set_option maxRecDepth 1000000 in
theorem x_jc_185 : ∀ j, j < 185 → x_jchk j = true := x_lt_step x_jc_184 (show x_jchk 184 = true by decide +kernel)
set_option maxRecDepth 1000000 in
theorem x_jc_186 : ∀ j, j < 186 → x_jchk j = true := x_lt_step x_jc_185 (show x_jchk 185 = true by decide +kernel)
set_option maxRecDepth 1000000 in
theorem x_jc_187 : ∀ j, j < 187 → x_jchk j = true := x_lt_step x_jc_186 (show x_jchk 186 = true by decide +kernel)
set_option maxRecDepth 1000000 in
theorem x_jc_188 : ∀ j, j < 188 → x_jchk j = true := x_lt_step x_jc_187 (show x_jchk 187 = true by decide +kernel)
set_option maxRecDepth 1000000 in
theorem x_jc_189 : ∀ j, j < 189 → x_jchk j = true := x_lt_step x_jc_188 (show x_jchk 188 = true by decide +kernel)
set_option maxRecDepth 1000000 in
theorem x_jc_190 : ∀ j, j < 190 → x_jchk j = true := x_lt_step x_jc_189 (show x_jchk 189 = true by decide +kernel)
set_option maxRecDepth 1000000 in
theorem x_jc_191 : ∀ j, j < 191 → x_jchk j = true := x_lt_step x_jc_190 (show x_jchk 190 = true by decide +kernel)
set_option maxRecDepth 1000000 in
theorem x_jc_192 : ∀ j, j < 192 → x_jchk j = true := x_lt_step x_jc_191 (show x_jchk 191 = true by decide +kernel)
set_option maxRecDepth 1000000 in
theorem x_jc_193 : ∀ j, j < 193 → x_jchk j = true := x_lt_step x_jc_192 (show x_jchk 192 = true by decide +kernel)
set_option maxRecDepth 1000000 in
theorem x_jc_194 : ∀ j, j < 194 → x_jchk j = true := x_lt_step x_jc_193 (show x_jchk 193 = true by decide +kernel)
set_option maxRecDepth 1000000 in
theorem x_jc_195 : ∀ j, j < 195 → x_jchk j = true := x_lt_step x_jc_194 (show x_jchk 194 = true by decide +kernel)
set_option maxRecDepth 1000000 in
theorem x_jc_196 : ∀ j, j < 196 → x_jchk j = true := x_lt_step x_jc_195 (show x_jchk 195 = true by decide +kernel)
set_option maxRecDepth 1000000 in
theorem x_jc_197 : ∀ j, j < 197 → x_jchk j = true := x_lt_step x_jc_196 (show x_jchk 196 = true by decide +kernel)
set_option maxRecDepth 1000000 in
theorem x_jc_198 : ∀ j, j < 198 → x_jchk j = true := x_lt_step x_jc_197 (show x_jchk 197 = true by decide +kernel)
set_option maxRecDepth 1000000 in
theorem x_jc_199 : ∀ j, j < 199 → x_jchk j = true := x_lt_step x_jc_198 (show x_jchk 198 = true by decide +kernel)
set_option maxRecDepth 1000000 in
theorem x_jc_200 : ∀ j, j < 200 → x_jchk j = true := x_lt_step x_jc_199 (show x_jchk 199 = true by decide +kernel)
set_option maxRecDepth 1000000 in
theorem x_jc_201 : ∀ j, j < 201 → x_jchk j = true := x_lt_step x_jc_200 (show x_jchk 200 = true by decide +kernel)
set_option maxRecDepth 1000000 in
theorem x_jc_202 : ∀ j, j < 202 → x_jchk j = true := x_lt_step x_jc_201 (show x_jchk 201 = true by decide +kernel)
set_option maxRecDepth 1000000 in
theorem x_jc_203 : ∀ j, j < 203 → x_jchk j = true := x_lt_step x_jc_202 (show x_jchk 202 = true by decide +kernel)
set_option maxRecDepth 1000000 in
theorem x_jc_204 : ∀ j, j < 204 → x_jchk j = true := x_lt_step x_jc_203 (show x_jchk 203 = true by decide +kernel)
set_option maxRecDepth 1000000 in
theorem x_jc_205 : ∀ j, j < 205 → x_jchk j = true := x_lt_step x_jc_204 (show x_jchk 204 = true by decide +kernel)
set_option maxRecDepth 1000000 in
theorem x_jc_206 : ∀ j, j < 206 → x_jchk j = true := x_lt_step x_jc_205 (show x_jchk 205 = true by decide +kernel)
set_option maxRecDepth 1000000 in
theorem x_jc_207 : ∀ j, j < 207 → x_jchk j = true := x_lt_step x_jc_206 (show x_jchk 206 = true by decide +kernel)
set_option maxRecDepth 1000000 in
theorem x_jc_208 : ∀ j, j < 208 → x_jchk j = true := x_lt_step x_jc_207 (show x_jchk 207 = true by decide +kernel)
set_option maxRecDepth 1000000 in
theorem x_jc_209 : ∀ j, j < 209 → x_jchk j = true := x_lt_step x_jc_208 (show x_jchk 208 = true by decide +kernel)
set_option maxRecDepth 1000000 in
theorem x_jc_210 : ∀ j, j < 210 → x_jchk j = true := x_lt_step x_jc_209 (show x_jchk 209 = true by decide +kernel)
set_option maxRecDepth 1000000 in
theorem x_jc_211 : ∀ j, j < 211 → x_jchk j = true := x_lt_step x_jc_210 (show x_jchk 210 = true by decide +kernel)
set_option maxRecDepth 1000000 in
theorem x_jc_212 : ∀ j, j < 212 → x_jchk j = true := x_lt_step x_jc_211 (show x_jchk 211 = true by decide +kernel)
set_option maxRecDepth 1000000 in
theorem x_jc_213 : ∀ j, j < 213 → x_jchk j = true := x_lt_step x_jc_212 (show x_jchk 212 = true by decide +kernel)
set_option maxRecDepth 1000000 in
theorem x_jc_214 : ∀ j, j < 214 → x_jchk j = true := x_lt_step x_jc_213 (show x_jchk 213 = true by decide +kernel)
set_option maxRecDepth 1000000 in
theorem x_jc_215 : ∀ j, j < 215 → x_jchk j = true := x_lt_step x_jc_214 (show x_jchk 214 = true by decide +kernel)
set_option maxRecDepth 1000000 in
theorem x_jc_216 : ∀ j, j < 216 → x_jchk j = true := x_lt_step x_jc_215 (show x_jchk 215 = true by decide +kernel)
set_option maxRecDepth 1000000 in
theorem x_jc_217 : ∀ j, j < 217 → x_jchk j = true := x_lt_step x_jc_216 (show x_jchk 216 = true by decide +kernel)
set_option maxRecDepth 1000000 in
theorem x_jc_218 : ∀ j, j < 218 → x_jchk j = true := x_lt_step x_jc_217 (show x_jchk 217 = true by decide +kernel)
set_option maxRecDepth 1000000 in
theorem x_jc_219 : ∀ j, j < 219 → x_jchk j = true := x_lt_step x_jc_218 (show x_jchk 218 = true by decide +kernel)
set_option maxRecDepth 1000000 in
theorem x_jc_220 : ∀ j, j < 220 → x_jchk j = true := x_lt_step x_jc_219 (show x_jchk 219 = true by decide +kernel)
set_option maxRecDepth 1000000 in
theorem x_jc_221 : ∀ j, j < 221 → x_jchk j = true := x_lt_step x_jc_220 (show x_jchk 220 = true by decide +kernel)
set_option maxRecDepth 1000000 in
theorem x_jc_222 : ∀ j, j < 222 → x_jchk j = true := x_lt_step x_jc_221 (show x_jchk 221 = true by decide +kernel)
set_option maxRecDepth 1000000 in
theorem x_jc_223 : ∀ j, j < 223 → x_jchk j = true := x_lt_step x_jc_222 (show x_jchk 222 = true by decide +kernel)
set_option maxRecDepth 1000000 in
theorem x_jc_224 : ∀ j, j < 224 → x_jchk j = true := x_lt_step x_jc_223 (show x_jchk 223 = true by decide +kernel)
set_option maxRecDepth 1000000 in
theorem x_jc_225 : ∀ j, j < 225 → x_jchk j = true := x_lt_step x_jc_224 (show x_jchk 224 = true by decide +kernel)
set_option maxRecDepth 1000000 in
theorem x_jc_226 : ∀ j, j < 226 → x_jchk j = true := x_lt_step x_jc_225 (show x_jchk 225 = true by decide +kernel)
theorem x_jok_all (j : Nat) (h : j < 226) : x_jok j := x_jchk_ok h (x_jc_226 j h)
