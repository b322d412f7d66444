theorem xco_144 (pc : Nat) : p_code 144 pc = p_find pc pc_144 := rfl
theorem xow_144 : p_own 144 = 12 := rfl
theorem xc_144_0 : p_code 144 0 = some (.new 8, 3) := (xco_144 0).trans rfl
theorem xc_144_3 : p_code 144 3 = some (.dup, 1) := (xco_144 3).trans rfl
theorem xc_144_4 : p_code 144 4 = some (.invokespecial 45, 3) := (xco_144 4).trans rfl
theorem xm_144_4 : p_calls 144 (.invokespecial 45) = some (0, 1) := by dsimp only [p_calls]; rw [xow_144]; rfl
theorem xc_144_7 : p_code 144 7 = some (.astore_n 1, 1) := (xco_144 7).trans rfl
theorem xc_144_8 : p_code 144 8 = some (.new 46, 3) := (xco_144 8).trans rfl
theorem xc_144_11 : p_code 144 11 = some (.dup, 1) := (xco_144 11).trans rfl
theorem xc_144_12 : p_code 144 12 = some (.invokespecial 48, 3) := (xco_144 12).trans rfl
theorem xm_144_12 : p_calls 144 (.invokespecial 48) = some (92, 1) := by dsimp only [p_calls]; rw [xow_144]; rfl
theorem xc_144_15 : p_code 144 15 = some (.astore_n 2, 1) := (xco_144 15).trans rfl
theorem xc_144_16 : p_code 144 16 = some (.iconst 1, 1) := (xco_144 16).trans rfl
theorem xc_144_17 : p_code 144 17 = some (.newarray .long, 2) := (xco_144 17).trans rfl
theorem xc_144_19 : p_code 144 19 = some (.astore_n 3, 1) := (xco_144 19).trans rfl
theorem xc_144_20 : p_code 144 20 = some (.iconst 0, 1) := (xco_144 20).trans rfl
theorem xc_144_21 : p_code 144 21 = some (.istore 4, 2) := (xco_144 21).trans rfl
theorem xc_144_23 : p_code 144 23 = some (.iload 4, 2) := (xco_144 23).trans rfl
theorem xc_144_25 : p_code 144 25 = some (.aload_n 0, 1) := (xco_144 25).trans rfl
theorem xc_144_26 : p_code 144 26 = some (.arraylength, 1) := (xco_144 26).trans rfl
theorem xc_144_27 : p_code 144 27 = some (.iconst 5, 1) := (xco_144 27).trans rfl
theorem xc_144_28 : p_code 144 28 = some (.isub, 1) := (xco_144 28).trans rfl
theorem xc_144_29 : p_code 144 29 = some (.if_icmp .gt 812, 3) := (xco_144 29).trans rfl
theorem xj_144_29 : p_tgt 29 (812) = 841 ∧ 0 ≤ ((29 : Nat) : Int) + (812) := ⟨by decide, by decide⟩
theorem xc_144_32 : p_code 144 32 = some (.aload_n 0, 1) := (xco_144 32).trans rfl
theorem xc_144_33 : p_code 144 33 = some (.iload 4, 2) := (xco_144 33).trans rfl
theorem xc_144_35 : p_code 144 35 = some (.iaload, 1) := (xco_144 35).trans rfl
theorem xc_144_36 : p_code 144 36 = some (.bipush 15, 2) := (xco_144 36).trans rfl
theorem xc_144_38 : p_code 144 38 = some (.iand, 1) := (xco_144 38).trans rfl
theorem xc_144_39 : p_code 144 39 = some (.tableswitch 796 0 13 #[69, 94, 107, 164, 233, 282, 337, 392, 460, 515, 540, 584, 640, 771], 69) := (xco_144 39).trans rfl
theorem xc_144_108 : p_code 144 108 = some (.aload_n 1, 1) := (xco_144 108).trans rfl
theorem xc_144_109 : p_code 144 109 = some (.aload_n 0, 1) := (xco_144 109).trans rfl
theorem xc_144_110 : p_code 144 110 = some (.iload 4, 2) := (xco_144 110).trans rfl
theorem xc_144_112 : p_code 144 112 = some (.iconst 1, 1) := (xco_144 112).trans rfl
theorem xc_144_113 : p_code 144 113 = some (.iadd, 1) := (xco_144 113).trans rfl
theorem xc_144_114 : p_code 144 114 = some (.iaload, 1) := (xco_144 114).trans rfl
theorem xc_144_115 : p_code 144 115 = some (.invokevirtual 49, 3) := (xco_144 115).trans rfl
theorem xm_144_115 : p_calls 144 (.invokevirtual 49) = some (7, 2) := by dsimp only [p_calls]; rw [xow_144]; rfl
theorem xc_144_118 : p_code 144 118 = some (.aload_n 2, 1) := (xco_144 118).trans rfl
theorem xc_144_119 : p_code 144 119 = some (.aload_n 0, 1) := (xco_144 119).trans rfl
theorem xc_144_120 : p_code 144 120 = some (.iload 4, 2) := (xco_144 120).trans rfl
theorem xc_144_122 : p_code 144 122 = some (.iconst 1, 1) := (xco_144 122).trans rfl
theorem xc_144_123 : p_code 144 123 = some (.iadd, 1) := (xco_144 123).trans rfl
theorem xc_144_124 : p_code 144 124 = some (.iaload, 1) := (xco_144 124).trans rfl
theorem xc_144_125 : p_code 144 125 = some (.invokevirtual 53, 3) := (xco_144 125).trans rfl
theorem xm_144_125 : p_calls 144 (.invokevirtual 53) = some (94, 2) := by dsimp only [p_calls]; rw [xow_144]; rfl
theorem xc_144_128 : p_code 144 128 = some (.if_icmp .eq 707, 3) := (xco_144 128).trans rfl
theorem xj_144_128 : p_tgt 128 (707) = 835 ∧ 0 ≤ ((128 : Nat) : Int) + (707) := ⟨by decide, by decide⟩
theorem xc_144_131 : p_code 144 131 = some (.iconst 0, 1) := (xco_144 131).trans rfl
theorem xc_144_132 : p_code 144 132 = some (.ireturn, 1) := (xco_144 132).trans rfl
theorem xc_144_133 : p_code 144 133 = some (.aload_n 1, 1) := (xco_144 133).trans rfl
theorem xc_144_134 : p_code 144 134 = some (.invokevirtual 54, 3) := (xco_144 134).trans rfl
theorem xm_144_134 : p_calls 144 (.invokevirtual 54) = some (9, 1) := by dsimp only [p_calls]; rw [xow_144]; rfl
theorem xc_144_137 : p_code 144 137 = some (.aload_n 2, 1) := (xco_144 137).trans rfl
theorem xc_144_138 : p_code 144 138 = some (.invokevirtual 57, 3) := (xco_144 138).trans rfl
theorem xm_144_138 : p_calls 144 (.invokevirtual 57) = some (95, 1) := by dsimp only [p_calls]; rw [xow_144]; rfl
theorem xc_144_141 : p_code 144 141 = some (.if_icmp .eq 694, 3) := (xco_144 141).trans rfl
theorem xj_144_141 : p_tgt 141 (694) = 835 ∧ 0 ≤ ((141 : Nat) : Int) + (694) := ⟨by decide, by decide⟩
theorem xc_144_144 : p_code 144 144 = some (.iconst 0, 1) := (xco_144 144).trans rfl
theorem xc_144_145 : p_code 144 145 = some (.ireturn, 1) := (xco_144 145).trans rfl
theorem xc_144_146 : p_code 144 146 = some (.aload_n 1, 1) := (xco_144 146).trans rfl
theorem xc_144_147 : p_code 144 147 = some (.aload_n 0, 1) := (xco_144 147).trans rfl
theorem xc_144_148 : p_code 144 148 = some (.iload 4, 2) := (xco_144 148).trans rfl
theorem xc_144_150 : p_code 144 150 = some (.iconst 1, 1) := (xco_144 150).trans rfl
theorem xc_144_151 : p_code 144 151 = some (.iadd, 1) := (xco_144 151).trans rfl
theorem xc_144_152 : p_code 144 152 = some (.iaload, 1) := (xco_144 152).trans rfl
theorem xc_144_153 : p_code 144 153 = some (.i2l, 1) := (xco_144 153).trans rfl
theorem xc_144_154 : p_code 144 154 = some (.bipush 32, 2) := (xco_144 154).trans rfl
theorem xc_144_156 : p_code 144 156 = some (.lshl, 1) := (xco_144 156).trans rfl
theorem xc_144_157 : p_code 144 157 = some (.aload_n 0, 1) := (xco_144 157).trans rfl
theorem xc_144_158 : p_code 144 158 = some (.iload 4, 2) := (xco_144 158).trans rfl
theorem xc_144_160 : p_code 144 160 = some (.iconst 2, 1) := (xco_144 160).trans rfl
theorem xc_144_161 : p_code 144 161 = some (.iadd, 1) := (xco_144 161).trans rfl
theorem xc_144_162 : p_code 144 162 = some (.iaload, 1) := (xco_144 162).trans rfl
theorem xc_144_163 : p_code 144 163 = some (.i2l, 1) := (xco_144 163).trans rfl
theorem xc_144_164 : p_code 144 164 = some (.ldc2_w 58, 3) := (xco_144 164).trans rfl
theorem xl_144_58 : p_lng (p_own 144) 58 = some (4294967295) := by rw [xow_144]; rfl
theorem xc_144_167 : p_code 144 167 = some (.land, 1) := (xco_144 167).trans rfl
theorem xc_144_168 : p_code 144 168 = some (.lor, 1) := (xco_144 168).trans rfl
theorem xc_144_169 : p_code 144 169 = some (.invokevirtual 60, 3) := (xco_144 169).trans rfl
theorem xm_144_169 : p_calls 144 (.invokevirtual 60) = some (49, 2) := by dsimp only [p_calls]; rw [xow_144]; rfl
theorem xc_144_172 : p_code 144 172 = some (.aload_n 2, 1) := (xco_144 172).trans rfl
theorem xc_144_173 : p_code 144 173 = some (.aload_n 0, 1) := (xco_144 173).trans rfl
theorem xc_144_174 : p_code 144 174 = some (.iload 4, 2) := (xco_144 174).trans rfl
theorem xc_144_176 : p_code 144 176 = some (.iconst 1, 1) := (xco_144 176).trans rfl
theorem xc_144_177 : p_code 144 177 = some (.iadd, 1) := (xco_144 177).trans rfl
theorem xc_144_178 : p_code 144 178 = some (.iaload, 1) := (xco_144 178).trans rfl
theorem xc_144_179 : p_code 144 179 = some (.i2l, 1) := (xco_144 179).trans rfl
theorem xc_144_180 : p_code 144 180 = some (.bipush 32, 2) := (xco_144 180).trans rfl
set_option maxRecDepth 100000 in
theorem xc_144_182 : p_code 144 182 = some (.lshl, 1) := (xco_144 182).trans rfl
set_option maxRecDepth 100000 in
theorem xc_144_183 : p_code 144 183 = some (.aload_n 0, 1) := (xco_144 183).trans rfl
set_option maxRecDepth 100000 in
theorem xc_144_184 : p_code 144 184 = some (.iload 4, 2) := (xco_144 184).trans rfl
set_option maxRecDepth 100000 in
theorem xc_144_186 : p_code 144 186 = some (.iconst 2, 1) := (xco_144 186).trans rfl
set_option maxRecDepth 100000 in
theorem xc_144_187 : p_code 144 187 = some (.iadd, 1) := (xco_144 187).trans rfl
set_option maxRecDepth 100000 in
theorem xc_144_188 : p_code 144 188 = some (.iaload, 1) := (xco_144 188).trans rfl
set_option maxRecDepth 100000 in
theorem xc_144_189 : p_code 144 189 = some (.i2l, 1) := (xco_144 189).trans rfl
set_option maxRecDepth 100000 in
theorem xc_144_190 : p_code 144 190 = some (.ldc2_w 58, 3) := (xco_144 190).trans rfl
set_option maxRecDepth 100000 in
theorem xc_144_193 : p_code 144 193 = some (.land, 1) := (xco_144 193).trans rfl
set_option maxRecDepth 100000 in
theorem xc_144_194 : p_code 144 194 = some (.lor, 1) := (xco_144 194).trans rfl
set_option maxRecDepth 100000 in
theorem xc_144_195 : p_code 144 195 = some (.invokevirtual 64, 3) := (xco_144 195).trans rfl
theorem xm_144_195 : p_calls 144 (.invokevirtual 64) = some (118, 2) := by dsimp only [p_calls]; rw [xow_144]; rfl
set_option maxRecDepth 100000 in
theorem xc_144_198 : p_code 144 198 = some (.if_icmp .eq 637, 3) := (xco_144 198).trans rfl
theorem xj_144_198 : p_tgt 198 (637) = 835 ∧ 0 ≤ ((198 : Nat) : Int) + (637) := ⟨by decide, by decide⟩
set_option maxRecDepth 100000 in
theorem xc_144_201 : p_code 144 201 = some (.iconst 0, 1) := (xco_144 201).trans rfl
set_option maxRecDepth 100000 in
theorem xc_144_202 : p_code 144 202 = some (.ireturn, 1) := (xco_144 202).trans rfl
set_option maxRecDepth 100000 in
theorem xc_144_203 : p_code 144 203 = some (.aload_n 1, 1) := (xco_144 203).trans rfl
set_option maxRecDepth 100000 in
theorem xc_144_204 : p_code 144 204 = some (.aload_n 0, 1) := (xco_144 204).trans rfl
set_option maxRecDepth 100000 in
theorem xc_144_205 : p_code 144 205 = some (.iload 4, 2) := (xco_144 205).trans rfl
set_option maxRecDepth 100000 in
theorem xc_144_207 : p_code 144 207 = some (.iconst 1, 1) := (xco_144 207).trans rfl
set_option maxRecDepth 100000 in
theorem xc_144_208 : p_code 144 208 = some (.iadd, 1) := (xco_144 208).trans rfl
set_option maxRecDepth 100000 in
theorem xc_144_209 : p_code 144 209 = some (.iaload, 1) := (xco_144 209).trans rfl
set_option maxRecDepth 100000 in
theorem xc_144_210 : p_code 144 210 = some (.aload_n 0, 1) := (xco_144 210).trans rfl
set_option maxRecDepth 100000 in
theorem xc_144_211 : p_code 144 211 = some (.iload 4, 2) := (xco_144 211).trans rfl
set_option maxRecDepth 100000 in
theorem xc_144_213 : p_code 144 213 = some (.iconst 2, 1) := (xco_144 213).trans rfl
set_option maxRecDepth 100000 in
theorem xc_144_214 : p_code 144 214 = some (.iadd, 1) := (xco_144 214).trans rfl
set_option maxRecDepth 100000 in
theorem xc_144_215 : p_code 144 215 = some (.iaload, 1) := (xco_144 215).trans rfl
set_option maxRecDepth 100000 in
theorem xc_144_216 : p_code 144 216 = some (.i2l, 1) := (xco_144 216).trans rfl
set_option maxRecDepth 100000 in
theorem xc_144_217 : p_code 144 217 = some (.bipush 32, 2) := (xco_144 217).trans rfl
set_option maxRecDepth 100000 in
theorem xc_144_219 : p_code 144 219 = some (.lshl, 1) := (xco_144 219).trans rfl
set_option maxRecDepth 100000 in
theorem xc_144_220 : p_code 144 220 = some (.aload_n 0, 1) := (xco_144 220).trans rfl
set_option maxRecDepth 100000 in
theorem xc_144_221 : p_code 144 221 = some (.iload 4, 2) := (xco_144 221).trans rfl
set_option maxRecDepth 100000 in
theorem xc_144_223 : p_code 144 223 = some (.iconst 3, 1) := (xco_144 223).trans rfl
set_option maxRecDepth 100000 in
theorem xc_144_224 : p_code 144 224 = some (.iadd, 1) := (xco_144 224).trans rfl
set_option maxRecDepth 100000 in
theorem xc_144_225 : p_code 144 225 = some (.iaload, 1) := (xco_144 225).trans rfl
set_option maxRecDepth 100000 in
theorem xc_144_226 : p_code 144 226 = some (.i2l, 1) := (xco_144 226).trans rfl
set_option maxRecDepth 100000 in
theorem xc_144_227 : p_code 144 227 = some (.ldc2_w 58, 3) := (xco_144 227).trans rfl
set_option maxRecDepth 100000 in
theorem xc_144_230 : p_code 144 230 = some (.land, 1) := (xco_144 230).trans rfl
set_option maxRecDepth 100000 in
theorem xc_144_231 : p_code 144 231 = some (.lor, 1) := (xco_144 231).trans rfl
set_option maxRecDepth 100000 in
theorem xc_144_232 : p_code 144 232 = some (.invokevirtual 65, 3) := (xco_144 232).trans rfl
theorem xm_144_232 : p_calls 144 (.invokevirtual 65) = some (50, 3) := by dsimp only [p_calls]; rw [xow_144]; rfl
set_option maxRecDepth 100000 in
theorem xc_144_235 : p_code 144 235 = some (.aload_n 2, 1) := (xco_144 235).trans rfl
set_option maxRecDepth 100000 in
theorem xc_144_236 : p_code 144 236 = some (.aload_n 0, 1) := (xco_144 236).trans rfl
set_option maxRecDepth 100000 in
theorem xc_144_237 : p_code 144 237 = some (.iload 4, 2) := (xco_144 237).trans rfl
set_option maxRecDepth 100000 in
theorem xc_144_239 : p_code 144 239 = some (.iconst 1, 1) := (xco_144 239).trans rfl
set_option maxRecDepth 100000 in
theorem xc_144_240 : p_code 144 240 = some (.iadd, 1) := (xco_144 240).trans rfl
set_option maxRecDepth 100000 in
theorem xc_144_241 : p_code 144 241 = some (.iaload, 1) := (xco_144 241).trans rfl
set_option maxRecDepth 100000 in
theorem xc_144_242 : p_code 144 242 = some (.aload_n 0, 1) := (xco_144 242).trans rfl
set_option maxRecDepth 100000 in
theorem xc_144_243 : p_code 144 243 = some (.iload 4, 2) := (xco_144 243).trans rfl
set_option maxRecDepth 100000 in
theorem xc_144_245 : p_code 144 245 = some (.iconst 2, 1) := (xco_144 245).trans rfl
set_option maxRecDepth 100000 in
theorem xc_144_246 : p_code 144 246 = some (.iadd, 1) := (xco_144 246).trans rfl
set_option maxRecDepth 100000 in
theorem xc_144_247 : p_code 144 247 = some (.iaload, 1) := (xco_144 247).trans rfl
set_option maxRecDepth 100000 in
theorem xc_144_248 : p_code 144 248 = some (.i2l, 1) := (xco_144 248).trans rfl
set_option maxRecDepth 100000 in
theorem xc_144_249 : p_code 144 249 = some (.bipush 32, 2) := (xco_144 249).trans rfl
set_option maxRecDepth 100000 in
theorem xc_144_251 : p_code 144 251 = some (.lshl, 1) := (xco_144 251).trans rfl
set_option maxRecDepth 100000 in
theorem xc_144_252 : p_code 144 252 = some (.aload_n 0, 1) := (xco_144 252).trans rfl
set_option maxRecDepth 100000 in
theorem xc_144_253 : p_code 144 253 = some (.iload 4, 2) := (xco_144 253).trans rfl
set_option maxRecDepth 100000 in
theorem xc_144_255 : p_code 144 255 = some (.iconst 3, 1) := (xco_144 255).trans rfl
set_option maxRecDepth 100000 in
theorem xc_144_256 : p_code 144 256 = some (.iadd, 1) := (xco_144 256).trans rfl
set_option maxRecDepth 100000 in
theorem xc_144_257 : p_code 144 257 = some (.iaload, 1) := (xco_144 257).trans rfl
set_option maxRecDepth 100000 in
theorem xc_144_258 : p_code 144 258 = some (.i2l, 1) := (xco_144 258).trans rfl
set_option maxRecDepth 100000 in
theorem xc_144_259 : p_code 144 259 = some (.ldc2_w 58, 3) := (xco_144 259).trans rfl
set_option maxRecDepth 100000 in
theorem xc_144_262 : p_code 144 262 = some (.land, 1) := (xco_144 262).trans rfl
set_option maxRecDepth 100000 in
theorem xc_144_263 : p_code 144 263 = some (.lor, 1) := (xco_144 263).trans rfl
set_option maxRecDepth 100000 in
theorem xc_144_264 : p_code 144 264 = some (.invokevirtual 69, 3) := (xco_144 264).trans rfl
theorem xm_144_264 : p_calls 144 (.invokevirtual 69) = some (119, 3) := by dsimp only [p_calls]; rw [xow_144]; rfl
set_option maxRecDepth 100000 in
theorem xc_144_267 : p_code 144 267 = some (.if_icmp .eq 568, 3) := (xco_144 267).trans rfl
theorem xj_144_267 : p_tgt 267 (568) = 835 ∧ 0 ≤ ((267 : Nat) : Int) + (568) := ⟨by decide, by decide⟩
set_option maxRecDepth 100000 in
theorem xc_144_270 : p_code 144 270 = some (.iconst 0, 1) := (xco_144 270).trans rfl
set_option maxRecDepth 100000 in
theorem xc_144_271 : p_code 144 271 = some (.ireturn, 1) := (xco_144 271).trans rfl
set_option maxRecDepth 100000 in
theorem xc_144_272 : p_code 144 272 = some (.aload_n 1, 1) := (xco_144 272).trans rfl
set_option maxRecDepth 100000 in
theorem xc_144_273 : p_code 144 273 = some (.aload_n 0, 1) := (xco_144 273).trans rfl
set_option maxRecDepth 100000 in
theorem xc_144_274 : p_code 144 274 = some (.iload 4, 2) := (xco_144 274).trans rfl
set_option maxRecDepth 100000 in
theorem xc_144_276 : p_code 144 276 = some (.iconst 1, 1) := (xco_144 276).trans rfl
set_option maxRecDepth 100000 in
theorem xc_144_277 : p_code 144 277 = some (.iadd, 1) := (xco_144 277).trans rfl
set_option maxRecDepth 100000 in
theorem xc_144_278 : p_code 144 278 = some (.iaload, 1) := (xco_144 278).trans rfl
set_option maxRecDepth 100000 in
theorem xc_144_279 : p_code 144 279 = some (.aload_n 0, 1) := (xco_144 279).trans rfl
set_option maxRecDepth 100000 in
theorem xc_144_280 : p_code 144 280 = some (.iload 4, 2) := (xco_144 280).trans rfl
set_option maxRecDepth 100000 in
theorem xc_144_282 : p_code 144 282 = some (.iconst 2, 1) := (xco_144 282).trans rfl
set_option maxRecDepth 100000 in
theorem xc_144_283 : p_code 144 283 = some (.iadd, 1) := (xco_144 283).trans rfl
set_option maxRecDepth 100000 in
theorem xc_144_284 : p_code 144 284 = some (.iaload, 1) := (xco_144 284).trans rfl
set_option maxRecDepth 100000 in
theorem xc_144_285 : p_code 144 285 = some (.aload_n 0, 1) := (xco_144 285).trans rfl
set_option maxRecDepth 100000 in
theorem xc_144_286 : p_code 144 286 = some (.iload 4, 2) := (xco_144 286).trans rfl
set_option maxRecDepth 100000 in
theorem xc_144_288 : p_code 144 288 = some (.iconst 3, 1) := (xco_144 288).trans rfl
set_option maxRecDepth 100000 in
theorem xc_144_289 : p_code 144 289 = some (.iadd, 1) := (xco_144 289).trans rfl
set_option maxRecDepth 100000 in
theorem xc_144_290 : p_code 144 290 = some (.iaload, 1) := (xco_144 290).trans rfl
set_option maxRecDepth 100000 in
theorem xc_144_291 : p_code 144 291 = some (.invokevirtual 70, 3) := (xco_144 291).trans rfl
theorem xm_144_291 : p_calls 144 (.invokevirtual 70) = some (53, 4) := by dsimp only [p_calls]; rw [xow_144]; rfl
set_option maxRecDepth 100000 in
theorem xc_144_294 : p_code 144 294 = some (.aload_n 2, 1) := (xco_144 294).trans rfl
set_option maxRecDepth 100000 in
theorem xc_144_295 : p_code 144 295 = some (.aload_n 0, 1) := (xco_144 295).trans rfl
set_option maxRecDepth 100000 in
theorem xc_144_296 : p_code 144 296 = some (.iload 4, 2) := (xco_144 296).trans rfl
set_option maxRecDepth 100000 in
theorem xc_144_298 : p_code 144 298 = some (.iconst 1, 1) := (xco_144 298).trans rfl
set_option maxRecDepth 100000 in
theorem xc_144_299 : p_code 144 299 = some (.iadd, 1) := (xco_144 299).trans rfl
set_option maxRecDepth 100000 in
theorem xc_144_300 : p_code 144 300 = some (.iaload, 1) := (xco_144 300).trans rfl
set_option maxRecDepth 100000 in
theorem xc_144_301 : p_code 144 301 = some (.aload_n 0, 1) := (xco_144 301).trans rfl
set_option maxRecDepth 100000 in
theorem xc_144_302 : p_code 144 302 = some (.iload 4, 2) := (xco_144 302).trans rfl
set_option maxRecDepth 100000 in
theorem xc_144_304 : p_code 144 304 = some (.iconst 2, 1) := (xco_144 304).trans rfl
set_option maxRecDepth 100000 in
theorem xc_144_305 : p_code 144 305 = some (.iadd, 1) := (xco_144 305).trans rfl
set_option maxRecDepth 100000 in
theorem xc_144_306 : p_code 144 306 = some (.iaload, 1) := (xco_144 306).trans rfl
set_option maxRecDepth 100000 in
theorem xc_144_307 : p_code 144 307 = some (.aload_n 0, 1) := (xco_144 307).trans rfl
set_option maxRecDepth 100000 in
theorem xc_144_308 : p_code 144 308 = some (.iload 4, 2) := (xco_144 308).trans rfl
set_option maxRecDepth 100000 in
theorem xc_144_310 : p_code 144 310 = some (.iconst 3, 1) := (xco_144 310).trans rfl
set_option maxRecDepth 100000 in
theorem xc_144_311 : p_code 144 311 = some (.iadd, 1) := (xco_144 311).trans rfl
set_option maxRecDepth 100000 in
theorem xc_144_312 : p_code 144 312 = some (.iaload, 1) := (xco_144 312).trans rfl
set_option maxRecDepth 100000 in
theorem xc_144_313 : p_code 144 313 = some (.invokevirtual 74, 3) := (xco_144 313).trans rfl
theorem xm_144_313 : p_calls 144 (.invokevirtual 74) = some (121, 4) := by dsimp only [p_calls]; rw [xow_144]; rfl
set_option maxRecDepth 100000 in
theorem xc_144_316 : p_code 144 316 = some (.if_icmp .eq 519, 3) := (xco_144 316).trans rfl
theorem xj_144_316 : p_tgt 316 (519) = 835 ∧ 0 ≤ ((316 : Nat) : Int) + (519) := ⟨by decide, by decide⟩
set_option maxRecDepth 100000 in
theorem xc_144_319 : p_code 144 319 = some (.iconst 0, 1) := (xco_144 319).trans rfl
set_option maxRecDepth 100000 in
theorem xc_144_320 : p_code 144 320 = some (.ireturn, 1) := (xco_144 320).trans rfl
set_option maxRecDepth 100000 in
theorem xc_144_321 : p_code 144 321 = some (.aload_n 1, 1) := (xco_144 321).trans rfl
set_option maxRecDepth 100000 in
theorem xc_144_322 : p_code 144 322 = some (.aload_n 0, 1) := (xco_144 322).trans rfl
set_option maxRecDepth 100000 in
theorem xc_144_323 : p_code 144 323 = some (.iload 4, 2) := (xco_144 323).trans rfl
set_option maxRecDepth 100000 in
theorem xc_144_325 : p_code 144 325 = some (.iconst 1, 1) := (xco_144 325).trans rfl
set_option maxRecDepth 100000 in
theorem xc_144_326 : p_code 144 326 = some (.iadd, 1) := (xco_144 326).trans rfl
set_option maxRecDepth 100000 in
theorem xc_144_327 : p_code 144 327 = some (.iaload, 1) := (xco_144 327).trans rfl
set_option maxRecDepth 100000 in
theorem xc_144_328 : p_code 144 328 = some (.aload_n 3, 1) := (xco_144 328).trans rfl
set_option maxRecDepth 100000 in
theorem xc_144_329 : p_code 144 329 = some (.invokestatic 75, 3) := (xco_144 329).trans rfl
theorem xm_144_329 : p_calls 144 (.invokestatic 75) = some (61, 3) := by dsimp only [p_calls]; rw [xow_144]; rfl
set_option maxRecDepth 100000 in
theorem xc_144_332 : p_code 144 332 = some (.istore 5, 2) := (xco_144 332).trans rfl
set_option maxRecDepth 100000 in
theorem xc_144_334 : p_code 144 334 = some (.aload_n 2, 1) := (xco_144 334).trans rfl
set_option maxRecDepth 100000 in
theorem xc_144_335 : p_code 144 335 = some (.aload_n 0, 1) := (xco_144 335).trans rfl
set_option maxRecDepth 100000 in
theorem xc_144_336 : p_code 144 336 = some (.iload 4, 2) := (xco_144 336).trans rfl
set_option maxRecDepth 100000 in
theorem xc_144_338 : p_code 144 338 = some (.iconst 1, 1) := (xco_144 338).trans rfl
set_option maxRecDepth 100000 in
theorem xc_144_339 : p_code 144 339 = some (.iadd, 1) := (xco_144 339).trans rfl
set_option maxRecDepth 100000 in
theorem xc_144_340 : p_code 144 340 = some (.iaload, 1) := (xco_144 340).trans rfl
set_option maxRecDepth 100000 in
theorem xc_144_341 : p_code 144 341 = some (.invokevirtual 80, 3) := (xco_144 341).trans rfl
theorem xm_144_341 : p_calls 144 (.invokevirtual 80) = some (122, 2) := by dsimp only [p_calls]; rw [xow_144]; rfl
set_option maxRecDepth 100000 in
theorem xc_144_344 : p_code 144 344 = some (.lstore 6, 2) := (xco_144 344).trans rfl
set_option maxRecDepth 100000 in
theorem xc_144_346 : p_code 144 346 = some (.aload_n 2, 1) := (xco_144 346).trans rfl
set_option maxRecDepth 100000 in
theorem xc_144_347 : p_code 144 347 = some (.invokevirtual 81, 3) := (xco_144 347).trans rfl
theorem xm_144_347 : p_calls 144 (.invokevirtual 81) = some (93, 1) := by dsimp only [p_calls]; rw [xow_144]; rfl
set_option maxRecDepth 100000 in
theorem xc_144_350 : p_code 144 350 = some (.iload 5, 2) := (xco_144 350).trans rfl
set_option maxRecDepth 100000 in
theorem xc_144_352 : p_code 144 352 = some (.if_icmp .eq 5, 3) := (xco_144 352).trans rfl
theorem xj_144_352 : p_tgt 352 (5) = 357 ∧ 0 ≤ ((352 : Nat) : Int) + (5) := ⟨by decide, by decide⟩
set_option maxRecDepth 100000 in
theorem xc_144_355 : p_code 144 355 = some (.iconst 0, 1) := (xco_144 355).trans rfl
set_option maxRecDepth 100000 in
theorem xc_144_356 : p_code 144 356 = some (.ireturn, 1) := (xco_144 356).trans rfl
set_option maxRecDepth 100000 in
theorem xc_144_357 : p_code 144 357 = some (.iload 5, 2) := (xco_144 357).trans rfl
set_option maxRecDepth 100000 in
theorem xc_144_359 : p_code 144 359 = some (.ifCond .ne 14, 3) := (xco_144 359).trans rfl
theorem xj_144_359 : p_tgt 359 (14) = 373 ∧ 0 ≤ ((359 : Nat) : Int) + (14) := ⟨by decide, by decide⟩
set_option maxRecDepth 100000 in
theorem xc_144_362 : p_code 144 362 = some (.aload_n 3, 1) := (xco_144 362).trans rfl
set_option maxRecDepth 100000 in
theorem xc_144_363 : p_code 144 363 = some (.iconst 0, 1) := (xco_144 363).trans rfl
set_option maxRecDepth 100000 in
theorem xc_144_364 : p_code 144 364 = some (.laload, 1) := (xco_144 364).trans rfl
set_option maxRecDepth 100000 in
theorem xc_144_365 : p_code 144 365 = some (.lload 6, 2) := (xco_144 365).trans rfl
set_option maxRecDepth 100000 in
theorem xc_144_367 : p_code 144 367 = some (.lcmp, 1) := (xco_144 367).trans rfl
set_option maxRecDepth 100000 in
theorem xc_144_368 : p_code 144 368 = some (.ifCond .eq 5, 3) := (xco_144 368).trans rfl
theorem xj_144_368 : p_tgt 368 (5) = 373 ∧ 0 ≤ ((368 : Nat) : Int) + (5) := ⟨by decide, by decide⟩
set_option maxRecDepth 100000 in
theorem xc_144_371 : p_code 144 371 = some (.iconst 0, 1) := (xco_144 371).trans rfl
set_option maxRecDepth 100000 in
theorem xc_144_372 : p_code 144 372 = some (.ireturn, 1) := (xco_144 372).trans rfl
set_option maxRecDepth 100000 in
theorem xc_144_373 : p_code 144 373 = some (.goto 462, 3) := (xco_144 373).trans rfl
theorem xj_144_373 : p_tgt 373 (462) = 835 ∧ 0 ≤ ((373 : Nat) : Int) + (462) := ⟨by decide, by decide⟩
set_option maxRecDepth 100000 in
theorem xc_144_376 : p_code 144 376 = some (.aload_n 1, 1) := (xco_144 376).trans rfl
set_option maxRecDepth 100000 in
theorem xc_144_377 : p_code 144 377 = some (.aload_n 0, 1) := (xco_144 377).trans rfl
set_option maxRecDepth 100000 in
theorem xc_144_378 : p_code 144 378 = some (.iload 4, 2) := (xco_144 378).trans rfl
set_option maxRecDepth 100000 in
theorem xc_144_380 : p_code 144 380 = some (.iconst 1, 1) := (xco_144 380).trans rfl
set_option maxRecDepth 100000 in
theorem xc_144_381 : p_code 144 381 = some (.iadd, 1) := (xco_144 381).trans rfl
set_option maxRecDepth 100000 in
theorem xc_144_382 : p_code 144 382 = some (.iaload, 1) := (xco_144 382).trans rfl
set_option maxRecDepth 100000 in
theorem xc_144_383 : p_code 144 383 = some (.aload_n 3, 1) := (xco_144 383).trans rfl
set_option maxRecDepth 100000 in
theorem xc_144_384 : p_code 144 384 = some (.invokestatic 84, 3) := (xco_144 384).trans rfl
theorem xm_144_384 : p_calls 144 (.invokestatic 84) = some (71, 3) := by dsimp only [p_calls]; rw [xow_144]; rfl
set_option maxRecDepth 100000 in
theorem xc_144_387 : p_code 144 387 = some (.istore 5, 2) := (xco_144 387).trans rfl
set_option maxRecDepth 100000 in
theorem xc_144_389 : p_code 144 389 = some (.aload_n 2, 1) := (xco_144 389).trans rfl
set_option maxRecDepth 100000 in
theorem xc_144_390 : p_code 144 390 = some (.aload_n 0, 1) := (xco_144 390).trans rfl
set_option maxRecDepth 100000 in
theorem xc_144_391 : p_code 144 391 = some (.iload 4, 2) := (xco_144 391).trans rfl
set_option maxRecDepth 100000 in
theorem xc_144_393 : p_code 144 393 = some (.iconst 1, 1) := (xco_144 393).trans rfl
set_option maxRecDepth 100000 in
theorem xc_144_394 : p_code 144 394 = some (.iadd, 1) := (xco_144 394).trans rfl
set_option maxRecDepth 100000 in
theorem xc_144_395 : p_code 144 395 = some (.iaload, 1) := (xco_144 395).trans rfl
set_option maxRecDepth 100000 in
theorem xc_144_396 : p_code 144 396 = some (.invokevirtual 86, 3) := (xco_144 396).trans rfl
theorem xm_144_396 : p_calls 144 (.invokevirtual 86) = some (129, 2) := by dsimp only [p_calls]; rw [xow_144]; rfl
set_option maxRecDepth 100000 in
theorem xc_144_399 : p_code 144 399 = some (.lstore 6, 2) := (xco_144 399).trans rfl
set_option maxRecDepth 100000 in
theorem xc_144_401 : p_code 144 401 = some (.aload_n 2, 1) := (xco_144 401).trans rfl
set_option maxRecDepth 100000 in
theorem xc_144_402 : p_code 144 402 = some (.invokevirtual 81, 3) := (xco_144 402).trans rfl
theorem xm_144_402 : p_calls 144 (.invokevirtual 81) = some (93, 1) := by dsimp only [p_calls]; rw [xow_144]; rfl
set_option maxRecDepth 100000 in
theorem xc_144_405 : p_code 144 405 = some (.iload 5, 2) := (xco_144 405).trans rfl
set_option maxRecDepth 100000 in
theorem xc_144_407 : p_code 144 407 = some (.if_icmp .eq 5, 3) := (xco_144 407).trans rfl
theorem xj_144_407 : p_tgt 407 (5) = 412 ∧ 0 ≤ ((407 : Nat) : Int) + (5) := ⟨by decide, by decide⟩
set_option maxRecDepth 100000 in
theorem xc_144_410 : p_code 144 410 = some (.iconst 0, 1) := (xco_144 410).trans rfl
set_option maxRecDepth 100000 in
theorem xc_144_411 : p_code 144 411 = some (.ireturn, 1) := (xco_144 411).trans rfl
set_option maxRecDepth 100000 in
theorem xc_144_412 : p_code 144 412 = some (.iload 5, 2) := (xco_144 412).trans rfl
set_option maxRecDepth 100000 in
theorem xc_144_414 : p_code 144 414 = some (.ifCond .ne 14, 3) := (xco_144 414).trans rfl
theorem xj_144_414 : p_tgt 414 (14) = 428 ∧ 0 ≤ ((414 : Nat) : Int) + (14) := ⟨by decide, by decide⟩
set_option maxRecDepth 100000 in
theorem xc_144_417 : p_code 144 417 = some (.aload_n 3, 1) := (xco_144 417).trans rfl
set_option maxRecDepth 100000 in
theorem xc_144_418 : p_code 144 418 = some (.iconst 0, 1) := (xco_144 418).trans rfl
set_option maxRecDepth 100000 in
theorem xc_144_419 : p_code 144 419 = some (.laload, 1) := (xco_144 419).trans rfl
set_option maxRecDepth 100000 in
theorem xc_144_420 : p_code 144 420 = some (.lload 6, 2) := (xco_144 420).trans rfl
set_option maxRecDepth 100000 in
theorem xc_144_422 : p_code 144 422 = some (.lcmp, 1) := (xco_144 422).trans rfl
set_option maxRecDepth 100000 in
theorem xc_144_423 : p_code 144 423 = some (.ifCond .eq 5, 3) := (xco_144 423).trans rfl
theorem xj_144_423 : p_tgt 423 (5) = 428 ∧ 0 ≤ ((423 : Nat) : Int) + (5) := ⟨by decide, by decide⟩
set_option maxRecDepth 100000 in
theorem xc_144_426 : p_code 144 426 = some (.iconst 0, 1) := (xco_144 426).trans rfl
set_option maxRecDepth 100000 in
theorem xc_144_427 : p_code 144 427 = some (.ireturn, 1) := (xco_144 427).trans rfl
set_option maxRecDepth 100000 in
theorem xc_144_428 : p_code 144 428 = some (.goto 407, 3) := (xco_144 428).trans rfl
theorem xj_144_428 : p_tgt 428 (407) = 835 ∧ 0 ≤ ((428 : Nat) : Int) + (407) := ⟨by decide, by decide⟩
set_option maxRecDepth 100000 in
theorem xc_144_431 : p_code 144 431 = some (.aload_n 1, 1) := (xco_144 431).trans rfl
set_option maxRecDepth 100000 in
theorem xc_144_432 : p_code 144 432 = some (.aload_n 0, 1) := (xco_144 432).trans rfl
set_option maxRecDepth 100000 in
theorem xc_144_433 : p_code 144 433 = some (.iload 4, 2) := (xco_144 433).trans rfl
set_option maxRecDepth 100000 in
theorem xc_144_435 : p_code 144 435 = some (.iconst 1, 1) := (xco_144 435).trans rfl
set_option maxRecDepth 100000 in
theorem xc_144_436 : p_code 144 436 = some (.iadd, 1) := (xco_144 436).trans rfl
set_option maxRecDepth 100000 in
theorem xc_144_437 : p_code 144 437 = some (.iaload, 1) := (xco_144 437).trans rfl
set_option maxRecDepth 100000 in
theorem xc_144_438 : p_code 144 438 = some (.aload_n 0, 1) := (xco_144 438).trans rfl
set_option maxRecDepth 100000 in
theorem xc_144_439 : p_code 144 439 = some (.iload 4, 2) := (xco_144 439).trans rfl
set_option maxRecDepth 100000 in
theorem xc_144_441 : p_code 144 441 = some (.iconst 2, 1) := (xco_144 441).trans rfl
set_option maxRecDepth 100000 in
theorem xc_144_442 : p_code 144 442 = some (.iadd, 1) := (xco_144 442).trans rfl
set_option maxRecDepth 100000 in
theorem xc_144_443 : p_code 144 443 = some (.iaload, 1) := (xco_144 443).trans rfl
set_option maxRecDepth 100000 in
theorem xc_144_444 : p_code 144 444 = some (.aload_n 3, 1) := (xco_144 444).trans rfl
set_option maxRecDepth 100000 in
theorem xc_144_445 : p_code 144 445 = some (.invokestatic 87, 3) := (xco_144 445).trans rfl
theorem xm_144_445 : p_calls 144 (.invokestatic 87) = some (73, 4) := by dsimp only [p_calls]; rw [xow_144]; rfl
set_option maxRecDepth 100000 in
theorem xc_144_448 : p_code 144 448 = some (.istore 5, 2) := (xco_144 448).trans rfl
set_option maxRecDepth 100000 in
theorem xc_144_450 : p_code 144 450 = some (.aload_n 2, 1) := (xco_144 450).trans rfl
set_option maxRecDepth 100000 in
theorem xc_144_451 : p_code 144 451 = some (.aload_n 0, 1) := (xco_144 451).trans rfl
set_option maxRecDepth 100000 in
theorem xc_144_452 : p_code 144 452 = some (.iload 4, 2) := (xco_144 452).trans rfl
set_option maxRecDepth 100000 in
theorem xc_144_454 : p_code 144 454 = some (.iconst 1, 1) := (xco_144 454).trans rfl
set_option maxRecDepth 100000 in
theorem xc_144_455 : p_code 144 455 = some (.iadd, 1) := (xco_144 455).trans rfl
set_option maxRecDepth 100000 in
theorem xc_144_456 : p_code 144 456 = some (.iaload, 1) := (xco_144 456).trans rfl
set_option maxRecDepth 100000 in
theorem xc_144_457 : p_code 144 457 = some (.aload_n 0, 1) := (xco_144 457).trans rfl
set_option maxRecDepth 100000 in
theorem xc_144_458 : p_code 144 458 = some (.iload 4, 2) := (xco_144 458).trans rfl
set_option maxRecDepth 100000 in
theorem xc_144_460 : p_code 144 460 = some (.iconst 2, 1) := (xco_144 460).trans rfl
set_option maxRecDepth 100000 in
theorem xc_144_461 : p_code 144 461 = some (.iadd, 1) := (xco_144 461).trans rfl
set_option maxRecDepth 100000 in
theorem xc_144_462 : p_code 144 462 = some (.iaload, 1) := (xco_144 462).trans rfl
set_option maxRecDepth 100000 in
theorem xc_144_463 : p_code 144 463 = some (.invokevirtual 90, 3) := (xco_144 463).trans rfl
theorem xm_144_463 : p_calls 144 (.invokevirtual 90) = some (130, 3) := by dsimp only [p_calls]; rw [xow_144]; rfl
set_option maxRecDepth 100000 in
theorem xc_144_466 : p_code 144 466 = some (.istore 6, 2) := (xco_144 466).trans rfl
set_option maxRecDepth 100000 in
theorem xc_144_468 : p_code 144 468 = some (.aload_n 2, 1) := (xco_144 468).trans rfl
set_option maxRecDepth 100000 in
theorem xc_144_469 : p_code 144 469 = some (.invokevirtual 81, 3) := (xco_144 469).trans rfl
theorem xm_144_469 : p_calls 144 (.invokevirtual 81) = some (93, 1) := by dsimp only [p_calls]; rw [xow_144]; rfl
set_option maxRecDepth 100000 in
theorem xc_144_472 : p_code 144 472 = some (.iload 5, 2) := (xco_144 472).trans rfl
set_option maxRecDepth 100000 in
theorem xc_144_474 : p_code 144 474 = some (.if_icmp .eq 5, 3) := (xco_144 474).trans rfl
theorem xj_144_474 : p_tgt 474 (5) = 479 ∧ 0 ≤ ((474 : Nat) : Int) + (5) := ⟨by decide, by decide⟩
set_option maxRecDepth 100000 in
theorem xc_144_477 : p_code 144 477 = some (.iconst 0, 1) := (xco_144 477).trans rfl
set_option maxRecDepth 100000 in
theorem xc_144_478 : p_code 144 478 = some (.ireturn, 1) := (xco_144 478).trans rfl
set_option maxRecDepth 100000 in
theorem xc_144_479 : p_code 144 479 = some (.iload 5, 2) := (xco_144 479).trans rfl
set_option maxRecDepth 100000 in
theorem xc_144_481 : p_code 144 481 = some (.ifCond .ne 15, 3) := (xco_144 481).trans rfl
theorem xj_144_481 : p_tgt 481 (15) = 496 ∧ 0 ≤ ((481 : Nat) : Int) + (15) := ⟨by decide, by decide⟩
set_option maxRecDepth 100000 in
theorem xc_144_484 : p_code 144 484 = some (.aload_n 3, 1) := (xco_144 484).trans rfl
set_option maxRecDepth 100000 in
theorem xc_144_485 : p_code 144 485 = some (.iconst 0, 1) := (xco_144 485).trans rfl
set_option maxRecDepth 100000 in
theorem xc_144_486 : p_code 144 486 = some (.laload, 1) := (xco_144 486).trans rfl
set_option maxRecDepth 100000 in
theorem xc_144_487 : p_code 144 487 = some (.iload 6, 2) := (xco_144 487).trans rfl
set_option maxRecDepth 100000 in
theorem xc_144_489 : p_code 144 489 = some (.i2l, 1) := (xco_144 489).trans rfl
set_option maxRecDepth 100000 in
theorem xc_144_490 : p_code 144 490 = some (.lcmp, 1) := (xco_144 490).trans rfl
set_option maxRecDepth 100000 in
theorem xc_144_491 : p_code 144 491 = some (.ifCond .eq 5, 3) := (xco_144 491).trans rfl
theorem xj_144_491 : p_tgt 491 (5) = 496 ∧ 0 ≤ ((491 : Nat) : Int) + (5) := ⟨by decide, by decide⟩
set_option maxRecDepth 100000 in
theorem xc_144_494 : p_code 144 494 = some (.iconst 0, 1) := (xco_144 494).trans rfl
set_option maxRecDepth 100000 in
theorem xc_144_495 : p_code 144 495 = some (.ireturn, 1) := (xco_144 495).trans rfl
set_option maxRecDepth 100000 in
theorem xc_144_496 : p_code 144 496 = some (.goto 339, 3) := (xco_144 496).trans rfl
theorem xj_144_496 : p_tgt 496 (339) = 835 ∧ 0 ≤ ((496 : Nat) : Int) + (339) := ⟨by decide, by decide⟩
set_option maxRecDepth 100000 in
theorem xc_144_499 : p_code 144 499 = some (.aload_n 1, 1) := (xco_144 499).trans rfl
set_option maxRecDepth 100000 in
theorem xc_144_500 : p_code 144 500 = some (.aload_n 0, 1) := (xco_144 500).trans rfl
set_option maxRecDepth 100000 in
theorem xc_144_501 : p_code 144 501 = some (.iload 4, 2) := (xco_144 501).trans rfl
set_option maxRecDepth 100000 in
theorem xc_144_503 : p_code 144 503 = some (.iconst 1, 1) := (xco_144 503).trans rfl
set_option maxRecDepth 100000 in
theorem xc_144_504 : p_code 144 504 = some (.iadd, 1) := (xco_144 504).trans rfl
set_option maxRecDepth 100000 in
theorem xc_144_505 : p_code 144 505 = some (.iaload, 1) := (xco_144 505).trans rfl
set_option maxRecDepth 100000 in
theorem xc_144_506 : p_code 144 506 = some (.aload_n 3, 1) := (xco_144 506).trans rfl
set_option maxRecDepth 100000 in
theorem xc_144_507 : p_code 144 507 = some (.invokestatic 91, 3) := (xco_144 507).trans rfl
theorem xm_144_507 : p_calls 144 (.invokestatic 91) = some (75, 3) := by dsimp only [p_calls]; rw [xow_144]; rfl
set_option maxRecDepth 100000 in
theorem xc_144_510 : p_code 144 510 = some (.istore 5, 2) := (xco_144 510).trans rfl
set_option maxRecDepth 100000 in
theorem xc_144_512 : p_code 144 512 = some (.aload_n 2, 1) := (xco_144 512).trans rfl
set_option maxRecDepth 100000 in
theorem xc_144_513 : p_code 144 513 = some (.aload_n 0, 1) := (xco_144 513).trans rfl
set_option maxRecDepth 100000 in
theorem xc_144_514 : p_code 144 514 = some (.iload 4, 2) := (xco_144 514).trans rfl
set_option maxRecDepth 100000 in
theorem xc_144_516 : p_code 144 516 = some (.iconst 1, 1) := (xco_144 516).trans rfl
set_option maxRecDepth 100000 in
theorem xc_144_517 : p_code 144 517 = some (.iadd, 1) := (xco_144 517).trans rfl
set_option maxRecDepth 100000 in
theorem xc_144_518 : p_code 144 518 = some (.iaload, 1) := (xco_144 518).trans rfl
set_option maxRecDepth 100000 in
theorem xc_144_519 : p_code 144 519 = some (.invokevirtual 93, 3) := (xco_144 519).trans rfl
theorem xm_144_519 : p_calls 144 (.invokevirtual 93) = some (131, 2) := by dsimp only [p_calls]; rw [xow_144]; rfl
set_option maxRecDepth 100000 in
theorem xc_144_522 : p_code 144 522 = some (.lstore 6, 2) := (xco_144 522).trans rfl
set_option maxRecDepth 100000 in
theorem xc_144_524 : p_code 144 524 = some (.aload_n 2, 1) := (xco_144 524).trans rfl
set_option maxRecDepth 100000 in
theorem xc_144_525 : p_code 144 525 = some (.invokevirtual 81, 3) := (xco_144 525).trans rfl
theorem xm_144_525 : p_calls 144 (.invokevirtual 81) = some (93, 1) := by dsimp only [p_calls]; rw [xow_144]; rfl
set_option maxRecDepth 100000 in
theorem xc_144_528 : p_code 144 528 = some (.iload 5, 2) := (xco_144 528).trans rfl
set_option maxRecDepth 100000 in
theorem xc_144_530 : p_code 144 530 = some (.if_icmp .eq 5, 3) := (xco_144 530).trans rfl
theorem xj_144_530 : p_tgt 530 (5) = 535 ∧ 0 ≤ ((530 : Nat) : Int) + (5) := ⟨by decide, by decide⟩
set_option maxRecDepth 100000 in
theorem xc_144_533 : p_code 144 533 = some (.iconst 0, 1) := (xco_144 533).trans rfl
set_option maxRecDepth 100000 in
theorem xc_144_534 : p_code 144 534 = some (.ireturn, 1) := (xco_144 534).trans rfl
set_option maxRecDepth 100000 in
theorem xc_144_535 : p_code 144 535 = some (.iload 5, 2) := (xco_144 535).trans rfl
set_option maxRecDepth 100000 in
theorem xc_144_537 : p_code 144 537 = some (.ifCond .ne 14, 3) := (xco_144 537).trans rfl
theorem xj_144_537 : p_tgt 537 (14) = 551 ∧ 0 ≤ ((537 : Nat) : Int) + (14) := ⟨by decide, by decide⟩
set_option maxRecDepth 100000 in
theorem xc_144_540 : p_code 144 540 = some (.aload_n 3, 1) := (xco_144 540).trans rfl
set_option maxRecDepth 100000 in
theorem xc_144_541 : p_code 144 541 = some (.iconst 0, 1) := (xco_144 541).trans rfl
set_option maxRecDepth 100000 in
theorem xc_144_542 : p_code 144 542 = some (.laload, 1) := (xco_144 542).trans rfl
set_option maxRecDepth 100000 in
theorem xc_144_543 : p_code 144 543 = some (.lload 6, 2) := (xco_144 543).trans rfl
set_option maxRecDepth 100000 in
theorem xc_144_545 : p_code 144 545 = some (.lcmp, 1) := (xco_144 545).trans rfl
set_option maxRecDepth 100000 in
theorem xc_144_546 : p_code 144 546 = some (.ifCond .eq 5, 3) := (xco_144 546).trans rfl
theorem xj_144_546 : p_tgt 546 (5) = 551 ∧ 0 ≤ ((546 : Nat) : Int) + (5) := ⟨by decide, by decide⟩
set_option maxRecDepth 100000 in
theorem xc_144_549 : p_code 144 549 = some (.iconst 0, 1) := (xco_144 549).trans rfl
set_option maxRecDepth 100000 in
theorem xc_144_550 : p_code 144 550 = some (.ireturn, 1) := (xco_144 550).trans rfl
set_option maxRecDepth 100000 in
theorem xc_144_551 : p_code 144 551 = some (.goto 284, 3) := (xco_144 551).trans rfl
theorem xj_144_551 : p_tgt 551 (284) = 835 ∧ 0 ≤ ((551 : Nat) : Int) + (284) := ⟨by decide, by decide⟩
set_option maxRecDepth 100000 in
theorem xc_144_554 : p_code 144 554 = some (.aload_n 1, 1) := (xco_144 554).trans rfl
set_option maxRecDepth 100000 in
theorem xc_144_555 : p_code 144 555 = some (.aload_n 0, 1) := (xco_144 555).trans rfl
set_option maxRecDepth 100000 in
theorem xc_144_556 : p_code 144 556 = some (.iload 4, 2) := (xco_144 556).trans rfl
set_option maxRecDepth 100000 in
theorem xc_144_558 : p_code 144 558 = some (.iconst 1, 1) := (xco_144 558).trans rfl
set_option maxRecDepth 100000 in
theorem xc_144_559 : p_code 144 559 = some (.iadd, 1) := (xco_144 559).trans rfl
set_option maxRecDepth 100000 in
theorem xc_144_560 : p_code 144 560 = some (.iaload, 1) := (xco_144 560).trans rfl
set_option maxRecDepth 100000 in
theorem xc_144_561 : p_code 144 561 = some (.invokevirtual 94, 3) := (xco_144 561).trans rfl
theorem xm_144_561 : p_calls 144 (.invokevirtual 94) = some (56, 2) := by dsimp only [p_calls]; rw [xow_144]; rfl
set_option maxRecDepth 100000 in
theorem xc_144_564 : p_code 144 564 = some (.aload_n 2, 1) := (xco_144 564).trans rfl
set_option maxRecDepth 100000 in
theorem xc_144_565 : p_code 144 565 = some (.aload_n 0, 1) := (xco_144 565).trans rfl
set_option maxRecDepth 100000 in
theorem xc_144_566 : p_code 144 566 = some (.iload 4, 2) := (xco_144 566).trans rfl
set_option maxRecDepth 100000 in
theorem xc_144_568 : p_code 144 568 = some (.iconst 1, 1) := (xco_144 568).trans rfl
set_option maxRecDepth 100000 in
theorem xc_144_569 : p_code 144 569 = some (.iadd, 1) := (xco_144 569).trans rfl
set_option maxRecDepth 100000 in
theorem xc_144_570 : p_code 144 570 = some (.iaload, 1) := (xco_144 570).trans rfl
set_option maxRecDepth 100000 in
theorem xc_144_571 : p_code 144 571 = some (.invokevirtual 97, 3) := (xco_144 571).trans rfl
theorem xm_144_571 : p_calls 144 (.invokevirtual 97) = some (132, 2) := by dsimp only [p_calls]; rw [xow_144]; rfl
set_option maxRecDepth 100000 in
theorem xc_144_574 : p_code 144 574 = some (.if_icmp .eq 261, 3) := (xco_144 574).trans rfl
theorem xj_144_574 : p_tgt 574 (261) = 835 ∧ 0 ≤ ((574 : Nat) : Int) + (261) := ⟨by decide, by decide⟩
set_option maxRecDepth 100000 in
theorem xc_144_577 : p_code 144 577 = some (.iconst 0, 1) := (xco_144 577).trans rfl
set_option maxRecDepth 100000 in
theorem xc_144_578 : p_code 144 578 = some (.ireturn, 1) := (xco_144 578).trans rfl
set_option maxRecDepth 100000 in
theorem xc_144_579 : p_code 144 579 = some (.aload_n 1, 1) := (xco_144 579).trans rfl
set_option maxRecDepth 100000 in
theorem xc_144_580 : p_code 144 580 = some (.aload_n 3, 1) := (xco_144 580).trans rfl
set_option maxRecDepth 100000 in
theorem xc_144_581 : p_code 144 581 = some (.invokestatic 98, 3) := (xco_144 581).trans rfl
theorem xm_144_581 : p_calls 144 (.invokestatic 98) = some (77, 2) := by dsimp only [p_calls]; rw [xow_144]; rfl
set_option maxRecDepth 100000 in
theorem xc_144_584 : p_code 144 584 = some (.istore 5, 2) := (xco_144 584).trans rfl
set_option maxRecDepth 100000 in
theorem xc_144_586 : p_code 144 586 = some (.aload_n 2, 1) := (xco_144 586).trans rfl
set_option maxRecDepth 100000 in
theorem xc_144_587 : p_code 144 587 = some (.invokevirtual 101, 3) := (xco_144 587).trans rfl
theorem xm_144_587 : p_calls 144 (.invokevirtual 101) = some (133, 1) := by dsimp only [p_calls]; rw [xow_144]; rfl
set_option maxRecDepth 100000 in
theorem xc_144_590 : p_code 144 590 = some (.istore 6, 2) := (xco_144 590).trans rfl
set_option maxRecDepth 100000 in
theorem xc_144_592 : p_code 144 592 = some (.aload_n 2, 1) := (xco_144 592).trans rfl
set_option maxRecDepth 100000 in
theorem xc_144_593 : p_code 144 593 = some (.invokevirtual 81, 3) := (xco_144 593).trans rfl
theorem xm_144_593 : p_calls 144 (.invokevirtual 81) = some (93, 1) := by dsimp only [p_calls]; rw [xow_144]; rfl
set_option maxRecDepth 100000 in
theorem xc_144_596 : p_code 144 596 = some (.iload 5, 2) := (xco_144 596).trans rfl
set_option maxRecDepth 100000 in
theorem xc_144_598 : p_code 144 598 = some (.if_icmp .eq 5, 3) := (xco_144 598).trans rfl
theorem xj_144_598 : p_tgt 598 (5) = 603 ∧ 0 ≤ ((598 : Nat) : Int) + (5) := ⟨by decide, by decide⟩
set_option maxRecDepth 100000 in
theorem xc_144_601 : p_code 144 601 = some (.iconst 0, 1) := (xco_144 601).trans rfl
set_option maxRecDepth 100000 in
theorem xc_144_602 : p_code 144 602 = some (.ireturn, 1) := (xco_144 602).trans rfl
set_option maxRecDepth 100000 in
theorem xc_144_603 : p_code 144 603 = some (.iload 5, 2) := (xco_144 603).trans rfl
set_option maxRecDepth 100000 in
theorem xc_144_605 : p_code 144 605 = some (.ifCond .ne 15, 3) := (xco_144 605).trans rfl
theorem xj_144_605 : p_tgt 605 (15) = 620 ∧ 0 ≤ ((605 : Nat) : Int) + (15) := ⟨by decide, by decide⟩
set_option maxRecDepth 100000 in
theorem xc_144_608 : p_code 144 608 = some (.aload_n 3, 1) := (xco_144 608).trans rfl
set_option maxRecDepth 100000 in
theorem xc_144_609 : p_code 144 609 = some (.iconst 0, 1) := (xco_144 609).trans rfl
set_option maxRecDepth 100000 in
theorem xc_144_610 : p_code 144 610 = some (.laload, 1) := (xco_144 610).trans rfl
set_option maxRecDepth 100000 in
theorem xc_144_611 : p_code 144 611 = some (.iload 6, 2) := (xco_144 611).trans rfl
set_option maxRecDepth 100000 in
theorem xc_144_613 : p_code 144 613 = some (.i2l, 1) := (xco_144 613).trans rfl
set_option maxRecDepth 100000 in
theorem xc_144_614 : p_code 144 614 = some (.lcmp, 1) := (xco_144 614).trans rfl
set_option maxRecDepth 100000 in
theorem xc_144_615 : p_code 144 615 = some (.ifCond .eq 5, 3) := (xco_144 615).trans rfl
theorem xj_144_615 : p_tgt 615 (5) = 620 ∧ 0 ≤ ((615 : Nat) : Int) + (5) := ⟨by decide, by decide⟩
set_option maxRecDepth 100000 in
theorem xc_144_618 : p_code 144 618 = some (.iconst 0, 1) := (xco_144 618).trans rfl
set_option maxRecDepth 100000 in
theorem xc_144_619 : p_code 144 619 = some (.ireturn, 1) := (xco_144 619).trans rfl
set_option maxRecDepth 100000 in
theorem xc_144_620 : p_code 144 620 = some (.goto 215, 3) := (xco_144 620).trans rfl
theorem xj_144_620 : p_tgt 620 (215) = 835 ∧ 0 ≤ ((620 : Nat) : Int) + (215) := ⟨by decide, by decide⟩
set_option maxRecDepth 100000 in
theorem xc_144_623 : p_code 144 623 = some (.aload_n 1, 1) := (xco_144 623).trans rfl
set_option maxRecDepth 100000 in
theorem xc_144_624 : p_code 144 624 = some (.aload_n 0, 1) := (xco_144 624).trans rfl
set_option maxRecDepth 100000 in
theorem xc_144_625 : p_code 144 625 = some (.iload 4, 2) := (xco_144 625).trans rfl
set_option maxRecDepth 100000 in
theorem xc_144_627 : p_code 144 627 = some (.iconst 1, 1) := (xco_144 627).trans rfl
set_option maxRecDepth 100000 in
theorem xc_144_628 : p_code 144 628 = some (.iadd, 1) := (xco_144 628).trans rfl
set_option maxRecDepth 100000 in
theorem xc_144_629 : p_code 144 629 = some (.iaload, 1) := (xco_144 629).trans rfl
set_option maxRecDepth 100000 in
theorem xc_144_630 : p_code 144 630 = some (.aload_n 3, 1) := (xco_144 630).trans rfl
set_option maxRecDepth 100000 in
theorem xc_144_631 : p_code 144 631 = some (.invokestatic 102, 3) := (xco_144 631).trans rfl
theorem xm_144_631 : p_calls 144 (.invokestatic 102) = some (88, 3) := by dsimp only [p_calls]; rw [xow_144]; rfl
set_option maxRecDepth 100000 in
theorem xc_144_634 : p_code 144 634 = some (.istore 5, 2) := (xco_144 634).trans rfl
set_option maxRecDepth 100000 in
theorem xc_144_636 : p_code 144 636 = some (.aload_n 2, 1) := (xco_144 636).trans rfl
set_option maxRecDepth 100000 in
theorem xc_144_637 : p_code 144 637 = some (.aload_n 0, 1) := (xco_144 637).trans rfl
set_option maxRecDepth 100000 in
theorem xc_144_638 : p_code 144 638 = some (.iload 4, 2) := (xco_144 638).trans rfl
set_option maxRecDepth 100000 in
theorem xc_144_640 : p_code 144 640 = some (.iconst 1, 1) := (xco_144 640).trans rfl
set_option maxRecDepth 100000 in
theorem xc_144_641 : p_code 144 641 = some (.iadd, 1) := (xco_144 641).trans rfl
set_option maxRecDepth 100000 in
theorem xc_144_642 : p_code 144 642 = some (.iaload, 1) := (xco_144 642).trans rfl
set_option maxRecDepth 100000 in
theorem xc_144_643 : p_code 144 643 = some (.invokevirtual 104, 3) := (xco_144 643).trans rfl
theorem xm_144_643 : p_calls 144 (.invokevirtual 104) = some (141, 2) := by dsimp only [p_calls]; rw [xow_144]; rfl
set_option maxRecDepth 100000 in
theorem xc_144_646 : p_code 144 646 = some (.istore 6, 2) := (xco_144 646).trans rfl
set_option maxRecDepth 100000 in
theorem xc_144_648 : p_code 144 648 = some (.aload_n 2, 1) := (xco_144 648).trans rfl
set_option maxRecDepth 100000 in
theorem xc_144_649 : p_code 144 649 = some (.invokevirtual 81, 3) := (xco_144 649).trans rfl
theorem xm_144_649 : p_calls 144 (.invokevirtual 81) = some (93, 1) := by dsimp only [p_calls]; rw [xow_144]; rfl
set_option maxRecDepth 100000 in
theorem xc_144_652 : p_code 144 652 = some (.iload 5, 2) := (xco_144 652).trans rfl
set_option maxRecDepth 100000 in
theorem xc_144_654 : p_code 144 654 = some (.if_icmp .eq 5, 3) := (xco_144 654).trans rfl
theorem xj_144_654 : p_tgt 654 (5) = 659 ∧ 0 ≤ ((654 : Nat) : Int) + (5) := ⟨by decide, by decide⟩
set_option maxRecDepth 100000 in
theorem xc_144_657 : p_code 144 657 = some (.iconst 0, 1) := (xco_144 657).trans rfl
set_option maxRecDepth 100000 in
theorem xc_144_658 : p_code 144 658 = some (.ireturn, 1) := (xco_144 658).trans rfl
set_option maxRecDepth 100000 in
theorem xc_144_659 : p_code 144 659 = some (.iload 5, 2) := (xco_144 659).trans rfl
set_option maxRecDepth 100000 in
theorem xc_144_661 : p_code 144 661 = some (.ifCond .ne 15, 3) := (xco_144 661).trans rfl
theorem xj_144_661 : p_tgt 661 (15) = 676 ∧ 0 ≤ ((661 : Nat) : Int) + (15) := ⟨by decide, by decide⟩
set_option maxRecDepth 100000 in
theorem xc_144_664 : p_code 144 664 = some (.aload_n 3, 1) := (xco_144 664).trans rfl
set_option maxRecDepth 100000 in
theorem xc_144_665 : p_code 144 665 = some (.iconst 0, 1) := (xco_144 665).trans rfl
set_option maxRecDepth 100000 in
theorem xc_144_666 : p_code 144 666 = some (.laload, 1) := (xco_144 666).trans rfl
set_option maxRecDepth 100000 in
theorem xc_144_667 : p_code 144 667 = some (.iload 6, 2) := (xco_144 667).trans rfl
set_option maxRecDepth 100000 in
theorem xc_144_669 : p_code 144 669 = some (.i2l, 1) := (xco_144 669).trans rfl
set_option maxRecDepth 100000 in
theorem xc_144_670 : p_code 144 670 = some (.lcmp, 1) := (xco_144 670).trans rfl
set_option maxRecDepth 100000 in
theorem xc_144_671 : p_code 144 671 = some (.ifCond .eq 5, 3) := (xco_144 671).trans rfl
theorem xj_144_671 : p_tgt 671 (5) = 676 ∧ 0 ≤ ((671 : Nat) : Int) + (5) := ⟨by decide, by decide⟩
set_option maxRecDepth 100000 in
theorem xc_144_674 : p_code 144 674 = some (.iconst 0, 1) := (xco_144 674).trans rfl
set_option maxRecDepth 100000 in
theorem xc_144_675 : p_code 144 675 = some (.ireturn, 1) := (xco_144 675).trans rfl
set_option maxRecDepth 100000 in
theorem xc_144_676 : p_code 144 676 = some (.goto 159, 3) := (xco_144 676).trans rfl
theorem xj_144_676 : p_tgt 676 (159) = 835 ∧ 0 ≤ ((676 : Nat) : Int) + (159) := ⟨by decide, by decide⟩
set_option maxRecDepth 100000 in
theorem xc_144_679 : p_code 144 679 = some (.aload_n 1, 1) := (xco_144 679).trans rfl
set_option maxRecDepth 100000 in
theorem xc_144_680 : p_code 144 680 = some (.aload_n 0, 1) := (xco_144 680).trans rfl
set_option maxRecDepth 100000 in
theorem xc_144_681 : p_code 144 681 = some (.iload 4, 2) := (xco_144 681).trans rfl
set_option maxRecDepth 100000 in
theorem xc_144_683 : p_code 144 683 = some (.iconst 1, 1) := (xco_144 683).trans rfl
set_option maxRecDepth 100000 in
theorem xc_144_684 : p_code 144 684 = some (.iadd, 1) := (xco_144 684).trans rfl
set_option maxRecDepth 100000 in
theorem xc_144_685 : p_code 144 685 = some (.iaload, 1) := (xco_144 685).trans rfl
set_option maxRecDepth 100000 in
theorem xc_144_686 : p_code 144 686 = some (.i2l, 1) := (xco_144 686).trans rfl
set_option maxRecDepth 100000 in
theorem xc_144_687 : p_code 144 687 = some (.bipush 32, 2) := (xco_144 687).trans rfl
set_option maxRecDepth 100000 in
theorem xc_144_689 : p_code 144 689 = some (.lshl, 1) := (xco_144 689).trans rfl
set_option maxRecDepth 100000 in
theorem xc_144_690 : p_code 144 690 = some (.aload_n 0, 1) := (xco_144 690).trans rfl
set_option maxRecDepth 100000 in
theorem xc_144_691 : p_code 144 691 = some (.iload 4, 2) := (xco_144 691).trans rfl
set_option maxRecDepth 100000 in
theorem xc_144_693 : p_code 144 693 = some (.iconst 2, 1) := (xco_144 693).trans rfl
set_option maxRecDepth 100000 in
theorem xc_144_694 : p_code 144 694 = some (.iadd, 1) := (xco_144 694).trans rfl
set_option maxRecDepth 100000 in
theorem xc_144_695 : p_code 144 695 = some (.iaload, 1) := (xco_144 695).trans rfl
set_option maxRecDepth 100000 in
theorem xc_144_696 : p_code 144 696 = some (.i2l, 1) := (xco_144 696).trans rfl
set_option maxRecDepth 100000 in
theorem xc_144_697 : p_code 144 697 = some (.ldc2_w 58, 3) := (xco_144 697).trans rfl
set_option maxRecDepth 100000 in
theorem xc_144_700 : p_code 144 700 = some (.land, 1) := (xco_144 700).trans rfl
set_option maxRecDepth 100000 in
theorem xc_144_701 : p_code 144 701 = some (.lor, 1) := (xco_144 701).trans rfl
set_option maxRecDepth 100000 in
theorem xc_144_702 : p_code 144 702 = some (.aload_n 0, 1) := (xco_144 702).trans rfl
set_option maxRecDepth 100000 in
theorem xc_144_703 : p_code 144 703 = some (.iload 4, 2) := (xco_144 703).trans rfl
set_option maxRecDepth 100000 in
theorem xc_144_705 : p_code 144 705 = some (.iconst 3, 1) := (xco_144 705).trans rfl
set_option maxRecDepth 100000 in
theorem xc_144_706 : p_code 144 706 = some (.iadd, 1) := (xco_144 706).trans rfl
set_option maxRecDepth 100000 in
theorem xc_144_707 : p_code 144 707 = some (.iaload, 1) := (xco_144 707).trans rfl
set_option maxRecDepth 100000 in
theorem xc_144_708 : p_code 144 708 = some (.i2l, 1) := (xco_144 708).trans rfl
set_option maxRecDepth 100000 in
theorem xc_144_709 : p_code 144 709 = some (.bipush 32, 2) := (xco_144 709).trans rfl
set_option maxRecDepth 100000 in
theorem xc_144_711 : p_code 144 711 = some (.lshl, 1) := (xco_144 711).trans rfl
set_option maxRecDepth 100000 in
theorem xc_144_712 : p_code 144 712 = some (.aload_n 0, 1) := (xco_144 712).trans rfl
set_option maxRecDepth 100000 in
theorem xc_144_713 : p_code 144 713 = some (.iload 4, 2) := (xco_144 713).trans rfl
set_option maxRecDepth 100000 in
theorem xc_144_715 : p_code 144 715 = some (.iconst 4, 1) := (xco_144 715).trans rfl
set_option maxRecDepth 100000 in
theorem xc_144_716 : p_code 144 716 = some (.iadd, 1) := (xco_144 716).trans rfl
set_option maxRecDepth 100000 in
theorem xc_144_717 : p_code 144 717 = some (.iaload, 1) := (xco_144 717).trans rfl
set_option maxRecDepth 100000 in
theorem xc_144_718 : p_code 144 718 = some (.i2l, 1) := (xco_144 718).trans rfl
set_option maxRecDepth 100000 in
theorem xc_144_719 : p_code 144 719 = some (.ldc2_w 58, 3) := (xco_144 719).trans rfl
set_option maxRecDepth 100000 in
theorem xc_144_722 : p_code 144 722 = some (.land, 1) := (xco_144 722).trans rfl
set_option maxRecDepth 100000 in
theorem xc_144_723 : p_code 144 723 = some (.lor, 1) := (xco_144 723).trans rfl
set_option maxRecDepth 100000 in
theorem xc_144_724 : p_code 144 724 = some (.aload_n 3, 1) := (xco_144 724).trans rfl
set_option maxRecDepth 100000 in
theorem xc_144_725 : p_code 144 725 = some (.invokestatic 105, 3) := (xco_144 725).trans rfl
theorem xm_144_725 : p_calls 144 (.invokestatic 105) = some (90, 4) := by dsimp only [p_calls]; rw [xow_144]; rfl
set_option maxRecDepth 100000 in
theorem xc_144_728 : p_code 144 728 = some (.istore 5, 2) := (xco_144 728).trans rfl
set_option maxRecDepth 100000 in
theorem xc_144_730 : p_code 144 730 = some (.aload_n 2, 1) := (xco_144 730).trans rfl
set_option maxRecDepth 100000 in
theorem xc_144_731 : p_code 144 731 = some (.aload_n 0, 1) := (xco_144 731).trans rfl
set_option maxRecDepth 100000 in
theorem xc_144_732 : p_code 144 732 = some (.iload 4, 2) := (xco_144 732).trans rfl
set_option maxRecDepth 100000 in
theorem xc_144_734 : p_code 144 734 = some (.iconst 1, 1) := (xco_144 734).trans rfl
set_option maxRecDepth 100000 in
theorem xc_144_735 : p_code 144 735 = some (.iadd, 1) := (xco_144 735).trans rfl
set_option maxRecDepth 100000 in
theorem xc_144_736 : p_code 144 736 = some (.iaload, 1) := (xco_144 736).trans rfl
set_option maxRecDepth 100000 in
theorem xc_144_737 : p_code 144 737 = some (.i2l, 1) := (xco_144 737).trans rfl
set_option maxRecDepth 100000 in
theorem xc_144_738 : p_code 144 738 = some (.bipush 32, 2) := (xco_144 738).trans rfl
set_option maxRecDepth 100000 in
theorem xc_144_740 : p_code 144 740 = some (.lshl, 1) := (xco_144 740).trans rfl
set_option maxRecDepth 100000 in
theorem xc_144_741 : p_code 144 741 = some (.aload_n 0, 1) := (xco_144 741).trans rfl
set_option maxRecDepth 100000 in
theorem xc_144_742 : p_code 144 742 = some (.iload 4, 2) := (xco_144 742).trans rfl
set_option maxRecDepth 100000 in
theorem xc_144_744 : p_code 144 744 = some (.iconst 2, 1) := (xco_144 744).trans rfl
set_option maxRecDepth 100000 in
theorem xc_144_745 : p_code 144 745 = some (.iadd, 1) := (xco_144 745).trans rfl
set_option maxRecDepth 100000 in
theorem xc_144_746 : p_code 144 746 = some (.iaload, 1) := (xco_144 746).trans rfl
set_option maxRecDepth 100000 in
theorem xc_144_747 : p_code 144 747 = some (.i2l, 1) := (xco_144 747).trans rfl
set_option maxRecDepth 100000 in
theorem xc_144_748 : p_code 144 748 = some (.ldc2_w 58, 3) := (xco_144 748).trans rfl
set_option maxRecDepth 100000 in
theorem xc_144_751 : p_code 144 751 = some (.land, 1) := (xco_144 751).trans rfl
set_option maxRecDepth 100000 in
theorem xc_144_752 : p_code 144 752 = some (.lor, 1) := (xco_144 752).trans rfl
set_option maxRecDepth 100000 in
theorem xc_144_753 : p_code 144 753 = some (.aload_n 0, 1) := (xco_144 753).trans rfl
set_option maxRecDepth 100000 in
theorem xc_144_754 : p_code 144 754 = some (.iload 4, 2) := (xco_144 754).trans rfl
set_option maxRecDepth 100000 in
theorem xc_144_756 : p_code 144 756 = some (.iconst 3, 1) := (xco_144 756).trans rfl
set_option maxRecDepth 100000 in
theorem xc_144_757 : p_code 144 757 = some (.iadd, 1) := (xco_144 757).trans rfl
set_option maxRecDepth 100000 in
theorem xc_144_758 : p_code 144 758 = some (.iaload, 1) := (xco_144 758).trans rfl
set_option maxRecDepth 100000 in
theorem xc_144_759 : p_code 144 759 = some (.i2l, 1) := (xco_144 759).trans rfl
set_option maxRecDepth 100000 in
theorem xc_144_760 : p_code 144 760 = some (.bipush 32, 2) := (xco_144 760).trans rfl
set_option maxRecDepth 100000 in
theorem xc_144_762 : p_code 144 762 = some (.lshl, 1) := (xco_144 762).trans rfl
set_option maxRecDepth 100000 in
theorem xc_144_763 : p_code 144 763 = some (.aload_n 0, 1) := (xco_144 763).trans rfl
set_option maxRecDepth 100000 in
theorem xc_144_764 : p_code 144 764 = some (.iload 4, 2) := (xco_144 764).trans rfl
set_option maxRecDepth 100000 in
theorem xc_144_766 : p_code 144 766 = some (.iconst 4, 1) := (xco_144 766).trans rfl
set_option maxRecDepth 100000 in
theorem xc_144_767 : p_code 144 767 = some (.iadd, 1) := (xco_144 767).trans rfl
set_option maxRecDepth 100000 in
theorem xc_144_768 : p_code 144 768 = some (.iaload, 1) := (xco_144 768).trans rfl
set_option maxRecDepth 100000 in
theorem xc_144_769 : p_code 144 769 = some (.i2l, 1) := (xco_144 769).trans rfl
set_option maxRecDepth 100000 in
theorem xc_144_770 : p_code 144 770 = some (.ldc2_w 58, 3) := (xco_144 770).trans rfl
set_option maxRecDepth 100000 in
theorem xc_144_773 : p_code 144 773 = some (.land, 1) := (xco_144 773).trans rfl
set_option maxRecDepth 100000 in
theorem xc_144_774 : p_code 144 774 = some (.lor, 1) := (xco_144 774).trans rfl
set_option maxRecDepth 100000 in
theorem xc_144_775 : p_code 144 775 = some (.invokevirtual 108, 3) := (xco_144 775).trans rfl
theorem xm_144_775 : p_calls 144 (.invokevirtual 108) = some (142, 3) := by dsimp only [p_calls]; rw [xow_144]; rfl
set_option maxRecDepth 100000 in
theorem xc_144_778 : p_code 144 778 = some (.lstore 6, 2) := (xco_144 778).trans rfl
set_option maxRecDepth 100000 in
theorem xc_144_780 : p_code 144 780 = some (.aload_n 2, 1) := (xco_144 780).trans rfl
set_option maxRecDepth 100000 in
theorem xc_144_781 : p_code 144 781 = some (.invokevirtual 81, 3) := (xco_144 781).trans rfl
theorem xm_144_781 : p_calls 144 (.invokevirtual 81) = some (93, 1) := by dsimp only [p_calls]; rw [xow_144]; rfl
set_option maxRecDepth 100000 in
theorem xc_144_784 : p_code 144 784 = some (.iload 5, 2) := (xco_144 784).trans rfl
set_option maxRecDepth 100000 in
theorem xc_144_786 : p_code 144 786 = some (.if_icmp .eq 5, 3) := (xco_144 786).trans rfl
theorem xj_144_786 : p_tgt 786 (5) = 791 ∧ 0 ≤ ((786 : Nat) : Int) + (5) := ⟨by decide, by decide⟩
set_option maxRecDepth 100000 in
theorem xc_144_789 : p_code 144 789 = some (.iconst 0, 1) := (xco_144 789).trans rfl
set_option maxRecDepth 100000 in
theorem xc_144_790 : p_code 144 790 = some (.ireturn, 1) := (xco_144 790).trans rfl
set_option maxRecDepth 100000 in
theorem xc_144_791 : p_code 144 791 = some (.iload 5, 2) := (xco_144 791).trans rfl
set_option maxRecDepth 100000 in
theorem xc_144_793 : p_code 144 793 = some (.ifCond .ne 14, 3) := (xco_144 793).trans rfl
theorem xj_144_793 : p_tgt 793 (14) = 807 ∧ 0 ≤ ((793 : Nat) : Int) + (14) := ⟨by decide, by decide⟩
set_option maxRecDepth 100000 in
theorem xc_144_796 : p_code 144 796 = some (.aload_n 3, 1) := (xco_144 796).trans rfl
set_option maxRecDepth 100000 in
theorem xc_144_797 : p_code 144 797 = some (.iconst 0, 1) := (xco_144 797).trans rfl
set_option maxRecDepth 100000 in
theorem xc_144_798 : p_code 144 798 = some (.laload, 1) := (xco_144 798).trans rfl
set_option maxRecDepth 100000 in
theorem xc_144_799 : p_code 144 799 = some (.lload 6, 2) := (xco_144 799).trans rfl
set_option maxRecDepth 100000 in
theorem xc_144_801 : p_code 144 801 = some (.lcmp, 1) := (xco_144 801).trans rfl
set_option maxRecDepth 100000 in
theorem xc_144_802 : p_code 144 802 = some (.ifCond .eq 5, 3) := (xco_144 802).trans rfl
theorem xj_144_802 : p_tgt 802 (5) = 807 ∧ 0 ≤ ((802 : Nat) : Int) + (5) := ⟨by decide, by decide⟩
set_option maxRecDepth 100000 in
theorem xc_144_805 : p_code 144 805 = some (.iconst 0, 1) := (xco_144 805).trans rfl
set_option maxRecDepth 100000 in
theorem xc_144_806 : p_code 144 806 = some (.ireturn, 1) := (xco_144 806).trans rfl
set_option maxRecDepth 100000 in
theorem xc_144_807 : p_code 144 807 = some (.goto 28, 3) := (xco_144 807).trans rfl
theorem xj_144_807 : p_tgt 807 (28) = 835 ∧ 0 ≤ ((807 : Nat) : Int) + (28) := ⟨by decide, by decide⟩
set_option maxRecDepth 100000 in
theorem xc_144_810 : p_code 144 810 = some (.aload_n 1, 1) := (xco_144 810).trans rfl
set_option maxRecDepth 100000 in
theorem xc_144_811 : p_code 144 811 = some (.aload_n 0, 1) := (xco_144 811).trans rfl
set_option maxRecDepth 100000 in
theorem xc_144_812 : p_code 144 812 = some (.iload 4, 2) := (xco_144 812).trans rfl
set_option maxRecDepth 100000 in
theorem xc_144_814 : p_code 144 814 = some (.iconst 1, 1) := (xco_144 814).trans rfl
set_option maxRecDepth 100000 in
theorem xc_144_815 : p_code 144 815 = some (.iadd, 1) := (xco_144 815).trans rfl
set_option maxRecDepth 100000 in
theorem xc_144_816 : p_code 144 816 = some (.iaload, 1) := (xco_144 816).trans rfl
set_option maxRecDepth 100000 in
theorem xc_144_817 : p_code 144 817 = some (.invokevirtual 109, 3) := (xco_144 817).trans rfl
theorem xm_144_817 : p_calls 144 (.invokevirtual 109) = some (60, 2) := by dsimp only [p_calls]; rw [xow_144]; rfl
set_option maxRecDepth 100000 in
theorem xc_144_820 : p_code 144 820 = some (.aload_n 2, 1) := (xco_144 820).trans rfl
set_option maxRecDepth 100000 in
theorem xc_144_821 : p_code 144 821 = some (.aload_n 0, 1) := (xco_144 821).trans rfl
set_option maxRecDepth 100000 in
theorem xc_144_822 : p_code 144 822 = some (.iload 4, 2) := (xco_144 822).trans rfl
set_option maxRecDepth 100000 in
theorem xc_144_824 : p_code 144 824 = some (.iconst 1, 1) := (xco_144 824).trans rfl
set_option maxRecDepth 100000 in
theorem xc_144_825 : p_code 144 825 = some (.iadd, 1) := (xco_144 825).trans rfl
set_option maxRecDepth 100000 in
theorem xc_144_826 : p_code 144 826 = some (.iaload, 1) := (xco_144 826).trans rfl
set_option maxRecDepth 100000 in
theorem xc_144_827 : p_code 144 827 = some (.invokevirtual 112, 3) := (xco_144 827).trans rfl
theorem xm_144_827 : p_calls 144 (.invokevirtual 112) = some (143, 2) := by dsimp only [p_calls]; rw [xow_144]; rfl
set_option maxRecDepth 100000 in
theorem xc_144_830 : p_code 144 830 = some (.if_icmp .eq 5, 3) := (xco_144 830).trans rfl
theorem xj_144_830 : p_tgt 830 (5) = 835 ∧ 0 ≤ ((830 : Nat) : Int) + (5) := ⟨by decide, by decide⟩
set_option maxRecDepth 100000 in
theorem xc_144_833 : p_code 144 833 = some (.iconst 0, 1) := (xco_144 833).trans rfl
set_option maxRecDepth 100000 in
theorem xc_144_834 : p_code 144 834 = some (.ireturn, 1) := (xco_144 834).trans rfl
set_option maxRecDepth 100000 in
theorem xc_144_835 : p_code 144 835 = some (.iinc 4 5, 3) := (xco_144 835).trans rfl
set_option maxRecDepth 100000 in
theorem xc_144_838 : p_code 144 838 = some (.goto (-815), 3) := (xco_144 838).trans rfl
theorem xj_144_838 : p_tgt 838 (-815) = 23 ∧ 0 ≤ ((838 : Nat) : Int) + (-815) := ⟨by decide, by decide⟩
set_option maxRecDepth 100000 in
theorem xc_144_841 : p_code 144 841 = some (.iconst 1, 1) := (xco_144 841).trans rfl
set_option maxRecDepth 100000 in
theorem xc_144_842 : p_code 144 842 = some (.ireturn, 1) := (xco_144 842).trans rfl
theorem xrt_144 : p_rty 144 = some .boolean := rfl
theorem xhh_144 : p_hh 144 = [] := rfl
theorem xin_144  : p_in0 144 [.retAddr 0] = [some (.retAddr 0), none, none, none, none, none, none, none] := rfl
