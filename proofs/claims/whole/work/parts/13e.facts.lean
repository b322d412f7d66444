theorem xco_124 (pc : Nat) : p_code 124 pc = p_find pc pc_124 := rfl
theorem xow_124 : p_own 124 = 6 := rfl
theorem xc_124_0 : p_code 124 0 = some (.aload_n 0, 1) := (xco_124 0).trans rfl
theorem xc_124_1 : p_code 124 1 = some (.iload_n 1, 1) := (xco_124 1).trans rfl
theorem xc_124_2 : p_code 124 2 = some (.invokevirtual 204, 3) := (xco_124 2).trans rfl
theorem xm_124_2 : p_calls 124 (.invokevirtual 204) = some (125, 2) := by dsimp only [p_calls]; rw [xow_124]; rfl
theorem xc_124_5 : p_code 124 5 = some (.istore_n 2, 1) := (xco_124 5).trans rfl
theorem xc_124_6 : p_code 124 6 = some (.iload_n 2, 1) := (xco_124 6).trans rfl
theorem xc_124_7 : p_code 124 7 = some (.iconst 1, 1) := (xco_124 7).trans rfl
theorem xc_124_8 : p_code 124 8 = some (.isub, 1) := (xco_124 8).trans rfl
theorem xc_124_9 : p_code 124 9 = some (.istore_n 3, 1) := (xco_124 9).trans rfl
theorem xc_124_10 : p_code 124 10 = some (.iload_n 3, 1) := (xco_124 10).trans rfl
theorem xc_124_11 : p_code 124 11 = some (.iload_n 1, 1) := (xco_124 11).trans rfl
theorem xc_124_12 : p_code 124 12 = some (.if_icmp .lt 272, 3) := (xco_124 12).trans rfl
theorem xj_124_12 : p_tgt 12 (272) = 284 ∧ 0 ≤ ((12 : Nat) : Int) + (272) := ⟨by decide, by decide⟩
theorem xc_124_15 : p_code 124 15 = some (.bipush 60, 2) := (xco_124 15).trans rfl
theorem xc_124_17 : p_code 124 17 = some (.iload_n 3, 1) := (xco_124 17).trans rfl
theorem xc_124_18 : p_code 124 18 = some (.iadd, 1) := (xco_124 18).trans rfl
theorem xc_124_19 : p_code 124 19 = some (.istore 4, 2) := (xco_124 19).trans rfl
theorem xc_124_21 : p_code 124 21 = some (.aload_n 0, 1) := (xco_124 21).trans rfl
theorem xc_124_22 : p_code 124 22 = some (.getfield 13, 3) := (xco_124 22).trans rfl
theorem xf_124_13 : p_fld (p_own 124) 13 = some (6, 5) := by rw [xow_124]; rfl
theorem xc_124_25 : p_code 124 25 = some (.iload 4, 2) := (xco_124 25).trans rfl
theorem xc_124_27 : p_code 124 27 = some (.iaload, 1) := (xco_124 27).trans rfl
theorem xc_124_28 : p_code 124 28 = some (.iconst 2, 1) := (xco_124 28).trans rfl
theorem xc_124_29 : p_code 124 29 = some (.if_icmp .ne 54, 3) := (xco_124 29).trans rfl
theorem xj_124_29 : p_tgt 29 (54) = 83 ∧ 0 ≤ ((29 : Nat) : Int) + (54) := ⟨by decide, by decide⟩
theorem xc_124_32 : p_code 124 32 = some (.aload_n 0, 1) := (xco_124 32).trans rfl
theorem xc_124_33 : p_code 124 33 = some (.aload_n 0, 1) := (xco_124 33).trans rfl
theorem xc_124_34 : p_code 124 34 = some (.getfield 19, 3) := (xco_124 34).trans rfl
theorem xf_124_19 : p_fld (p_own 124) 19 = some (6, 7) := by rw [xow_124]; rfl
theorem xc_124_37 : p_code 124 37 = some (.iload 4, 2) := (xco_124 37).trans rfl
theorem xc_124_39 : p_code 124 39 = some (.iaload, 1) := (xco_124 39).trans rfl
theorem xc_124_40 : p_code 124 40 = some (.invokevirtual 207, 3) := (xco_124 40).trans rfl
theorem xm_124_40 : p_calls 124 (.invokevirtual 207) = some (126, 2) := by dsimp only [p_calls]; rw [xow_124]; rfl
theorem xc_124_43 : p_code 124 43 = some (.lstore 5, 2) := (xco_124 43).trans rfl
theorem xc_124_45 : p_code 124 45 = some (.lload 5, 2) := (xco_124 45).trans rfl
theorem xc_124_47 : p_code 124 47 = some (.lconst 0, 1) := (xco_124 47).trans rfl
theorem xc_124_48 : p_code 124 48 = some (.lcmp, 1) := (xco_124 48).trans rfl
theorem xc_124_49 : p_code 124 49 = some (.ifCond .lt 12, 3) := (xco_124 49).trans rfl
theorem xj_124_49 : p_tgt 49 (12) = 61 ∧ 0 ≤ ((49 : Nat) : Int) + (12) := ⟨by decide, by decide⟩
theorem xc_124_52 : p_code 124 52 = some (.lload 5, 2) := (xco_124 52).trans rfl
theorem xc_124_54 : p_code 124 54 = some (.ldc2_w 189, 3) := (xco_124 54).trans rfl
theorem xl_124_189 : p_lng (p_own 124) 189 = some (100000000) := by rw [xow_124]; rfl
theorem xc_124_57 : p_code 124 57 = some (.lcmp, 1) := (xco_124 57).trans rfl
theorem xc_124_58 : p_code 124 58 = some (.ifCond .le 5, 3) := (xco_124 58).trans rfl
theorem xj_124_58 : p_tgt 58 (5) = 63 ∧ 0 ≤ ((58 : Nat) : Int) + (5) := ⟨by decide, by decide⟩
theorem xc_124_61 : p_code 124 61 = some (.iconst 0, 1) := (xco_124 61).trans rfl
theorem xc_124_62 : p_code 124 62 = some (.ireturn, 1) := (xco_124 62).trans rfl
theorem xc_124_63 : p_code 124 63 = some (.aload_n 0, 1) := (xco_124 63).trans rfl
theorem xc_124_64 : p_code 124 64 = some (.getfield 65, 3) := (xco_124 64).trans rfl
theorem xf_124_65 : p_fld (p_own 124) 65 = some (6, 29) := by rw [xow_124]; rfl
theorem xc_124_67 : p_code 124 67 = some (.iload_n 3, 1) := (xco_124 67).trans rfl
theorem xc_124_68 : p_code 124 68 = some (.aload_n 0, 1) := (xco_124 68).trans rfl
theorem xc_124_69 : p_code 124 69 = some (.getfield 16, 3) := (xco_124 69).trans rfl
theorem xf_124_16 : p_fld (p_own 124) 16 = some (6, 6) := by rw [xow_124]; rfl
theorem xc_124_72 : p_code 124 72 = some (.iload 4, 2) := (xco_124 72).trans rfl
theorem xc_124_74 : p_code 124 74 = some (.iaload, 1) := (xco_124 74).trans rfl
theorem xc_124_75 : p_code 124 75 = some (.i2l, 1) := (xco_124 75).trans rfl
theorem xc_124_76 : p_code 124 76 = some (.lload 5, 2) := (xco_124 76).trans rfl
theorem xc_124_78 : p_code 124 78 = some (.lmul, 1) := (xco_124 78).trans rfl
theorem xc_124_79 : p_code 124 79 = some (.lastore, 1) := (xco_124 79).trans rfl
theorem xc_124_80 : p_code 124 80 = some (.goto 198, 3) := (xco_124 80).trans rfl
theorem xj_124_80 : p_tgt 80 (198) = 278 ∧ 0 ≤ ((80 : Nat) : Int) + (198) := ⟨by decide, by decide⟩
theorem xc_124_83 : p_code 124 83 = some (.aload_n 0, 1) := (xco_124 83).trans rfl
theorem xc_124_84 : p_code 124 84 = some (.getfield 13, 3) := (xco_124 84).trans rfl
theorem xc_124_87 : p_code 124 87 = some (.iload 4, 2) := (xco_124 87).trans rfl
theorem xc_124_89 : p_code 124 89 = some (.iaload, 1) := (xco_124 89).trans rfl
theorem xc_124_90 : p_code 124 90 = some (.iconst 1, 1) := (xco_124 90).trans rfl
theorem xc_124_91 : p_code 124 91 = some (.if_icmp .ne 29, 3) := (xco_124 91).trans rfl
theorem xj_124_91 : p_tgt 91 (29) = 120 ∧ 0 ≤ ((91 : Nat) : Int) + (29) := ⟨by decide, by decide⟩
theorem xc_124_94 : p_code 124 94 = some (.aload_n 0, 1) := (xco_124 94).trans rfl
theorem xc_124_95 : p_code 124 95 = some (.getfield 65, 3) := (xco_124 95).trans rfl
theorem xc_124_98 : p_code 124 98 = some (.iload_n 3, 1) := (xco_124 98).trans rfl
theorem xc_124_99 : p_code 124 99 = some (.aload_n 0, 1) := (xco_124 99).trans rfl
theorem xc_124_100 : p_code 124 100 = some (.getfield 191, 3) := (xco_124 100).trans rfl
theorem xf_124_191 : p_fld (p_own 124) 191 = some (6, 25) := by rw [xow_124]; rfl
theorem xc_124_103 : p_code 124 103 = some (.aload_n 0, 1) := (xco_124 103).trans rfl
theorem xc_124_104 : p_code 124 104 = some (.getfield 16, 3) := (xco_124 104).trans rfl
theorem xc_124_107 : p_code 124 107 = some (.iload 4, 2) := (xco_124 107).trans rfl
theorem xc_124_109 : p_code 124 109 = some (.iaload, 1) := (xco_124 109).trans rfl
theorem xc_124_110 : p_code 124 110 = some (.i2l, 1) := (xco_124 110).trans rfl
theorem xc_124_111 : p_code 124 111 = some (.lmul, 1) := (xco_124 111).trans rfl
theorem xc_124_112 : p_code 124 112 = some (.ldc2_w 211, 3) := (xco_124 112).trans rfl
theorem xl_124_211 : p_lng (p_own 124) 211 = some (10) := by rw [xow_124]; rfl
theorem xc_124_115 : p_code 124 115 = some (.lmul, 1) := (xco_124 115).trans rfl
theorem xc_124_116 : p_code 124 116 = some (.lastore, 1) := (xco_124 116).trans rfl
theorem xc_124_117 : p_code 124 117 = some (.goto 161, 3) := (xco_124 117).trans rfl
theorem xj_124_117 : p_tgt 117 (161) = 278 ∧ 0 ≤ ((117 : Nat) : Int) + (161) := ⟨by decide, by decide⟩
theorem xc_124_120 : p_code 124 120 = some (.aload_n 0, 1) := (xco_124 120).trans rfl
theorem xc_124_121 : p_code 124 121 = some (.getfield 13, 3) := (xco_124 121).trans rfl
theorem xc_124_124 : p_code 124 124 = some (.iload 4, 2) := (xco_124 124).trans rfl
theorem xc_124_126 : p_code 124 126 = some (.iaload, 1) := (xco_124 126).trans rfl
theorem xc_124_127 : p_code 124 127 = some (.bipush 7, 2) := (xco_124 127).trans rfl
theorem xc_124_129 : p_code 124 129 = some (.if_icmp .ne 18, 3) := (xco_124 129).trans rfl
theorem xj_124_129 : p_tgt 129 (18) = 147 ∧ 0 ≤ ((129 : Nat) : Int) + (18) := ⟨by decide, by decide⟩
theorem xc_124_132 : p_code 124 132 = some (.aload_n 0, 1) := (xco_124 132).trans rfl
theorem xc_124_133 : p_code 124 133 = some (.getfield 65, 3) := (xco_124 133).trans rfl
theorem xc_124_136 : p_code 124 136 = some (.iload_n 3, 1) := (xco_124 136).trans rfl
theorem xc_124_137 : p_code 124 137 = some (.aload_n 0, 1) := (xco_124 137).trans rfl
theorem xc_124_138 : p_code 124 138 = some (.iload 4, 2) := (xco_124 138).trans rfl
theorem xc_124_140 : p_code 124 140 = some (.invokevirtual 213, 3) := (xco_124 140).trans rfl
theorem xm_124_140 : p_calls 124 (.invokevirtual 213) = some (127, 2) := by dsimp only [p_calls]; rw [xow_124]; rfl
theorem xc_124_143 : p_code 124 143 = some (.lastore, 1) := (xco_124 143).trans rfl
theorem xc_124_144 : p_code 124 144 = some (.goto 134, 3) := (xco_124 144).trans rfl
theorem xj_124_144 : p_tgt 144 (134) = 278 ∧ 0 ≤ ((144 : Nat) : Int) + (134) := ⟨by decide, by decide⟩
theorem xc_124_147 : p_code 124 147 = some (.aload_n 0, 1) := (xco_124 147).trans rfl
theorem xc_124_148 : p_code 124 148 = some (.getfield 13, 3) := (xco_124 148).trans rfl
theorem xc_124_151 : p_code 124 151 = some (.iload 4, 2) := (xco_124 151).trans rfl
theorem xc_124_153 : p_code 124 153 = some (.iaload, 1) := (xco_124 153).trans rfl
theorem xc_124_154 : p_code 124 154 = some (.ifCond .ne 13, 3) := (xco_124 154).trans rfl
theorem xj_124_154 : p_tgt 154 (13) = 167 ∧ 0 ≤ ((154 : Nat) : Int) + (13) := ⟨by decide, by decide⟩
theorem xc_124_157 : p_code 124 157 = some (.aload_n 0, 1) := (xco_124 157).trans rfl
theorem xc_124_158 : p_code 124 158 = some (.getfield 65, 3) := (xco_124 158).trans rfl
theorem xc_124_161 : p_code 124 161 = some (.iload_n 3, 1) := (xco_124 161).trans rfl
theorem xc_124_162 : p_code 124 162 = some (.lconst 0, 1) := (xco_124 162).trans rfl
theorem xc_124_163 : p_code 124 163 = some (.lastore, 1) := (xco_124 163).trans rfl
theorem xc_124_164 : p_code 124 164 = some (.goto 114, 3) := (xco_124 164).trans rfl
theorem xj_124_164 : p_tgt 164 (114) = 278 ∧ 0 ≤ ((164 : Nat) : Int) + (114) := ⟨by decide, by decide⟩
theorem xc_124_167 : p_code 124 167 = some (.aload_n 0, 1) := (xco_124 167).trans rfl
theorem xc_124_168 : p_code 124 168 = some (.getfield 65, 3) := (xco_124 168).trans rfl
theorem xc_124_171 : p_code 124 171 = some (.aload_n 0, 1) := (xco_124 171).trans rfl
theorem xc_124_172 : p_code 124 172 = some (.getfield 22, 3) := (xco_124 172).trans rfl
theorem xf_124_22 : p_fld (p_own 124) 22 = some (6, 8) := by rw [xow_124]; rfl
theorem xc_124_175 : p_code 124 175 = some (.iload 4, 2) := (xco_124 175).trans rfl
theorem xc_124_177 : p_code 124 177 = some (.iaload, 1) := (xco_124 177).trans rfl
theorem xc_124_178 : p_code 124 178 = some (.laload, 1) := (xco_124 178).trans rfl
theorem xc_124_179 : p_code 124 179 = some (.lstore 5, 2) := (xco_124 179).trans rfl
set_option maxRecDepth 100000 in
theorem xc_124_181 : p_code 124 181 = some (.aload_n 0, 1) := (xco_124 181).trans rfl
set_option maxRecDepth 100000 in
theorem xc_124_182 : p_code 124 182 = some (.getfield 65, 3) := (xco_124 182).trans rfl
set_option maxRecDepth 100000 in
theorem xc_124_185 : p_code 124 185 = some (.aload_n 0, 1) := (xco_124 185).trans rfl
set_option maxRecDepth 100000 in
theorem xc_124_186 : p_code 124 186 = some (.getfield 25, 3) := (xco_124 186).trans rfl
theorem xf_124_25 : p_fld (p_own 124) 25 = some (6, 9) := by rw [xow_124]; rfl
set_option maxRecDepth 100000 in
theorem xc_124_189 : p_code 124 189 = some (.iload 4, 2) := (xco_124 189).trans rfl
set_option maxRecDepth 100000 in
theorem xc_124_191 : p_code 124 191 = some (.iaload, 1) := (xco_124 191).trans rfl
set_option maxRecDepth 100000 in
theorem xc_124_192 : p_code 124 192 = some (.laload, 1) := (xco_124 192).trans rfl
set_option maxRecDepth 100000 in
theorem xc_124_193 : p_code 124 193 = some (.lstore 7, 2) := (xco_124 193).trans rfl
set_option maxRecDepth 100000 in
theorem xc_124_195 : p_code 124 195 = some (.aload_n 0, 1) := (xco_124 195).trans rfl
set_option maxRecDepth 100000 in
theorem xc_124_196 : p_code 124 196 = some (.getfield 65, 3) := (xco_124 196).trans rfl
set_option maxRecDepth 100000 in
theorem xc_124_199 : p_code 124 199 = some (.iload_n 3, 1) := (xco_124 199).trans rfl
set_option maxRecDepth 100000 in
theorem xc_124_200 : p_code 124 200 = some (.aload_n 0, 1) := (xco_124 200).trans rfl
set_option maxRecDepth 100000 in
theorem xc_124_201 : p_code 124 201 = some (.getfield 13, 3) := (xco_124 201).trans rfl
set_option maxRecDepth 100000 in
theorem xc_124_204 : p_code 124 204 = some (.iload 4, 2) := (xco_124 204).trans rfl
set_option maxRecDepth 100000 in
theorem xc_124_206 : p_code 124 206 = some (.iaload, 1) := (xco_124 206).trans rfl
set_option maxRecDepth 100000 in
theorem xc_124_207 : p_code 124 207 = some (.iconst 3, 1) := (xco_124 207).trans rfl
set_option maxRecDepth 100000 in
theorem xc_124_208 : p_code 124 208 = some (.if_icmp .ne 11, 3) := (xco_124 208).trans rfl
theorem xj_124_208 : p_tgt 208 (11) = 219 ∧ 0 ≤ ((208 : Nat) : Int) + (11) := ⟨by decide, by decide⟩
set_option maxRecDepth 100000 in
theorem xc_124_211 : p_code 124 211 = some (.lload 5, 2) := (xco_124 211).trans rfl
set_option maxRecDepth 100000 in
theorem xc_124_213 : p_code 124 213 = some (.lload 7, 2) := (xco_124 213).trans rfl
set_option maxRecDepth 100000 in
theorem xc_124_215 : p_code 124 215 = some (.ladd, 1) := (xco_124 215).trans rfl
set_option maxRecDepth 100000 in
theorem xc_124_216 : p_code 124 216 = some (.goto 61, 3) := (xco_124 216).trans rfl
theorem xj_124_216 : p_tgt 216 (61) = 277 ∧ 0 ≤ ((216 : Nat) : Int) + (61) := ⟨by decide, by decide⟩
set_option maxRecDepth 100000 in
theorem xc_124_219 : p_code 124 219 = some (.aload_n 0, 1) := (xco_124 219).trans rfl
set_option maxRecDepth 100000 in
theorem xc_124_220 : p_code 124 220 = some (.getfield 13, 3) := (xco_124 220).trans rfl
set_option maxRecDepth 100000 in
theorem xc_124_223 : p_code 124 223 = some (.iload 4, 2) := (xco_124 223).trans rfl
set_option maxRecDepth 100000 in
theorem xc_124_225 : p_code 124 225 = some (.iaload, 1) := (xco_124 225).trans rfl
set_option maxRecDepth 100000 in
theorem xc_124_226 : p_code 124 226 = some (.iconst 4, 1) := (xco_124 226).trans rfl
set_option maxRecDepth 100000 in
theorem xc_124_227 : p_code 124 227 = some (.if_icmp .ne 11, 3) := (xco_124 227).trans rfl
theorem xj_124_227 : p_tgt 227 (11) = 238 ∧ 0 ≤ ((227 : Nat) : Int) + (11) := ⟨by decide, by decide⟩
set_option maxRecDepth 100000 in
theorem xc_124_230 : p_code 124 230 = some (.lload 5, 2) := (xco_124 230).trans rfl
set_option maxRecDepth 100000 in
theorem xc_124_232 : p_code 124 232 = some (.lload 7, 2) := (xco_124 232).trans rfl
set_option maxRecDepth 100000 in
theorem xc_124_234 : p_code 124 234 = some (.lsub, 1) := (xco_124 234).trans rfl
set_option maxRecDepth 100000 in
theorem xc_124_235 : p_code 124 235 = some (.goto 42, 3) := (xco_124 235).trans rfl
theorem xj_124_235 : p_tgt 235 (42) = 277 ∧ 0 ≤ ((235 : Nat) : Int) + (42) := ⟨by decide, by decide⟩
set_option maxRecDepth 100000 in
theorem xc_124_238 : p_code 124 238 = some (.aload_n 0, 1) := (xco_124 238).trans rfl
set_option maxRecDepth 100000 in
theorem xc_124_239 : p_code 124 239 = some (.getfield 13, 3) := (xco_124 239).trans rfl
set_option maxRecDepth 100000 in
theorem xc_124_242 : p_code 124 242 = some (.iload 4, 2) := (xco_124 242).trans rfl
set_option maxRecDepth 100000 in
theorem xc_124_244 : p_code 124 244 = some (.iaload, 1) := (xco_124 244).trans rfl
set_option maxRecDepth 100000 in
theorem xc_124_245 : p_code 124 245 = some (.iconst 5, 1) := (xco_124 245).trans rfl
set_option maxRecDepth 100000 in
theorem xc_124_246 : p_code 124 246 = some (.if_icmp .ne 7, 3) := (xco_124 246).trans rfl
theorem xj_124_246 : p_tgt 246 (7) = 253 ∧ 0 ≤ ((246 : Nat) : Int) + (7) := ⟨by decide, by decide⟩
set_option maxRecDepth 100000 in
theorem xc_124_249 : p_code 124 249 = some (.iconst 1, 1) := (xco_124 249).trans rfl
set_option maxRecDepth 100000 in
theorem xc_124_250 : p_code 124 250 = some (.goto 4, 3) := (xco_124 250).trans rfl
theorem xj_124_250 : p_tgt 250 (4) = 254 ∧ 0 ≤ ((250 : Nat) : Int) + (4) := ⟨by decide, by decide⟩
set_option maxRecDepth 100000 in
theorem xc_124_253 : p_code 124 253 = some (.iconst 0, 1) := (xco_124 253).trans rfl
set_option maxRecDepth 100000 in
theorem xc_124_254 : p_code 124 254 = some (.lload 5, 2) := (xco_124 254).trans rfl
set_option maxRecDepth 100000 in
theorem xc_124_256 : p_code 124 256 = some (.lload 7, 2) := (xco_124 256).trans rfl
set_option maxRecDepth 100000 in
theorem xc_124_258 : p_code 124 258 = some (.lcmp, 1) := (xco_124 258).trans rfl
set_option maxRecDepth 100000 in
theorem xc_124_259 : p_code 124 259 = some (.ifCond .ge 7, 3) := (xco_124 259).trans rfl
theorem xj_124_259 : p_tgt 259 (7) = 266 ∧ 0 ≤ ((259 : Nat) : Int) + (7) := ⟨by decide, by decide⟩
set_option maxRecDepth 100000 in
theorem xc_124_262 : p_code 124 262 = some (.iconst 1, 1) := (xco_124 262).trans rfl
set_option maxRecDepth 100000 in
theorem xc_124_263 : p_code 124 263 = some (.goto 4, 3) := (xco_124 263).trans rfl
theorem xj_124_263 : p_tgt 263 (4) = 267 ∧ 0 ≤ ((263 : Nat) : Int) + (4) := ⟨by decide, by decide⟩
set_option maxRecDepth 100000 in
theorem xc_124_266 : p_code 124 266 = some (.iconst 0, 1) := (xco_124 266).trans rfl
set_option maxRecDepth 100000 in
theorem xc_124_267 : p_code 124 267 = some (.if_icmp .ne 8, 3) := (xco_124 267).trans rfl
theorem xj_124_267 : p_tgt 267 (8) = 275 ∧ 0 ≤ ((267 : Nat) : Int) + (8) := ⟨by decide, by decide⟩
set_option maxRecDepth 100000 in
theorem xc_124_270 : p_code 124 270 = some (.lload 5, 2) := (xco_124 270).trans rfl
set_option maxRecDepth 100000 in
theorem xc_124_272 : p_code 124 272 = some (.goto 5, 3) := (xco_124 272).trans rfl
theorem xj_124_272 : p_tgt 272 (5) = 277 ∧ 0 ≤ ((272 : Nat) : Int) + (5) := ⟨by decide, by decide⟩
set_option maxRecDepth 100000 in
theorem xc_124_275 : p_code 124 275 = some (.lload 7, 2) := (xco_124 275).trans rfl
set_option maxRecDepth 100000 in
theorem xc_124_277 : p_code 124 277 = some (.lastore, 1) := (xco_124 277).trans rfl
set_option maxRecDepth 100000 in
theorem xc_124_278 : p_code 124 278 = some (.iinc 3 (-1), 3) := (xco_124 278).trans rfl
set_option maxRecDepth 100000 in
theorem xc_124_281 : p_code 124 281 = some (.goto (-271), 3) := (xco_124 281).trans rfl
theorem xj_124_281 : p_tgt 281 (-271) = 10 ∧ 0 ≤ ((281 : Nat) : Int) + (-271) := ⟨by decide, by decide⟩
set_option maxRecDepth 100000 in
theorem xc_124_284 : p_code 124 284 = some (.iconst 1, 1) := (xco_124 284).trans rfl
set_option maxRecDepth 100000 in
theorem xc_124_285 : p_code 124 285 = some (.ireturn, 1) := (xco_124 285).trans rfl
theorem xrt_124 : p_rty 124 = some .boolean := rfl
theorem xhh_124 : p_hh 124 = [] := rfl
theorem xin_124 {x1 : Int32} : p_in0 124 [.ref 22, .int x1] = [some (.ref 22), some (.int x1), none, none, none, none, none, none, none] := rfl
theorem xrc_124 {z : Nat → Int32} {a : Nat → Nat → Int32} {w : Nat → Nat → Int64} {y : Nat → Int64} {g : List pE} {x1 : Int32} : p_recv 124 [.ref 22, .int x1] (hp z a w y g) = true := rfl
theorem xco_125 (pc : Nat) : p_code 125 pc = p_find pc pc_125 := rfl
theorem xow_125 : p_own 125 = 6 := rfl
theorem xc_125_0 : p_code 125 0 = some (.iload_n 1, 1) := (xco_125 0).trans rfl
theorem xc_125_1 : p_code 125 1 = some (.istore_n 2, 1) := (xco_125 1).trans rfl
theorem xc_125_2 : p_code 125 2 = some (.aload_n 0, 1) := (xco_125 2).trans rfl
theorem xc_125_3 : p_code 125 3 = some (.getfield 25, 3) := (xco_125 3).trans rfl
theorem xf_125_25 : p_fld (p_own 125) 25 = some (6, 9) := by rw [xow_125]; rfl
theorem xc_125_6 : p_code 125 6 = some (.bipush 60, 2) := (xco_125 6).trans rfl
theorem xc_125_8 : p_code 125 8 = some (.iload_n 2, 1) := (xco_125 8).trans rfl
theorem xc_125_9 : p_code 125 9 = some (.iadd, 1) := (xco_125 9).trans rfl
theorem xc_125_10 : p_code 125 10 = some (.iaload, 1) := (xco_125 10).trans rfl
theorem xc_125_11 : p_code 125 11 = some (.iconst (-1), 1) := (xco_125 11).trans rfl
theorem xc_125_12 : p_code 125 12 = some (.if_icmp .eq 16, 3) := (xco_125 12).trans rfl
theorem xj_125_12 : p_tgt 12 (16) = 28 ∧ 0 ≤ ((12 : Nat) : Int) + (16) := ⟨by decide, by decide⟩
theorem xc_125_15 : p_code 125 15 = some (.aload_n 0, 1) := (xco_125 15).trans rfl
theorem xc_125_16 : p_code 125 16 = some (.getfield 25, 3) := (xco_125 16).trans rfl
theorem xc_125_19 : p_code 125 19 = some (.bipush 60, 2) := (xco_125 19).trans rfl
theorem xc_125_21 : p_code 125 21 = some (.iload_n 2, 1) := (xco_125 21).trans rfl
theorem xc_125_22 : p_code 125 22 = some (.iadd, 1) := (xco_125 22).trans rfl
theorem xc_125_23 : p_code 125 23 = some (.iaload, 1) := (xco_125 23).trans rfl
theorem xc_125_24 : p_code 125 24 = some (.istore_n 2, 1) := (xco_125 24).trans rfl
theorem xc_125_25 : p_code 125 25 = some (.goto (-23), 3) := (xco_125 25).trans rfl
theorem xj_125_25 : p_tgt 25 (-23) = 2 ∧ 0 ≤ ((25 : Nat) : Int) + (-23) := ⟨by decide, by decide⟩
theorem xc_125_28 : p_code 125 28 = some (.iload_n 2, 1) := (xco_125 28).trans rfl
theorem xc_125_29 : p_code 125 29 = some (.iconst 1, 1) := (xco_125 29).trans rfl
theorem xc_125_30 : p_code 125 30 = some (.iadd, 1) := (xco_125 30).trans rfl
theorem xc_125_31 : p_code 125 31 = some (.ireturn, 1) := (xco_125 31).trans rfl
theorem xrt_125 : p_rty 125 = some .int := rfl
theorem xhh_125 : p_hh 125 = [] := rfl
theorem xin_125 {x1 : Int32} : p_in0 125 [.ref 22, .int x1] = [some (.ref 22), some (.int x1), none] := rfl
theorem xrc_125 {z : Nat → Int32} {a : Nat → Nat → Int32} {w : Nat → Nat → Int64} {y : Nat → Int64} {g : List pE} {x1 : Int32} : p_recv 125 [.ref 22, .int x1] (hp z a w y g) = true := rfl
theorem xco_126 (pc : Nat) : p_code 126 pc = p_find pc pc_126 := rfl
theorem xow_126 : p_own 126 = 6 := rfl
theorem xc_126_0 : p_code 126 0 = some (.lconst 1, 1) := (xco_126 0).trans rfl
theorem xc_126_1 : p_code 126 1 = some (.lstore_n 2, 1) := (xco_126 1).trans rfl
theorem xc_126_2 : p_code 126 2 = some (.iload_n 1, 1) := (xco_126 2).trans rfl
theorem xc_126_3 : p_code 126 3 = some (.istore 4, 2) := (xco_126 3).trans rfl
theorem xc_126_5 : p_code 126 5 = some (.aload_n 0, 1) := (xco_126 5).trans rfl
theorem xc_126_6 : p_code 126 6 = some (.getfield 55, 3) := (xco_126 6).trans rfl
theorem xf_126_55 : p_fld (p_own 126) 55 = some (6, 26) := by rw [xow_126]; rfl
theorem xc_126_9 : p_code 126 9 = some (.iload 4, 2) := (xco_126 9).trans rfl
theorem xc_126_11 : p_code 126 11 = some (.laload, 1) := (xco_126 11).trans rfl
theorem xc_126_12 : p_code 126 12 = some (.ldc2_w 71, 3) := (xco_126 12).trans rfl
theorem xl_126_71 : p_lng (p_own 126) 71 = some (-1) := by rw [xow_126]; rfl
theorem xc_126_15 : p_code 126 15 = some (.lcmp, 1) := (xco_126 15).trans rfl
theorem xc_126_16 : p_code 126 16 = some (.ifCond .ne 63, 3) := (xco_126 16).trans rfl
theorem xj_126_16 : p_tgt 16 (63) = 79 ∧ 0 ≤ ((16 : Nat) : Int) + (63) := ⟨by decide, by decide⟩
theorem xc_126_19 : p_code 126 19 = some (.aload_n 0, 1) := (xco_126 19).trans rfl
theorem xc_126_20 : p_code 126 20 = some (.getfield 62, 3) := (xco_126 20).trans rfl
theorem xf_126_62 : p_fld (p_own 126) 62 = some (6, 28) := by rw [xow_126]; rfl
theorem xc_126_23 : p_code 126 23 = some (.iload 4, 2) := (xco_126 23).trans rfl
theorem xc_126_25 : p_code 126 25 = some (.iaload, 1) := (xco_126 25).trans rfl
theorem xc_126_26 : p_code 126 26 = some (.ifCond .ne 7, 3) := (xco_126 26).trans rfl
theorem xj_126_26 : p_tgt 26 (7) = 33 ∧ 0 ≤ ((26 : Nat) : Int) + (7) := ⟨by decide, by decide⟩
theorem xc_126_29 : p_code 126 29 = some (.ldc2_w 71, 3) := (xco_126 29).trans rfl
theorem xc_126_32 : p_code 126 32 = some (.lreturn, 1) := (xco_126 32).trans rfl
theorem xc_126_33 : p_code 126 33 = some (.lload_n 2, 1) := (xco_126 33).trans rfl
theorem xc_126_34 : p_code 126 34 = some (.aload_n 0, 1) := (xco_126 34).trans rfl
theorem xc_126_35 : p_code 126 35 = some (.getfield 62, 3) := (xco_126 35).trans rfl
theorem xc_126_38 : p_code 126 38 = some (.iload 4, 2) := (xco_126 38).trans rfl
theorem xc_126_40 : p_code 126 40 = some (.iaload, 1) := (xco_126 40).trans rfl
theorem xc_126_41 : p_code 126 41 = some (.i2l, 1) := (xco_126 41).trans rfl
theorem xc_126_42 : p_code 126 42 = some (.lmul, 1) := (xco_126 42).trans rfl
theorem xc_126_43 : p_code 126 43 = some (.ldc2_w 189, 3) := (xco_126 43).trans rfl
theorem xl_126_189 : p_lng (p_own 126) 189 = some (100000000) := by rw [xow_126]; rfl
theorem xc_126_46 : p_code 126 46 = some (.lcmp, 1) := (xco_126 46).trans rfl
theorem xc_126_47 : p_code 126 47 = some (.ifCond .le 9, 3) := (xco_126 47).trans rfl
theorem xj_126_47 : p_tgt 47 (9) = 56 ∧ 0 ≤ ((47 : Nat) : Int) + (9) := ⟨by decide, by decide⟩
theorem xc_126_50 : p_code 126 50 = some (.ldc2_w 198, 3) := (xco_126 50).trans rfl
theorem xl_126_198 : p_lng (p_own 126) 198 = some (100000001) := by rw [xow_126]; rfl
theorem xc_126_53 : p_code 126 53 = some (.goto 13, 3) := (xco_126 53).trans rfl
theorem xj_126_53 : p_tgt 53 (13) = 66 ∧ 0 ≤ ((53 : Nat) : Int) + (13) := ⟨by decide, by decide⟩
theorem xc_126_56 : p_code 126 56 = some (.lload_n 2, 1) := (xco_126 56).trans rfl
theorem xc_126_57 : p_code 126 57 = some (.aload_n 0, 1) := (xco_126 57).trans rfl
theorem xc_126_58 : p_code 126 58 = some (.getfield 62, 3) := (xco_126 58).trans rfl
theorem xc_126_61 : p_code 126 61 = some (.iload 4, 2) := (xco_126 61).trans rfl
theorem xc_126_63 : p_code 126 63 = some (.iaload, 1) := (xco_126 63).trans rfl
theorem xc_126_64 : p_code 126 64 = some (.i2l, 1) := (xco_126 64).trans rfl
theorem xc_126_65 : p_code 126 65 = some (.lmul, 1) := (xco_126 65).trans rfl
theorem xc_126_66 : p_code 126 66 = some (.lstore_n 2, 1) := (xco_126 66).trans rfl
theorem xc_126_67 : p_code 126 67 = some (.aload_n 0, 1) := (xco_126 67).trans rfl
theorem xc_126_68 : p_code 126 68 = some (.getfield 59, 3) := (xco_126 68).trans rfl
theorem xf_126_59 : p_fld (p_own 126) 59 = some (6, 27) := by rw [xow_126]; rfl
theorem xc_126_71 : p_code 126 71 = some (.iload 4, 2) := (xco_126 71).trans rfl
theorem xc_126_73 : p_code 126 73 = some (.iaload, 1) := (xco_126 73).trans rfl
theorem xc_126_74 : p_code 126 74 = some (.istore 4, 2) := (xco_126 74).trans rfl
theorem xc_126_76 : p_code 126 76 = some (.goto (-71), 3) := (xco_126 76).trans rfl
theorem xj_126_76 : p_tgt 76 (-71) = 5 ∧ 0 ≤ ((76 : Nat) : Int) + (-71) := ⟨by decide, by decide⟩
theorem xc_126_79 : p_code 126 79 = some (.aload_n 0, 1) := (xco_126 79).trans rfl
theorem xc_126_80 : p_code 126 80 = some (.getfield 55, 3) := (xco_126 80).trans rfl
theorem xc_126_83 : p_code 126 83 = some (.iload 4, 2) := (xco_126 83).trans rfl
theorem xc_126_85 : p_code 126 85 = some (.laload, 1) := (xco_126 85).trans rfl
theorem xc_126_86 : p_code 126 86 = some (.lconst 0, 1) := (xco_126 86).trans rfl
theorem xc_126_87 : p_code 126 87 = some (.lcmp, 1) := (xco_126 87).trans rfl
theorem xc_126_88 : p_code 126 88 = some (.ifCond .ne 5, 3) := (xco_126 88).trans rfl
theorem xj_126_88 : p_tgt 88 (5) = 93 ∧ 0 ≤ ((88 : Nat) : Int) + (5) := ⟨by decide, by decide⟩
theorem xc_126_91 : p_code 126 91 = some (.lconst 0, 1) := (xco_126 91).trans rfl
theorem xc_126_92 : p_code 126 92 = some (.lreturn, 1) := (xco_126 92).trans rfl
theorem xc_126_93 : p_code 126 93 = some (.lload_n 2, 1) := (xco_126 93).trans rfl
theorem xc_126_94 : p_code 126 94 = some (.ldc2_w 189, 3) := (xco_126 94).trans rfl
theorem xc_126_97 : p_code 126 97 = some (.lcmp, 1) := (xco_126 97).trans rfl
theorem xc_126_98 : p_code 126 98 = some (.ifCond .gt 19, 3) := (xco_126 98).trans rfl
theorem xj_126_98 : p_tgt 98 (19) = 117 ∧ 0 ≤ ((98 : Nat) : Int) + (19) := ⟨by decide, by decide⟩
theorem xc_126_101 : p_code 126 101 = some (.aload_n 0, 1) := (xco_126 101).trans rfl
theorem xc_126_102 : p_code 126 102 = some (.getfield 55, 3) := (xco_126 102).trans rfl
theorem xc_126_105 : p_code 126 105 = some (.iload 4, 2) := (xco_126 105).trans rfl
theorem xc_126_107 : p_code 126 107 = some (.laload, 1) := (xco_126 107).trans rfl
theorem xc_126_108 : p_code 126 108 = some (.lload_n 2, 1) := (xco_126 108).trans rfl
theorem xc_126_109 : p_code 126 109 = some (.lmul, 1) := (xco_126 109).trans rfl
theorem xc_126_110 : p_code 126 110 = some (.ldc2_w 189, 3) := (xco_126 110).trans rfl
theorem xc_126_113 : p_code 126 113 = some (.lcmp, 1) := (xco_126 113).trans rfl
theorem xc_126_114 : p_code 126 114 = some (.ifCond .le 9, 3) := (xco_126 114).trans rfl
theorem xj_126_114 : p_tgt 114 (9) = 123 ∧ 0 ≤ ((114 : Nat) : Int) + (9) := ⟨by decide, by decide⟩
theorem xc_126_117 : p_code 126 117 = some (.ldc2_w 198, 3) := (xco_126 117).trans rfl
theorem xc_126_120 : p_code 126 120 = some (.goto 12, 3) := (xco_126 120).trans rfl
theorem xj_126_120 : p_tgt 120 (12) = 132 ∧ 0 ≤ ((120 : Nat) : Int) + (12) := ⟨by decide, by decide⟩
theorem xc_126_123 : p_code 126 123 = some (.aload_n 0, 1) := (xco_126 123).trans rfl
theorem xc_126_124 : p_code 126 124 = some (.getfield 55, 3) := (xco_126 124).trans rfl
theorem xc_126_127 : p_code 126 127 = some (.iload 4, 2) := (xco_126 127).trans rfl
theorem xc_126_129 : p_code 126 129 = some (.laload, 1) := (xco_126 129).trans rfl
theorem xc_126_130 : p_code 126 130 = some (.lload_n 2, 1) := (xco_126 130).trans rfl
theorem xc_126_131 : p_code 126 131 = some (.lmul, 1) := (xco_126 131).trans rfl
theorem xc_126_132 : p_code 126 132 = some (.lreturn, 1) := (xco_126 132).trans rfl
theorem xrt_126 : p_rty 126 = some .long := rfl
theorem xhh_126 : p_hh 126 = [] := rfl
theorem xin_126 {x1 : Int32} : p_in0 126 [.ref 22, .int x1] = [some (.ref 22), some (.int x1), none, none, none] := rfl
theorem xrc_126 {z : Nat → Int32} {a : Nat → Nat → Int32} {w : Nat → Nat → Int64} {y : Nat → Int64} {g : List pE} {x1 : Int32} : p_recv 126 [.ref 22, .int x1] (hp z a w y g) = true := rfl
theorem xco_127 (pc : Nat) : p_code 127 pc = p_find pc pc_127 := rfl
theorem xow_127 : p_own 127 = 6 := rfl
theorem xc_127_0 : p_code 127 0 = some (.aload_n 0, 1) := (xco_127 0).trans rfl
theorem xc_127_1 : p_code 127 1 = some (.getfield 191, 3) := (xco_127 1).trans rfl
theorem xf_127_191 : p_fld (p_own 127) 191 = some (6, 25) := by rw [xow_127]; rfl
theorem xc_127_4 : p_code 127 4 = some (.lconst 0, 1) := (xco_127 4).trans rfl
theorem xc_127_5 : p_code 127 5 = some (.lcmp, 1) := (xco_127 5).trans rfl
theorem xc_127_6 : p_code 127 6 = some (.ifCond .ne 7, 3) := (xco_127 6).trans rfl
theorem xj_127_6 : p_tgt 6 (7) = 13 ∧ 0 ≤ ((6 : Nat) : Int) + (7) := ⟨by decide, by decide⟩
theorem xc_127_9 : p_code 127 9 = some (.lconst 0, 1) := (xco_127 9).trans rfl
theorem xc_127_10 : p_code 127 10 = some (.goto 19, 3) := (xco_127 10).trans rfl
theorem xj_127_10 : p_tgt 10 (19) = 29 ∧ 0 ≤ ((10 : Nat) : Int) + (19) := ⟨by decide, by decide⟩
theorem xc_127_13 : p_code 127 13 = some (.aload_n 0, 1) := (xco_127 13).trans rfl
theorem xc_127_14 : p_code 127 14 = some (.getfield 16, 3) := (xco_127 14).trans rfl
theorem xf_127_16 : p_fld (p_own 127) 16 = some (6, 6) := by rw [xow_127]; rfl
theorem xc_127_17 : p_code 127 17 = some (.iload_n 1, 1) := (xco_127 17).trans rfl
theorem xc_127_18 : p_code 127 18 = some (.iaload, 1) := (xco_127 18).trans rfl
theorem xc_127_19 : p_code 127 19 = some (.i2l, 1) := (xco_127 19).trans rfl
theorem xc_127_20 : p_code 127 20 = some (.ldc2_w 200, 3) := (xco_127 20).trans rfl
theorem xl_127_200 : p_lng (p_own 127) 200 = some (100) := by rw [xow_127]; rfl
theorem xc_127_23 : p_code 127 23 = some (.lmul, 1) := (xco_127 23).trans rfl
theorem xc_127_24 : p_code 127 24 = some (.aload_n 0, 1) := (xco_127 24).trans rfl
theorem xc_127_25 : p_code 127 25 = some (.getfield 191, 3) := (xco_127 25).trans rfl
theorem xc_127_28 : p_code 127 28 = some (.ldiv, 1) := (xco_127 28).trans rfl
theorem xc_127_29 : p_code 127 29 = some (.lstore_n 2, 1) := (xco_127 29).trans rfl
theorem xc_127_30 : p_code 127 30 = some (.lconst 0, 1) := (xco_127 30).trans rfl
theorem xc_127_31 : p_code 127 31 = some (.lstore 4, 2) := (xco_127 31).trans rfl
theorem xc_127_33 : p_code 127 33 = some (.iconst 0, 1) := (xco_127 33).trans rfl
theorem xc_127_34 : p_code 127 34 = some (.istore 6, 2) := (xco_127 34).trans rfl
theorem xc_127_36 : p_code 127 36 = some (.iload 6, 2) := (xco_127 36).trans rfl
theorem xc_127_38 : p_code 127 38 = some (.aload_n 0, 1) := (xco_127 38).trans rfl
theorem xc_127_39 : p_code 127 39 = some (.getfield 28, 3) := (xco_127 39).trans rfl
theorem xf_127_28 : p_fld (p_own 127) 28 = some (6, 10) := by rw [xow_127]; rfl
theorem xc_127_42 : p_code 127 42 = some (.iload_n 1, 1) := (xco_127 42).trans rfl
theorem xc_127_43 : p_code 127 43 = some (.iaload, 1) := (xco_127 43).trans rfl
theorem xc_127_44 : p_code 127 44 = some (.if_icmp .ge 51, 3) := (xco_127 44).trans rfl
theorem xj_127_44 : p_tgt 44 (51) = 95 ∧ 0 ≤ ((44 : Nat) : Int) + (51) := ⟨by decide, by decide⟩
theorem xc_127_47 : p_code 127 47 = some (.aload_n 0, 1) := (xco_127 47).trans rfl
theorem xc_127_48 : p_code 127 48 = some (.getfield 191, 3) := (xco_127 48).trans rfl
theorem xc_127_51 : p_code 127 51 = some (.lconst 0, 1) := (xco_127 51).trans rfl
theorem xc_127_52 : p_code 127 52 = some (.lcmp, 1) := (xco_127 52).trans rfl
theorem xc_127_53 : p_code 127 53 = some (.ifCond .eq 21, 3) := (xco_127 53).trans rfl
theorem xj_127_53 : p_tgt 53 (21) = 74 ∧ 0 ≤ ((53 : Nat) : Int) + (21) := ⟨by decide, by decide⟩
theorem xc_127_56 : p_code 127 56 = some (.aload_n 0, 1) := (xco_127 56).trans rfl
theorem xc_127_57 : p_code 127 57 = some (.getfield 31, 3) := (xco_127 57).trans rfl
theorem xf_127_31 : p_fld (p_own 127) 31 = some (6, 11) := by rw [xow_127]; rfl
theorem xc_127_60 : p_code 127 60 = some (.bipush 6, 2) := (xco_127 60).trans rfl
theorem xc_127_62 : p_code 127 62 = some (.iload_n 1, 1) := (xco_127 62).trans rfl
theorem xc_127_63 : p_code 127 63 = some (.imul, 1) := (xco_127 63).trans rfl
theorem xc_127_64 : p_code 127 64 = some (.iload 6, 2) := (xco_127 64).trans rfl
theorem xc_127_66 : p_code 127 66 = some (.iadd, 1) := (xco_127 66).trans rfl
theorem xc_127_67 : p_code 127 67 = some (.iaload, 1) := (xco_127 67).trans rfl
theorem xc_127_68 : p_code 127 68 = some (.i2l, 1) := (xco_127 68).trans rfl
theorem xc_127_69 : p_code 127 69 = some (.lload_n 2, 1) := (xco_127 69).trans rfl
theorem xc_127_70 : p_code 127 70 = some (.lcmp, 1) := (xco_127 70).trans rfl
theorem xc_127_71 : p_code 127 71 = some (.ifCond .gt 18, 3) := (xco_127 71).trans rfl
theorem xj_127_71 : p_tgt 71 (18) = 89 ∧ 0 ≤ ((71 : Nat) : Int) + (18) := ⟨by decide, by decide⟩
theorem xc_127_74 : p_code 127 74 = some (.aload_n 0, 1) := (xco_127 74).trans rfl
theorem xc_127_75 : p_code 127 75 = some (.getfield 34, 3) := (xco_127 75).trans rfl
theorem xf_127_34 : p_fld (p_own 127) 34 = some (6, 12) := by rw [xow_127]; rfl
theorem xc_127_78 : p_code 127 78 = some (.bipush 6, 2) := (xco_127 78).trans rfl
theorem xc_127_80 : p_code 127 80 = some (.iload_n 1, 1) := (xco_127 80).trans rfl
theorem xc_127_81 : p_code 127 81 = some (.imul, 1) := (xco_127 81).trans rfl
theorem xc_127_82 : p_code 127 82 = some (.iload 6, 2) := (xco_127 82).trans rfl
theorem xc_127_84 : p_code 127 84 = some (.iadd, 1) := (xco_127 84).trans rfl
theorem xc_127_85 : p_code 127 85 = some (.iaload, 1) := (xco_127 85).trans rfl
theorem xc_127_86 : p_code 127 86 = some (.i2l, 1) := (xco_127 86).trans rfl
theorem xc_127_87 : p_code 127 87 = some (.lstore 4, 2) := (xco_127 87).trans rfl
theorem xc_127_89 : p_code 127 89 = some (.iinc 6 1, 3) := (xco_127 89).trans rfl
theorem xc_127_92 : p_code 127 92 = some (.goto (-56), 3) := (xco_127 92).trans rfl
theorem xj_127_92 : p_tgt 92 (-56) = 36 ∧ 0 ≤ ((92 : Nat) : Int) + (-56) := ⟨by decide, by decide⟩
theorem xc_127_95 : p_code 127 95 = some (.lload 4, 2) := (xco_127 95).trans rfl
theorem xc_127_97 : p_code 127 97 = some (.ldc2_w 202, 3) := (xco_127 97).trans rfl
theorem xl_127_202 : p_lng (p_own 127) 202 = some (1000000) := by rw [xow_127]; rfl
theorem xc_127_100 : p_code 127 100 = some (.lmul, 1) := (xco_127 100).trans rfl
theorem xc_127_101 : p_code 127 101 = some (.lreturn, 1) := (xco_127 101).trans rfl
theorem xrt_127 : p_rty 127 = some .long := rfl
theorem xhh_127 : p_hh 127 = [] := rfl
theorem xin_127 {x1 : Int32} : p_in0 127 [.ref 22, .int x1] = [some (.ref 22), some (.int x1), none, none, none, none, none] := rfl
theorem xrc_127 {z : Nat → Int32} {a : Nat → Nat → Int32} {w : Nat → Nat → Int64} {y : Nat → Int64} {g : List pE} {x1 : Int32} : p_recv 127 [.ref 22, .int x1] (hp z a w y g) = true := rfl
theorem xco_128 (pc : Nat) : p_code 128 pc = p_find pc pc_128 := rfl
theorem xow_128 : p_own 128 = 6 := rfl
theorem xc_128_0 : p_code 128 0 = some (.aload_n 0, 1) := (xco_128 0).trans rfl
theorem xc_128_1 : p_code 128 1 = some (.getfield 65, 3) := (xco_128 1).trans rfl
theorem xf_128_65 : p_fld (p_own 128) 65 = some (6, 29) := by rw [xow_128]; rfl
theorem xc_128_4 : p_code 128 4 = some (.iconst 0, 1) := (xco_128 4).trans rfl
theorem xc_128_5 : p_code 128 5 = some (.laload, 1) := (xco_128 5).trans rfl
theorem xc_128_6 : p_code 128 6 = some (.lconst 0, 1) := (xco_128 6).trans rfl
theorem xc_128_7 : p_code 128 7 = some (.lcmp, 1) := (xco_128 7).trans rfl
theorem xc_128_8 : p_code 128 8 = some (.ifCond .ge 7, 3) := (xco_128 8).trans rfl
theorem xj_128_8 : p_tgt 8 (7) = 15 ∧ 0 ≤ ((8 : Nat) : Int) + (7) := ⟨by decide, by decide⟩
theorem xc_128_11 : p_code 128 11 = some (.lconst 0, 1) := (xco_128 11).trans rfl
theorem xc_128_12 : p_code 128 12 = some (.goto 9, 3) := (xco_128 12).trans rfl
theorem xj_128_12 : p_tgt 12 (9) = 21 ∧ 0 ≤ ((12 : Nat) : Int) + (9) := ⟨by decide, by decide⟩
theorem xc_128_15 : p_code 128 15 = some (.aload_n 0, 1) := (xco_128 15).trans rfl
theorem xc_128_16 : p_code 128 16 = some (.getfield 65, 3) := (xco_128 16).trans rfl
theorem xc_128_19 : p_code 128 19 = some (.iconst 0, 1) := (xco_128 19).trans rfl
theorem xc_128_20 : p_code 128 20 = some (.laload, 1) := (xco_128 20).trans rfl
theorem xc_128_21 : p_code 128 21 = some (.lreturn, 1) := (xco_128 21).trans rfl
theorem xrt_128 : p_rty 128 = some .long := rfl
theorem xhh_128 : p_hh 128 = [] := rfl
theorem xin_128  : p_in0 128 [.ref 22] = [some (.ref 22)] := rfl
theorem xrc_128 {z : Nat → Int32} {a : Nat → Nat → Int32} {w : Nat → Nat → Int64} {y : Nat → Int64} {g : List pE}  : p_recv 128 [.ref 22] (hp z a w y g) = true := rfl
theorem xco_129 (pc : Nat) : p_code 129 pc = p_find pc pc_129 := rfl
theorem xow_129 : p_own 129 = 6 := rfl
theorem xc_129_0 : p_code 129 0 = some (.aload_n 0, 1) := (xco_129 0).trans rfl
theorem xc_129_1 : p_code 129 1 = some (.iload_n 1, 1) := (xco_129 1).trans rfl
theorem xc_129_2 : p_code 129 2 = some (.ifCond .lt 12, 3) := (xco_129 2).trans rfl
theorem xj_129_2 : p_tgt 2 (12) = 14 ∧ 0 ≤ ((2 : Nat) : Int) + (12) := ⟨by decide, by decide⟩
theorem xc_129_5 : p_code 129 5 = some (.iload_n 1, 1) := (xco_129 5).trans rfl
theorem xc_129_6 : p_code 129 6 = some (.iconst 3, 1) := (xco_129 6).trans rfl
theorem xc_129_7 : p_code 129 7 = some (.if_icmp .gt 7, 3) := (xco_129 7).trans rfl
theorem xj_129_7 : p_tgt 7 (7) = 14 ∧ 0 ≤ ((7 : Nat) : Int) + (7) := ⟨by decide, by decide⟩
theorem xc_129_10 : p_code 129 10 = some (.iconst 0, 1) := (xco_129 10).trans rfl
theorem xc_129_11 : p_code 129 11 = some (.goto 4, 3) := (xco_129 11).trans rfl
theorem xj_129_11 : p_tgt 11 (4) = 15 ∧ 0 ≤ ((11 : Nat) : Int) + (4) := ⟨by decide, by decide⟩
theorem xc_129_14 : p_code 129 14 = some (.iconst 1, 1) := (xco_129 14).trans rfl
theorem xc_129_15 : p_code 129 15 = some (.putfield 73, 3) := (xco_129 15).trans rfl
theorem xf_129_73 : p_fld (p_own 129) 73 = some (6, 4) := by rw [xow_129]; rfl
theorem xc_129_18 : p_code 129 18 = some (.aload_n 0, 1) := (xco_129 18).trans rfl
theorem xc_129_19 : p_code 129 19 = some (.getfield 73, 3) := (xco_129 19).trans rfl
theorem xc_129_22 : p_code 129 22 = some (.ifCond .ne 11, 3) := (xco_129 22).trans rfl
theorem xj_129_22 : p_tgt 22 (11) = 33 ∧ 0 ≤ ((22 : Nat) : Int) + (11) := ⟨by decide, by decide⟩
theorem xc_129_25 : p_code 129 25 = some (.aload_n 0, 1) := (xco_129 25).trans rfl
theorem xc_129_26 : p_code 129 26 = some (.iconst 2, 1) := (xco_129 26).trans rfl
theorem xc_129_27 : p_code 129 27 = some (.invokevirtual 219, 3) := (xco_129 27).trans rfl
theorem xm_129_27 : p_calls 129 (.invokevirtual 219) = some (123, 2) := by dsimp only [p_calls]; rw [xow_129]; rfl
theorem xc_129_30 : p_code 129 30 = some (.ifCond .ne 5, 3) := (xco_129 30).trans rfl
theorem xj_129_30 : p_tgt 30 (5) = 35 ∧ 0 ≤ ((30 : Nat) : Int) + (5) := ⟨by decide, by decide⟩
theorem xc_129_33 : p_code 129 33 = some (.lconst 0, 1) := (xco_129 33).trans rfl
theorem xc_129_34 : p_code 129 34 = some (.lreturn, 1) := (xco_129 34).trans rfl
theorem xc_129_35 : p_code 129 35 = some (.aload_n 0, 1) := (xco_129 35).trans rfl
theorem xc_129_36 : p_code 129 36 = some (.invokevirtual 222, 3) := (xco_129 36).trans rfl
theorem xm_129_36 : p_calls 129 (.invokevirtual 222) = some (128, 1) := by dsimp only [p_calls]; rw [xow_129]; rfl
theorem xc_129_39 : p_code 129 39 = some (.lstore_n 2, 1) := (xco_129 39).trans rfl
theorem xc_129_40 : p_code 129 40 = some (.iload_n 1, 1) := (xco_129 40).trans rfl
theorem xc_129_41 : p_code 129 41 = some (.ifCond .ne 9, 3) := (xco_129 41).trans rfl
theorem xj_129_41 : p_tgt 41 (9) = 50 ∧ 0 ≤ ((41 : Nat) : Int) + (9) := ⟨by decide, by decide⟩
theorem xc_129_44 : p_code 129 44 = some (.lload_n 2, 1) := (xco_129 44).trans rfl
theorem xc_129_45 : p_code 129 45 = some (.ldc2_w 202, 3) := (xco_129 45).trans rfl
theorem xl_129_202 : p_lng (p_own 129) 202 = some (1000000) := by rw [xow_129]; rfl
theorem xc_129_48 : p_code 129 48 = some (.ldiv, 1) := (xco_129 48).trans rfl
theorem xc_129_49 : p_code 129 49 = some (.lreturn, 1) := (xco_129 49).trans rfl
theorem xc_129_50 : p_code 129 50 = some (.iload_n 1, 1) := (xco_129 50).trans rfl
theorem xc_129_51 : p_code 129 51 = some (.iconst 1, 1) := (xco_129 51).trans rfl
theorem xc_129_52 : p_code 129 52 = some (.if_icmp .ne 13, 3) := (xco_129 52).trans rfl
theorem xj_129_52 : p_tgt 52 (13) = 65 ∧ 0 ≤ ((52 : Nat) : Int) + (13) := ⟨by decide, by decide⟩
theorem xc_129_55 : p_code 129 55 = some (.lload_n 2, 1) := (xco_129 55).trans rfl
theorem xc_129_56 : p_code 129 56 = some (.ldc2_w 226, 3) := (xco_129 56).trans rfl
theorem xl_129_226 : p_lng (p_own 129) 226 = some (500000) := by rw [xow_129]; rfl
theorem xc_129_59 : p_code 129 59 = some (.ladd, 1) := (xco_129 59).trans rfl
theorem xc_129_60 : p_code 129 60 = some (.ldc2_w 202, 3) := (xco_129 60).trans rfl
theorem xc_129_63 : p_code 129 63 = some (.ldiv, 1) := (xco_129 63).trans rfl
theorem xc_129_64 : p_code 129 64 = some (.lreturn, 1) := (xco_129 64).trans rfl
theorem xc_129_65 : p_code 129 65 = some (.iload_n 1, 1) := (xco_129 65).trans rfl
theorem xc_129_66 : p_code 129 66 = some (.iconst 2, 1) := (xco_129 66).trans rfl
theorem xc_129_67 : p_code 129 67 = some (.if_icmp .ne 15, 3) := (xco_129 67).trans rfl
theorem xj_129_67 : p_tgt 67 (15) = 82 ∧ 0 ≤ ((67 : Nat) : Int) + (15) := ⟨by decide, by decide⟩
theorem xc_129_70 : p_code 129 70 = some (.lload_n 2, 1) := (xco_129 70).trans rfl
theorem xc_129_71 : p_code 129 71 = some (.ldc2_w 228, 3) := (xco_129 71).trans rfl
theorem xl_129_228 : p_lng (p_own 129) 228 = some (999999) := by rw [xow_129]; rfl
theorem xc_129_74 : p_code 129 74 = some (.ladd, 1) := (xco_129 74).trans rfl
theorem xc_129_75 : p_code 129 75 = some (.ldc2_w 202, 3) := (xco_129 75).trans rfl
theorem xc_129_78 : p_code 129 78 = some (.ldiv, 1) := (xco_129 78).trans rfl
theorem xc_129_79 : p_code 129 79 = some (.goto 12, 3) := (xco_129 79).trans rfl
theorem xj_129_79 : p_tgt 79 (12) = 91 ∧ 0 ≤ ((79 : Nat) : Int) + (12) := ⟨by decide, by decide⟩
theorem xc_129_82 : p_code 129 82 = some (.lload_n 2, 1) := (xco_129 82).trans rfl
theorem xc_129_83 : p_code 129 83 = some (.ldc2_w 230, 3) := (xco_129 83).trans rfl
theorem xl_129_230 : p_lng (p_own 129) 230 = some (10000000) := by rw [xow_129]; rfl
theorem xc_129_86 : p_code 129 86 = some (.ldiv, 1) := (xco_129 86).trans rfl
theorem xc_129_87 : p_code 129 87 = some (.ldc2_w 211, 3) := (xco_129 87).trans rfl
theorem xl_129_211 : p_lng (p_own 129) 211 = some (10) := by rw [xow_129]; rfl
theorem xc_129_90 : p_code 129 90 = some (.lmul, 1) := (xco_129 90).trans rfl
theorem xc_129_91 : p_code 129 91 = some (.lreturn, 1) := (xco_129 91).trans rfl
theorem xrt_129 : p_rty 129 = some .long := rfl
theorem xhh_129 : p_hh 129 = [] := rfl
theorem xin_129 {x1 : Int32} : p_in0 129 [.ref 22, .int x1] = [some (.ref 22), some (.int x1), none, none] := rfl
theorem xrc_129 {z : Nat → Int32} {a : Nat → Nat → Int32} {w : Nat → Nat → Int64} {y : Nat → Int64} {g : List pE} {x1 : Int32} : p_recv 129 [.ref 22, .int x1] (hp z a w y g) = true := rfl
theorem xco_130 (pc : Nat) : p_code 130 pc = p_find pc pc_130 := rfl
theorem xow_130 : p_own 130 = 6 := rfl
theorem xc_130_0 : p_code 130 0 = some (.aload_n 0, 1) := (xco_130 0).trans rfl
theorem xc_130_1 : p_code 130 1 = some (.iload_n 1, 1) := (xco_130 1).trans rfl
theorem xc_130_2 : p_code 130 2 = some (.ifCond .lt 20, 3) := (xco_130 2).trans rfl
theorem xj_130_2 : p_tgt 2 (20) = 22 ∧ 0 ≤ ((2 : Nat) : Int) + (20) := ⟨by decide, by decide⟩
theorem xc_130_5 : p_code 130 5 = some (.iload_n 1, 1) := (xco_130 5).trans rfl
theorem xc_130_6 : p_code 130 6 = some (.aload_n 0, 1) := (xco_130 6).trans rfl
theorem xc_130_7 : p_code 130 7 = some (.getfield 174, 3) := (xco_130 7).trans rfl
theorem xf_130_174 : p_fld (p_own 130) 174 = some (6, 15) := by rw [xow_130]; rfl
theorem xc_130_10 : p_code 130 10 = some (.if_icmp .ge 12, 3) := (xco_130 10).trans rfl
theorem xj_130_10 : p_tgt 10 (12) = 22 ∧ 0 ≤ ((10 : Nat) : Int) + (12) := ⟨by decide, by decide⟩
theorem xc_130_13 : p_code 130 13 = some (.iload_n 2, 1) := (xco_130 13).trans rfl
theorem xc_130_14 : p_code 130 14 = some (.ifCond .lt 8, 3) := (xco_130 14).trans rfl
theorem xj_130_14 : p_tgt 14 (8) = 22 ∧ 0 ≤ ((14 : Nat) : Int) + (8) := ⟨by decide, by decide⟩
theorem xc_130_17 : p_code 130 17 = some (.iload_n 2, 1) := (xco_130 17).trans rfl
theorem xc_130_18 : p_code 130 18 = some (.iconst 5, 1) := (xco_130 18).trans rfl
theorem xc_130_19 : p_code 130 19 = some (.if_icmp .le 7, 3) := (xco_130 19).trans rfl
theorem xj_130_19 : p_tgt 19 (7) = 26 ∧ 0 ≤ ((19 : Nat) : Int) + (7) := ⟨by decide, by decide⟩
theorem xc_130_22 : p_code 130 22 = some (.iconst 1, 1) := (xco_130 22).trans rfl
theorem xc_130_23 : p_code 130 23 = some (.goto 4, 3) := (xco_130 23).trans rfl
theorem xj_130_23 : p_tgt 23 (4) = 27 ∧ 0 ≤ ((23 : Nat) : Int) + (4) := ⟨by decide, by decide⟩
theorem xc_130_26 : p_code 130 26 = some (.iconst 0, 1) := (xco_130 26).trans rfl
theorem xc_130_27 : p_code 130 27 = some (.putfield 73, 3) := (xco_130 27).trans rfl
theorem xf_130_73 : p_fld (p_own 130) 73 = some (6, 4) := by rw [xow_130]; rfl
theorem xc_130_30 : p_code 130 30 = some (.aload_n 0, 1) := (xco_130 30).trans rfl
theorem xc_130_31 : p_code 130 31 = some (.getfield 73, 3) := (xco_130 31).trans rfl
theorem xc_130_34 : p_code 130 34 = some (.ifCond .eq 5, 3) := (xco_130 34).trans rfl
theorem xj_130_34 : p_tgt 34 (5) = 39 ∧ 0 ≤ ((34 : Nat) : Int) + (5) := ⟨by decide, by decide⟩
theorem xc_130_37 : p_code 130 37 = some (.iconst 0, 1) := (xco_130 37).trans rfl
theorem xc_130_38 : p_code 130 38 = some (.ireturn, 1) := (xco_130 38).trans rfl
theorem xc_130_39 : p_code 130 39 = some (.bipush 60, 2) := (xco_130 39).trans rfl
theorem xc_130_41 : p_code 130 41 = some (.iload_n 1, 1) := (xco_130 41).trans rfl
theorem xc_130_42 : p_code 130 42 = some (.iadd, 1) := (xco_130 42).trans rfl
theorem xc_130_43 : p_code 130 43 = some (.istore_n 3, 1) := (xco_130 43).trans rfl
theorem xc_130_44 : p_code 130 44 = some (.iload_n 2, 1) := (xco_130 44).trans rfl
theorem xc_130_45 : p_code 130 45 = some (.tableswitch 70 0 4 #[35, 42, 49, 56, 63], 35) := (xco_130 45).trans rfl
theorem xc_130_80 : p_code 130 80 = some (.aload_n 0, 1) := (xco_130 80).trans rfl
theorem xc_130_81 : p_code 130 81 = some (.getfield 13, 3) := (xco_130 81).trans rfl
theorem xf_130_13 : p_fld (p_own 130) 13 = some (6, 5) := by rw [xow_130]; rfl
theorem xc_130_84 : p_code 130 84 = some (.iload_n 3, 1) := (xco_130 84).trans rfl
theorem xc_130_85 : p_code 130 85 = some (.iaload, 1) := (xco_130 85).trans rfl
theorem xc_130_86 : p_code 130 86 = some (.ireturn, 1) := (xco_130 86).trans rfl
theorem xc_130_87 : p_code 130 87 = some (.aload_n 0, 1) := (xco_130 87).trans rfl
theorem xc_130_88 : p_code 130 88 = some (.getfield 16, 3) := (xco_130 88).trans rfl
theorem xf_130_16 : p_fld (p_own 130) 16 = some (6, 6) := by rw [xow_130]; rfl
theorem xc_130_91 : p_code 130 91 = some (.iload_n 3, 1) := (xco_130 91).trans rfl
theorem xc_130_92 : p_code 130 92 = some (.iaload, 1) := (xco_130 92).trans rfl
theorem xc_130_93 : p_code 130 93 = some (.ireturn, 1) := (xco_130 93).trans rfl
theorem xc_130_94 : p_code 130 94 = some (.aload_n 0, 1) := (xco_130 94).trans rfl
theorem xc_130_95 : p_code 130 95 = some (.getfield 19, 3) := (xco_130 95).trans rfl
theorem xf_130_19 : p_fld (p_own 130) 19 = some (6, 7) := by rw [xow_130]; rfl
theorem xc_130_98 : p_code 130 98 = some (.iload_n 3, 1) := (xco_130 98).trans rfl
theorem xc_130_99 : p_code 130 99 = some (.iaload, 1) := (xco_130 99).trans rfl
theorem xc_130_100 : p_code 130 100 = some (.ireturn, 1) := (xco_130 100).trans rfl
theorem xc_130_101 : p_code 130 101 = some (.aload_n 0, 1) := (xco_130 101).trans rfl
theorem xc_130_102 : p_code 130 102 = some (.getfield 22, 3) := (xco_130 102).trans rfl
theorem xf_130_22 : p_fld (p_own 130) 22 = some (6, 8) := by rw [xow_130]; rfl
theorem xc_130_105 : p_code 130 105 = some (.iload_n 3, 1) := (xco_130 105).trans rfl
theorem xc_130_106 : p_code 130 106 = some (.iaload, 1) := (xco_130 106).trans rfl
theorem xc_130_107 : p_code 130 107 = some (.ireturn, 1) := (xco_130 107).trans rfl
theorem xc_130_108 : p_code 130 108 = some (.aload_n 0, 1) := (xco_130 108).trans rfl
theorem xc_130_109 : p_code 130 109 = some (.getfield 25, 3) := (xco_130 109).trans rfl
theorem xf_130_25 : p_fld (p_own 130) 25 = some (6, 9) := by rw [xow_130]; rfl
theorem xc_130_112 : p_code 130 112 = some (.iload_n 3, 1) := (xco_130 112).trans rfl
theorem xc_130_113 : p_code 130 113 = some (.iaload, 1) := (xco_130 113).trans rfl
theorem xc_130_114 : p_code 130 114 = some (.ireturn, 1) := (xco_130 114).trans rfl
theorem xc_130_115 : p_code 130 115 = some (.aload_n 0, 1) := (xco_130 115).trans rfl
theorem xc_130_116 : p_code 130 116 = some (.getfield 28, 3) := (xco_130 116).trans rfl
theorem xf_130_28 : p_fld (p_own 130) 28 = some (6, 10) := by rw [xow_130]; rfl
theorem xc_130_119 : p_code 130 119 = some (.iload_n 3, 1) := (xco_130 119).trans rfl
theorem xc_130_120 : p_code 130 120 = some (.iaload, 1) := (xco_130 120).trans rfl
theorem xc_130_121 : p_code 130 121 = some (.ireturn, 1) := (xco_130 121).trans rfl
theorem xrt_130 : p_rty 130 = some .int := rfl
theorem xhh_130 : p_hh 130 = [] := rfl
theorem xin_130 {x1 : Int32} {x2 : Int32} : p_in0 130 [.ref 22, .int x1, .int x2] = [some (.ref 22), some (.int x1), some (.int x2), none] := rfl
theorem xrc_130 {z : Nat → Int32} {a : Nat → Nat → Int32} {w : Nat → Nat → Int64} {y : Nat → Int64} {g : List pE} {x1 : Int32} {x2 : Int32} : p_recv 130 [.ref 22, .int x1, .int x2] (hp z a w y g) = true := rfl
theorem xco_131 (pc : Nat) : p_code 131 pc = p_find pc pc_131 := rfl
theorem xow_131 : p_own 131 = 6 := rfl
theorem xc_131_0 : p_code 131 0 = some (.aload_n 0, 1) := (xco_131 0).trans rfl
theorem xc_131_1 : p_code 131 1 = some (.iload_n 1, 1) := (xco_131 1).trans rfl
theorem xc_131_2 : p_code 131 2 = some (.ifCond .lt 11, 3) := (xco_131 2).trans rfl
theorem xj_131_2 : p_tgt 2 (11) = 13 ∧ 0 ≤ ((2 : Nat) : Int) + (11) := ⟨by decide, by decide⟩
theorem xc_131_5 : p_code 131 5 = some (.iload_n 1, 1) := (xco_131 5).trans rfl
theorem xc_131_6 : p_code 131 6 = some (.aload_n 0, 1) := (xco_131 6).trans rfl
theorem xc_131_7 : p_code 131 7 = some (.getfield 174, 3) := (xco_131 7).trans rfl
theorem xf_131_174 : p_fld (p_own 131) 174 = some (6, 15) := by rw [xow_131]; rfl
theorem xc_131_10 : p_code 131 10 = some (.if_icmp .lt 7, 3) := (xco_131 10).trans rfl
theorem xj_131_10 : p_tgt 10 (7) = 17 ∧ 0 ≤ ((10 : Nat) : Int) + (7) := ⟨by decide, by decide⟩
theorem xc_131_13 : p_code 131 13 = some (.iconst 1, 1) := (xco_131 13).trans rfl
theorem xc_131_14 : p_code 131 14 = some (.goto 16, 3) := (xco_131 14).trans rfl
theorem xj_131_14 : p_tgt 14 (16) = 30 ∧ 0 ≤ ((14 : Nat) : Int) + (16) := ⟨by decide, by decide⟩
theorem xc_131_17 : p_code 131 17 = some (.aload_n 0, 1) := (xco_131 17).trans rfl
theorem xc_131_18 : p_code 131 18 = some (.iload_n 1, 1) := (xco_131 18).trans rfl
theorem xc_131_19 : p_code 131 19 = some (.invokevirtual 216, 3) := (xco_131 19).trans rfl
theorem xm_131_19 : p_calls 131 (.invokevirtual 216) = some (124, 2) := by dsimp only [p_calls]; rw [xow_131]; rfl
theorem xc_131_22 : p_code 131 22 = some (.ifCond .ne 7, 3) := (xco_131 22).trans rfl
theorem xj_131_22 : p_tgt 22 (7) = 29 ∧ 0 ≤ ((22 : Nat) : Int) + (7) := ⟨by decide, by decide⟩
theorem xc_131_25 : p_code 131 25 = some (.iconst 2, 1) := (xco_131 25).trans rfl
theorem xc_131_26 : p_code 131 26 = some (.goto 4, 3) := (xco_131 26).trans rfl
theorem xj_131_26 : p_tgt 26 (4) = 30 ∧ 0 ≤ ((26 : Nat) : Int) + (4) := ⟨by decide, by decide⟩
theorem xc_131_29 : p_code 131 29 = some (.iconst 0, 1) := (xco_131 29).trans rfl
theorem xc_131_30 : p_code 131 30 = some (.putfield 73, 3) := (xco_131 30).trans rfl
theorem xf_131_73 : p_fld (p_own 131) 73 = some (6, 4) := by rw [xow_131]; rfl
theorem xc_131_33 : p_code 131 33 = some (.aload_n 0, 1) := (xco_131 33).trans rfl
theorem xc_131_34 : p_code 131 34 = some (.getfield 73, 3) := (xco_131 34).trans rfl
theorem xc_131_37 : p_code 131 37 = some (.ifCond .eq 7, 3) := (xco_131 37).trans rfl
theorem xj_131_37 : p_tgt 37 (7) = 44 ∧ 0 ≤ ((37 : Nat) : Int) + (7) := ⟨by decide, by decide⟩
theorem xc_131_40 : p_code 131 40 = some (.lconst 0, 1) := (xco_131 40).trans rfl
theorem xc_131_41 : p_code 131 41 = some (.goto 9, 3) := (xco_131 41).trans rfl
theorem xj_131_41 : p_tgt 41 (9) = 50 ∧ 0 ≤ ((41 : Nat) : Int) + (9) := ⟨by decide, by decide⟩
theorem xc_131_44 : p_code 131 44 = some (.aload_n 0, 1) := (xco_131 44).trans rfl
theorem xc_131_45 : p_code 131 45 = some (.getfield 65, 3) := (xco_131 45).trans rfl
theorem xf_131_65 : p_fld (p_own 131) 65 = some (6, 29) := by rw [xow_131]; rfl
theorem xc_131_48 : p_code 131 48 = some (.iload_n 1, 1) := (xco_131 48).trans rfl
theorem xc_131_49 : p_code 131 49 = some (.laload, 1) := (xco_131 49).trans rfl
theorem xc_131_50 : p_code 131 50 = some (.lreturn, 1) := (xco_131 50).trans rfl
theorem xrt_131 : p_rty 131 = some .long := rfl
theorem xhh_131 : p_hh 131 = [] := rfl
theorem xin_131 {x1 : Int32} : p_in0 131 [.ref 22, .int x1] = [some (.ref 22), some (.int x1)] := rfl
theorem xrc_131 {z : Nat → Int32} {a : Nat → Nat → Int32} {w : Nat → Nat → Int64} {y : Nat → Int64} {g : List pE} {x1 : Int32} : p_recv 131 [.ref 22, .int x1] (hp z a w y g) = true := rfl
theorem xco_132 (pc : Nat) : p_code 132 pc = p_find pc pc_132 := rfl
theorem xow_132 : p_own 132 = 6 := rfl
theorem xc_132_0 : p_code 132 0 = some (.aload_n 0, 1) := (xco_132 0).trans rfl
theorem xc_132_1 : p_code 132 1 = some (.iconst 0, 1) := (xco_132 1).trans rfl
theorem xc_132_2 : p_code 132 2 = some (.putfield 73, 3) := (xco_132 2).trans rfl
theorem xf_132_73 : p_fld (p_own 132) 73 = some (6, 4) := by rw [xow_132]; rfl
theorem xc_132_5 : p_code 132 5 = some (.iconst 0, 1) := (xco_132 5).trans rfl
theorem xc_132_6 : p_code 132 6 = some (.istore_n 2, 1) := (xco_132 6).trans rfl
theorem xc_132_7 : p_code 132 7 = some (.iconst 0, 1) := (xco_132 7).trans rfl
theorem xc_132_8 : p_code 132 8 = some (.istore_n 3, 1) := (xco_132 8).trans rfl
theorem xc_132_9 : p_code 132 9 = some (.iload_n 3, 1) := (xco_132 9).trans rfl
theorem xc_132_10 : p_code 132 10 = some (.bipush 8, 2) := (xco_132 10).trans rfl
theorem xc_132_12 : p_code 132 12 = some (.if_icmp .ge 86, 3) := (xco_132 12).trans rfl
theorem xj_132_12 : p_tgt 12 (86) = 98 ∧ 0 ≤ ((12 : Nat) : Int) + (86) := ⟨by decide, by decide⟩
theorem xc_132_15 : p_code 132 15 = some (.iconst 0, 1) := (xco_132 15).trans rfl
theorem xc_132_16 : p_code 132 16 = some (.istore 4, 2) := (xco_132 16).trans rfl
theorem xc_132_18 : p_code 132 18 = some (.bipush 60, 2) := (xco_132 18).trans rfl
theorem xc_132_20 : p_code 132 20 = some (.istore 5, 2) := (xco_132 20).trans rfl
theorem xc_132_22 : p_code 132 22 = some (.iload 5, 2) := (xco_132 22).trans rfl
theorem xc_132_24 : p_code 132 24 = some (.bipush 60, 2) := (xco_132 24).trans rfl
theorem xc_132_26 : p_code 132 26 = some (.aload_n 0, 1) := (xco_132 26).trans rfl
theorem xc_132_27 : p_code 132 27 = some (.getfield 174, 3) := (xco_132 27).trans rfl
theorem xf_132_174 : p_fld (p_own 132) 174 = some (6, 15) := by rw [xow_132]; rfl
theorem xc_132_30 : p_code 132 30 = some (.iadd, 1) := (xco_132 30).trans rfl
theorem xc_132_31 : p_code 132 31 = some (.if_icmp .ge 34, 3) := (xco_132 31).trans rfl
theorem xj_132_31 : p_tgt 31 (34) = 65 ∧ 0 ≤ ((31 : Nat) : Int) + (34) := ⟨by decide, by decide⟩
theorem xc_132_34 : p_code 132 34 = some (.aload_n 0, 1) := (xco_132 34).trans rfl
theorem xc_132_35 : p_code 132 35 = some (.getfield 13, 3) := (xco_132 35).trans rfl
theorem xf_132_13 : p_fld (p_own 132) 13 = some (6, 5) := by rw [xow_132]; rfl
theorem xc_132_38 : p_code 132 38 = some (.iload 5, 2) := (xco_132 38).trans rfl
theorem xc_132_40 : p_code 132 40 = some (.iaload, 1) := (xco_132 40).trans rfl
theorem xc_132_41 : p_code 132 41 = some (.iconst 2, 1) := (xco_132 41).trans rfl
theorem xc_132_42 : p_code 132 42 = some (.if_icmp .ne 17, 3) := (xco_132 42).trans rfl
theorem xj_132_42 : p_tgt 42 (17) = 59 ∧ 0 ≤ ((42 : Nat) : Int) + (17) := ⟨by decide, by decide⟩
theorem xc_132_45 : p_code 132 45 = some (.aload_n 0, 1) := (xco_132 45).trans rfl
theorem xc_132_46 : p_code 132 46 = some (.getfield 19, 3) := (xco_132 46).trans rfl
theorem xf_132_19 : p_fld (p_own 132) 19 = some (6, 7) := by rw [xow_132]; rfl
theorem xc_132_49 : p_code 132 49 = some (.iload 5, 2) := (xco_132 49).trans rfl
theorem xc_132_51 : p_code 132 51 = some (.iaload, 1) := (xco_132 51).trans rfl
theorem xc_132_52 : p_code 132 52 = some (.iload_n 3, 1) := (xco_132 52).trans rfl
theorem xc_132_53 : p_code 132 53 = some (.if_icmp .ne 6, 3) := (xco_132 53).trans rfl
theorem xj_132_53 : p_tgt 53 (6) = 59 ∧ 0 ≤ ((53 : Nat) : Int) + (6) := ⟨by decide, by decide⟩
theorem xc_132_56 : p_code 132 56 = some (.iconst 1, 1) := (xco_132 56).trans rfl
theorem xc_132_57 : p_code 132 57 = some (.istore 4, 2) := (xco_132 57).trans rfl
theorem xc_132_59 : p_code 132 59 = some (.iinc 5 1, 3) := (xco_132 59).trans rfl
theorem xc_132_62 : p_code 132 62 = some (.goto (-40), 3) := (xco_132 62).trans rfl
theorem xj_132_62 : p_tgt 62 (-40) = 22 ∧ 0 ≤ ((62 : Nat) : Int) + (-40) := ⟨by decide, by decide⟩
theorem xc_132_65 : p_code 132 65 = some (.iload 4, 2) := (xco_132 65).trans rfl
theorem xc_132_67 : p_code 132 67 = some (.ifCond .eq 25, 3) := (xco_132 67).trans rfl
theorem xj_132_67 : p_tgt 67 (25) = 92 ∧ 0 ≤ ((67 : Nat) : Int) + (25) := ⟨by decide, by decide⟩
theorem xc_132_70 : p_code 132 70 = some (.aload_n 0, 1) := (xco_132 70).trans rfl
theorem xc_132_71 : p_code 132 71 = some (.iload_n 3, 1) := (xco_132 71).trans rfl
theorem xc_132_72 : p_code 132 72 = some (.invokevirtual 207, 3) := (xco_132 72).trans rfl
theorem xm_132_72 : p_calls 132 (.invokevirtual 207) = some (126, 2) := by dsimp only [p_calls]; rw [xow_132]; rfl
theorem xc_132_75 : p_code 132 75 = some (.ldc2_w 71, 3) := (xco_132 75).trans rfl
theorem xl_132_71 : p_lng (p_own 132) 71 = some (-1) := by rw [xow_132]; rfl
theorem xc_132_78 : p_code 132 78 = some (.lcmp, 1) := (xco_132 78).trans rfl
theorem xc_132_79 : p_code 132 79 = some (.ifCond .ne 13, 3) := (xco_132 79).trans rfl
theorem xj_132_79 : p_tgt 79 (13) = 92 ∧ 0 ≤ ((79 : Nat) : Int) + (13) := ⟨by decide, by decide⟩
theorem xc_132_82 : p_code 132 82 = some (.iload_n 2, 1) := (xco_132 82).trans rfl
theorem xc_132_83 : p_code 132 83 = some (.iload_n 1, 1) := (xco_132 83).trans rfl
theorem xc_132_84 : p_code 132 84 = some (.if_icmp .ne 5, 3) := (xco_132 84).trans rfl
theorem xj_132_84 : p_tgt 84 (5) = 89 ∧ 0 ≤ ((84 : Nat) : Int) + (5) := ⟨by decide, by decide⟩
theorem xc_132_87 : p_code 132 87 = some (.iload_n 3, 1) := (xco_132 87).trans rfl
theorem xc_132_88 : p_code 132 88 = some (.ireturn, 1) := (xco_132 88).trans rfl
theorem xc_132_89 : p_code 132 89 = some (.iinc 2 1, 3) := (xco_132 89).trans rfl
theorem xc_132_92 : p_code 132 92 = some (.iinc 3 1, 3) := (xco_132 92).trans rfl
theorem xc_132_95 : p_code 132 95 = some (.goto (-86), 3) := (xco_132 95).trans rfl
theorem xj_132_95 : p_tgt 95 (-86) = 9 ∧ 0 ≤ ((95 : Nat) : Int) + (-86) := ⟨by decide, by decide⟩
theorem xc_132_98 : p_code 132 98 = some (.iconst (-1), 1) := (xco_132 98).trans rfl
theorem xc_132_99 : p_code 132 99 = some (.ireturn, 1) := (xco_132 99).trans rfl
theorem xrt_132 : p_rty 132 = some .int := rfl
theorem xhh_132 : p_hh 132 = [] := rfl
theorem xin_132 {x1 : Int32} : p_in0 132 [.ref 22, .int x1] = [some (.ref 22), some (.int x1), none, none, none, none] := rfl
theorem xrc_132 {z : Nat → Int32} {a : Nat → Nat → Int32} {w : Nat → Nat → Int64} {y : Nat → Int64} {g : List pE} {x1 : Int32} : p_recv 132 [.ref 22, .int x1] (hp z a w y g) = true := rfl
theorem xco_133 (pc : Nat) : p_code 133 pc = p_find pc pc_133 := rfl
theorem xow_133 : p_own 133 = 6 := rfl
theorem xc_133_0 : p_code 133 0 = some (.aload_n 0, 1) := (xco_133 0).trans rfl
theorem xc_133_1 : p_code 133 1 = some (.aload_n 0, 1) := (xco_133 1).trans rfl
theorem xc_133_2 : p_code 133 2 = some (.getfield 174, 3) := (xco_133 2).trans rfl
theorem xf_133_174 : p_fld (p_own 133) 174 = some (6, 15) := by rw [xow_133]; rfl
theorem xc_133_5 : p_code 133 5 = some (.ifCond .ne 7, 3) := (xco_133 5).trans rfl
theorem xj_133_5 : p_tgt 5 (7) = 12 ∧ 0 ≤ ((5 : Nat) : Int) + (7) := ⟨by decide, by decide⟩
theorem xc_133_8 : p_code 133 8 = some (.iconst 1, 1) := (xco_133 8).trans rfl
theorem xc_133_9 : p_code 133 9 = some (.goto 4, 3) := (xco_133 9).trans rfl
theorem xj_133_9 : p_tgt 9 (4) = 13 ∧ 0 ≤ ((9 : Nat) : Int) + (4) := ⟨by decide, by decide⟩
theorem xc_133_12 : p_code 133 12 = some (.iconst 0, 1) := (xco_133 12).trans rfl
theorem xc_133_13 : p_code 133 13 = some (.putfield 73, 3) := (xco_133 13).trans rfl
theorem xf_133_73 : p_fld (p_own 133) 73 = some (6, 4) := by rw [xow_133]; rfl
theorem xc_133_16 : p_code 133 16 = some (.aload_n 0, 1) := (xco_133 16).trans rfl
theorem xc_133_17 : p_code 133 17 = some (.getfield 73, 3) := (xco_133 17).trans rfl
theorem xc_133_20 : p_code 133 20 = some (.ifCond .eq 5, 3) := (xco_133 20).trans rfl
theorem xj_133_20 : p_tgt 20 (5) = 25 ∧ 0 ≤ ((20 : Nat) : Int) + (5) := ⟨by decide, by decide⟩
theorem xc_133_23 : p_code 133 23 = some (.iconst 0, 1) := (xco_133 23).trans rfl
theorem xc_133_24 : p_code 133 24 = some (.ireturn, 1) := (xco_133 24).trans rfl
theorem xc_133_25 : p_code 133 25 = some (.aload_n 0, 1) := (xco_133 25).trans rfl
theorem xc_133_26 : p_code 133 26 = some (.iconst 0, 1) := (xco_133 26).trans rfl
theorem xc_133_27 : p_code 133 27 = some (.putfield 232, 3) := (xco_133 27).trans rfl
theorem xf_133_232 : p_fld (p_own 133) 232 = some (6, 31) := by rw [xow_133]; rfl
theorem xc_133_30 : p_code 133 30 = some (.iconst 1, 1) := (xco_133 30).trans rfl
theorem xc_133_31 : p_code 133 31 = some (.istore_n 1, 1) := (xco_133 31).trans rfl
theorem xc_133_32 : p_code 133 32 = some (.aload_n 0, 1) := (xco_133 32).trans rfl
theorem xc_133_33 : p_code 133 33 = some (.getfield 49, 3) := (xco_133 33).trans rfl
theorem xf_133_49 : p_fld (p_own 133) 49 = some (6, 23) := by rw [xow_133]; rfl
theorem xc_133_36 : p_code 133 36 = some (.iconst 0, 1) := (xco_133 36).trans rfl
theorem xc_133_37 : p_code 133 37 = some (.iconst 0, 1) := (xco_133 37).trans rfl
theorem xc_133_38 : p_code 133 38 = some (.iastore, 1) := (xco_133 38).trans rfl
theorem xc_133_39 : p_code 133 39 = some (.iload_n 1, 1) := (xco_133 39).trans rfl
theorem xc_133_40 : p_code 133 40 = some (.ifCond .le 37, 3) := (xco_133 40).trans rfl
theorem xj_133_40 : p_tgt 40 (37) = 77 ∧ 0 ≤ ((40 : Nat) : Int) + (37) := ⟨by decide, by decide⟩
theorem xc_133_43 : p_code 133 43 = some (.iinc 1 (-1), 3) := (xco_133 43).trans rfl
theorem xc_133_46 : p_code 133 46 = some (.aload_n 0, 1) := (xco_133 46).trans rfl
theorem xc_133_47 : p_code 133 47 = some (.getfield 49, 3) := (xco_133 47).trans rfl
theorem xc_133_50 : p_code 133 50 = some (.iload_n 1, 1) := (xco_133 50).trans rfl
theorem xc_133_51 : p_code 133 51 = some (.iaload, 1) := (xco_133 51).trans rfl
theorem xc_133_52 : p_code 133 52 = some (.istore_n 2, 1) := (xco_133 52).trans rfl
theorem xc_133_53 : p_code 133 53 = some (.iload_n 2, 1) := (xco_133 53).trans rfl
theorem xc_133_54 : p_code 133 54 = some (.ifCond .ge 13, 3) := (xco_133 54).trans rfl
theorem xj_133_54 : p_tgt 54 (13) = 67 ∧ 0 ≤ ((54 : Nat) : Int) + (13) := ⟨by decide, by decide⟩
theorem xc_133_57 : p_code 133 57 = some (.aload_n 0, 1) := (xco_133 57).trans rfl
theorem xc_133_58 : p_code 133 58 = some (.iconst (-1), 1) := (xco_133 58).trans rfl
theorem xc_133_59 : p_code 133 59 = some (.iload_n 2, 1) := (xco_133 59).trans rfl
theorem xc_133_60 : p_code 133 60 = some (.isub, 1) := (xco_133 60).trans rfl
theorem xc_133_61 : p_code 133 61 = some (.invokevirtual 235, 3) := (xco_133 61).trans rfl
theorem xm_133_61 : p_calls 133 (.invokevirtual 235) = some (134, 2) := by dsimp only [p_calls]; rw [xow_133]; rfl
theorem xc_133_64 : p_code 133 64 = some (.goto 10, 3) := (xco_133 64).trans rfl
theorem xj_133_64 : p_tgt 64 (10) = 74 ∧ 0 ≤ ((64 : Nat) : Int) + (10) := ⟨by decide, by decide⟩
theorem xc_133_67 : p_code 133 67 = some (.aload_n 0, 1) := (xco_133 67).trans rfl
theorem xc_133_68 : p_code 133 68 = some (.iload_n 2, 1) := (xco_133 68).trans rfl
theorem xc_133_69 : p_code 133 69 = some (.iload_n 1, 1) := (xco_133 69).trans rfl
theorem xc_133_70 : p_code 133 70 = some (.invokevirtual 260, 3) := (xco_133 70).trans rfl
theorem xm_133_70 : p_calls 133 (.invokevirtual 260) = some (135, 3) := by dsimp only [p_calls]; rw [xow_133]; rfl
theorem xc_133_73 : p_code 133 73 = some (.istore_n 1, 1) := (xco_133 73).trans rfl
theorem xc_133_74 : p_code 133 74 = some (.goto (-35), 3) := (xco_133 74).trans rfl
theorem xj_133_74 : p_tgt 74 (-35) = 39 ∧ 0 ≤ ((74 : Nat) : Int) + (-35) := ⟨by decide, by decide⟩
theorem xc_133_77 : p_code 133 77 = some (.aload_n 0, 1) := (xco_133 77).trans rfl
theorem xc_133_78 : p_code 133 78 = some (.getfield 232, 3) := (xco_133 78).trans rfl
theorem xc_133_81 : p_code 133 81 = some (.ireturn, 1) := (xco_133 81).trans rfl
theorem xrt_133 : p_rty 133 = some .int := rfl
theorem xhh_133 : p_hh 133 = [] := rfl
theorem xin_133  : p_in0 133 [.ref 22] = [some (.ref 22), none, none] := rfl
theorem xrc_133 {z : Nat → Int32} {a : Nat → Nat → Int32} {w : Nat → Nat → Int64} {y : Nat → Int64} {g : List pE}  : p_recv 133 [.ref 22] (hp z a w y g) = true := rfl
theorem xco_134 (pc : Nat) : p_code 134 pc = p_find pc pc_134 := rfl
theorem xow_134 : p_own 134 = 6 := rfl
theorem xc_134_0 : p_code 134 0 = some (.aload_n 0, 1) := (xco_134 0).trans rfl
theorem xc_134_1 : p_code 134 1 = some (.getfield 68, 3) := (xco_134 1).trans rfl
theorem xf_134_68 : p_fld (p_own 134) 68 = some (6, 30) := by rw [xow_134]; rfl
theorem xc_134_4 : p_code 134 4 = some (.aload_n 0, 1) := (xco_134 4).trans rfl
theorem xc_134_5 : p_code 134 5 = some (.getfield 232, 3) := (xco_134 5).trans rfl
theorem xf_134_232 : p_fld (p_own 134) 232 = some (6, 31) := by rw [xow_134]; rfl
theorem xc_134_8 : p_code 134 8 = some (.iload_n 1, 1) := (xco_134 8).trans rfl
theorem xc_134_9 : p_code 134 9 = some (.iastore, 1) := (xco_134 9).trans rfl
theorem xc_134_10 : p_code 134 10 = some (.aload_n 0, 1) := (xco_134 10).trans rfl
theorem xc_134_11 : p_code 134 11 = some (.dup, 1) := (xco_134 11).trans rfl
theorem xc_134_12 : p_code 134 12 = some (.getfield 232, 3) := (xco_134 12).trans rfl
theorem xc_134_15 : p_code 134 15 = some (.iconst 1, 1) := (xco_134 15).trans rfl
theorem xc_134_16 : p_code 134 16 = some (.iadd, 1) := (xco_134 16).trans rfl
theorem xc_134_17 : p_code 134 17 = some (.putfield 232, 3) := (xco_134 17).trans rfl
theorem xc_134_20 : p_code 134 20 = some (.return_, 1) := (xco_134 20).trans rfl
theorem xrt_134 : p_rty 134 = none := rfl
theorem xhh_134 : p_hh 134 = [] := rfl
theorem xin_134 {x1 : Int32} : p_in0 134 [.ref 22, .int x1] = [some (.ref 22), some (.int x1)] := rfl
theorem xrc_134 {z : Nat → Int32} {a : Nat → Nat → Int32} {w : Nat → Nat → Int64} {y : Nat → Int64} {g : List pE} {x1 : Int32} : p_recv 134 [.ref 22, .int x1] (hp z a w y g) = true := rfl
theorem xco_135 (pc : Nat) : p_code 135 pc = p_find pc pc_135 := rfl
theorem xow_135 : p_own 135 = 6 := rfl
theorem xc_135_0 : p_code 135 0 = some (.bipush 60, 2) := (xco_135 0).trans rfl
theorem xc_135_2 : p_code 135 2 = some (.iload_n 1, 1) := (xco_135 2).trans rfl
theorem xc_135_3 : p_code 135 3 = some (.iadd, 1) := (xco_135 3).trans rfl
theorem xc_135_4 : p_code 135 4 = some (.istore_n 3, 1) := (xco_135 4).trans rfl
theorem xc_135_5 : p_code 135 5 = some (.aload_n 0, 1) := (xco_135 5).trans rfl
theorem xc_135_6 : p_code 135 6 = some (.getfield 13, 3) := (xco_135 6).trans rfl
theorem xf_135_13 : p_fld (p_own 135) 13 = some (6, 5) := by rw [xow_135]; rfl
theorem xc_135_9 : p_code 135 9 = some (.iload_n 3, 1) := (xco_135 9).trans rfl
theorem xc_135_10 : p_code 135 10 = some (.iaload, 1) := (xco_135 10).trans rfl
theorem xc_135_11 : p_code 135 11 = some (.ifCond .ne 13, 3) := (xco_135 11).trans rfl
theorem xj_135_11 : p_tgt 11 (13) = 24 ∧ 0 ≤ ((11 : Nat) : Int) + (13) := ⟨by decide, by decide⟩
theorem xc_135_14 : p_code 135 14 = some (.aload_n 0, 1) := (xco_135 14).trans rfl
theorem xc_135_15 : p_code 135 15 = some (.ldc2_w 151, 3) := (xco_135 15).trans rfl
theorem xl_135_151 : p_lng (p_own 135) 151 = some (1718773093) := by rw [xow_135]; rfl
theorem xc_135_18 : p_code 135 18 = some (.invokevirtual 243, 3) := (xco_135 18).trans rfl
theorem xm_135_18 : p_calls 135 (.invokevirtual 243) = some (136, 2) := by dsimp only [p_calls]; rw [xow_135]; rfl
theorem xc_135_21 : p_code 135 21 = some (.goto 183, 3) := (xco_135 21).trans rfl
theorem xj_135_21 : p_tgt 21 (183) = 204 ∧ 0 ≤ ((21 : Nat) : Int) + (183) := ⟨by decide, by decide⟩
theorem xc_135_24 : p_code 135 24 = some (.aload_n 0, 1) := (xco_135 24).trans rfl
theorem xc_135_25 : p_code 135 25 = some (.getfield 13, 3) := (xco_135 25).trans rfl
theorem xc_135_28 : p_code 135 28 = some (.iload_n 3, 1) := (xco_135 28).trans rfl
theorem xc_135_29 : p_code 135 29 = some (.iaload, 1) := (xco_135 29).trans rfl
theorem xc_135_30 : p_code 135 30 = some (.bipush 7, 2) := (xco_135 30).trans rfl
theorem xc_135_32 : p_code 135 32 = some (.if_icmp .ne 11, 3) := (xco_135 32).trans rfl
theorem xj_135_32 : p_tgt 32 (11) = 43 ∧ 0 ≤ ((32 : Nat) : Int) + (11) := ⟨by decide, by decide⟩
theorem xc_135_35 : p_code 135 35 = some (.aload_n 0, 1) := (xco_135 35).trans rfl
theorem xc_135_36 : p_code 135 36 = some (.iload_n 3, 1) := (xco_135 36).trans rfl
theorem xc_135_37 : p_code 135 37 = some (.invokevirtual 247, 3) := (xco_135 37).trans rfl
theorem xm_135_37 : p_calls 135 (.invokevirtual 247) = some (137, 2) := by dsimp only [p_calls]; rw [xow_135]; rfl
theorem xc_135_40 : p_code 135 40 = some (.goto 164, 3) := (xco_135 40).trans rfl
theorem xj_135_40 : p_tgt 40 (164) = 204 ∧ 0 ≤ ((40 : Nat) : Int) + (164) := ⟨by decide, by decide⟩
theorem xc_135_43 : p_code 135 43 = some (.aload_n 0, 1) := (xco_135 43).trans rfl
theorem xc_135_44 : p_code 135 44 = some (.getfield 13, 3) := (xco_135 44).trans rfl
theorem xc_135_47 : p_code 135 47 = some (.iload_n 3, 1) := (xco_135 47).trans rfl
theorem xc_135_48 : p_code 135 48 = some (.iaload, 1) := (xco_135 48).trans rfl
theorem xc_135_49 : p_code 135 49 = some (.iconst 2, 1) := (xco_135 49).trans rfl
theorem xc_135_50 : p_code 135 50 = some (.if_icmp .gt 54, 3) := (xco_135 50).trans rfl
theorem xj_135_50 : p_tgt 50 (54) = 104 ∧ 0 ≤ ((50 : Nat) : Int) + (54) := ⟨by decide, by decide⟩
theorem xc_135_53 : p_code 135 53 = some (.aload_n 0, 1) := (xco_135 53).trans rfl
theorem xc_135_54 : p_code 135 54 = some (.aload_n 0, 1) := (xco_135 54).trans rfl
theorem xc_135_55 : p_code 135 55 = some (.getfield 16, 3) := (xco_135 55).trans rfl
theorem xf_135_16 : p_fld (p_own 135) 16 = some (6, 6) := by rw [xow_135]; rfl
theorem xc_135_58 : p_code 135 58 = some (.iload_n 3, 1) := (xco_135 58).trans rfl
theorem xc_135_59 : p_code 135 59 = some (.iaload, 1) := (xco_135 59).trans rfl
theorem xc_135_60 : p_code 135 60 = some (.invokevirtual 250, 3) := (xco_135 60).trans rfl
theorem xm_135_60 : p_calls 135 (.invokevirtual 250) = some (139, 2) := by dsimp only [p_calls]; rw [xow_135]; rfl
theorem xc_135_63 : p_code 135 63 = some (.aload_n 0, 1) := (xco_135 63).trans rfl
theorem xc_135_64 : p_code 135 64 = some (.getfield 13, 3) := (xco_135 64).trans rfl
theorem xc_135_67 : p_code 135 67 = some (.iload_n 3, 1) := (xco_135 67).trans rfl
theorem xc_135_68 : p_code 135 68 = some (.iaload, 1) := (xco_135 68).trans rfl
theorem xc_135_69 : p_code 135 69 = some (.iconst 1, 1) := (xco_135 69).trans rfl
theorem xc_135_70 : p_code 135 70 = some (.if_icmp .ne 12, 3) := (xco_135 70).trans rfl
theorem xj_135_70 : p_tgt 70 (12) = 82 ∧ 0 ≤ ((70 : Nat) : Int) + (12) := ⟨by decide, by decide⟩
theorem xc_135_73 : p_code 135 73 = some (.aload_n 0, 1) := (xco_135 73).trans rfl
theorem xc_135_74 : p_code 135 74 = some (.bipush 37, 2) := (xco_135 74).trans rfl
theorem xc_135_76 : p_code 135 76 = some (.invokevirtual 235, 3) := (xco_135 76).trans rfl
theorem xm_135_76 : p_calls 135 (.invokevirtual 235) = some (134, 2) := by dsimp only [p_calls]; rw [xow_135]; rfl
theorem xc_135_79 : p_code 135 79 = some (.goto 125, 3) := (xco_135 79).trans rfl
theorem xj_135_79 : p_tgt 79 (125) = 204 ∧ 0 ≤ ((79 : Nat) : Int) + (125) := ⟨by decide, by decide⟩
theorem xc_135_82 : p_code 135 82 = some (.aload_n 0, 1) := (xco_135 82).trans rfl
theorem xc_135_83 : p_code 135 83 = some (.bipush 47, 2) := (xco_135 83).trans rfl
theorem xc_135_85 : p_code 135 85 = some (.invokevirtual 235, 3) := (xco_135 85).trans rfl
theorem xm_135_85 : p_calls 135 (.invokevirtual 235) = some (134, 2) := by dsimp only [p_calls]; rw [xow_135]; rfl
theorem xc_135_88 : p_code 135 88 = some (.aload_n 0, 1) := (xco_135 88).trans rfl
theorem xc_135_89 : p_code 135 89 = some (.bipush 65, 2) := (xco_135 89).trans rfl
theorem xc_135_91 : p_code 135 91 = some (.aload_n 0, 1) := (xco_135 91).trans rfl
theorem xc_135_92 : p_code 135 92 = some (.getfield 19, 3) := (xco_135 92).trans rfl
theorem xf_135_19 : p_fld (p_own 135) 19 = some (6, 7) := by rw [xow_135]; rfl
theorem xc_135_95 : p_code 135 95 = some (.iload_n 3, 1) := (xco_135 95).trans rfl
theorem xc_135_96 : p_code 135 96 = some (.iaload, 1) := (xco_135 96).trans rfl
theorem xc_135_97 : p_code 135 97 = some (.iadd, 1) := (xco_135 97).trans rfl
theorem xc_135_98 : p_code 135 98 = some (.invokevirtual 235, 3) := (xco_135 98).trans rfl
theorem xm_135_98 : p_calls 135 (.invokevirtual 235) = some (134, 2) := by dsimp only [p_calls]; rw [xow_135]; rfl
theorem xc_135_101 : p_code 135 101 = some (.goto 103, 3) := (xco_135 101).trans rfl
theorem xj_135_101 : p_tgt 101 (103) = 204 ∧ 0 ≤ ((101 : Nat) : Int) + (103) := ⟨by decide, by decide⟩
theorem xc_135_104 : p_code 135 104 = some (.aload_n 0, 1) := (xco_135 104).trans rfl
theorem xc_135_105 : p_code 135 105 = some (.getfield 13, 3) := (xco_135 105).trans rfl
theorem xc_135_108 : p_code 135 108 = some (.iload_n 3, 1) := (xco_135 108).trans rfl
theorem xc_135_109 : p_code 135 109 = some (.iaload, 1) := (xco_135 109).trans rfl
theorem xc_135_110 : p_code 135 110 = some (.iconst 5, 1) := (xco_135 110).trans rfl
theorem xc_135_111 : p_code 135 111 = some (.if_icmp .lt 86, 3) := (xco_135 111).trans rfl
theorem xj_135_111 : p_tgt 111 (86) = 197 ∧ 0 ≤ ((111 : Nat) : Int) + (86) := ⟨by decide, by decide⟩
theorem xc_135_114 : p_code 135 114 = some (.aload_n 0, 1) := (xco_135 114).trans rfl
theorem xc_135_115 : p_code 135 115 = some (.aload_n 0, 1) := (xco_135 115).trans rfl
theorem xc_135_116 : p_code 135 116 = some (.getfield 13, 3) := (xco_135 116).trans rfl
theorem xc_135_119 : p_code 135 119 = some (.iload_n 3, 1) := (xco_135 119).trans rfl
theorem xc_135_120 : p_code 135 120 = some (.iaload, 1) := (xco_135 120).trans rfl
theorem xc_135_121 : p_code 135 121 = some (.iconst 5, 1) := (xco_135 121).trans rfl
theorem xc_135_122 : p_code 135 122 = some (.if_icmp .ne 9, 3) := (xco_135 122).trans rfl
theorem xj_135_122 : p_tgt 122 (9) = 131 ∧ 0 ≤ ((122 : Nat) : Int) + (9) := ⟨by decide, by decide⟩
theorem xc_135_125 : p_code 135 125 = some (.ldc2_w 253, 3) := (xco_135 125).trans rfl
theorem xl_135_253 : p_lng (p_own 135) 253 = some (1835626024) := by rw [xow_135]; rfl
theorem xc_135_128 : p_code 135 128 = some (.goto 6, 3) := (xco_135 128).trans rfl
theorem xj_135_128 : p_tgt 128 (6) = 134 ∧ 0 ≤ ((128 : Nat) : Int) + (6) := ⟨by decide, by decide⟩
theorem xc_135_131 : p_code 135 131 = some (.ldc2_w 255, 3) := (xco_135 131).trans rfl
theorem xl_135_255 : p_lng (p_own 135) 255 = some (1835104296) := by rw [xow_135]; rfl
theorem xc_135_134 : p_code 135 134 = some (.invokevirtual 243, 3) := (xco_135 134).trans rfl
theorem xm_135_134 : p_calls 135 (.invokevirtual 243) = some (136, 2) := by dsimp only [p_calls]; rw [xow_135]; rfl
theorem xc_135_137 : p_code 135 137 = some (.aload_n 0, 1) := (xco_135 137).trans rfl
theorem xc_135_138 : p_code 135 138 = some (.getfield 49, 3) := (xco_135 138).trans rfl
theorem xf_135_49 : p_fld (p_own 135) 49 = some (6, 23) := by rw [xow_135]; rfl
theorem xc_135_141 : p_code 135 141 = some (.iload_n 2, 1) := (xco_135 141).trans rfl
theorem xc_135_142 : p_code 135 142 = some (.bipush (-42), 2) := (xco_135 142).trans rfl
theorem xc_135_144 : p_code 135 144 = some (.iastore, 1) := (xco_135 144).trans rfl
theorem xc_135_145 : p_code 135 145 = some (.aload_n 0, 1) := (xco_135 145).trans rfl
theorem xc_135_146 : p_code 135 146 = some (.getfield 49, 3) := (xco_135 146).trans rfl
theorem xc_135_149 : p_code 135 149 = some (.iload_n 2, 1) := (xco_135 149).trans rfl
theorem xc_135_150 : p_code 135 150 = some (.iconst 1, 1) := (xco_135 150).trans rfl
theorem xc_135_151 : p_code 135 151 = some (.iadd, 1) := (xco_135 151).trans rfl
theorem xc_135_152 : p_code 135 152 = some (.aload_n 0, 1) := (xco_135 152).trans rfl
theorem xc_135_153 : p_code 135 153 = some (.getfield 25, 3) := (xco_135 153).trans rfl
theorem xf_135_25 : p_fld (p_own 135) 25 = some (6, 9) := by rw [xow_135]; rfl
theorem xc_135_156 : p_code 135 156 = some (.iload_n 3, 1) := (xco_135 156).trans rfl
theorem xc_135_157 : p_code 135 157 = some (.iaload, 1) := (xco_135 157).trans rfl
theorem xc_135_158 : p_code 135 158 = some (.iastore, 1) := (xco_135 158).trans rfl
theorem xc_135_159 : p_code 135 159 = some (.aload_n 0, 1) := (xco_135 159).trans rfl
theorem xc_135_160 : p_code 135 160 = some (.getfield 49, 3) := (xco_135 160).trans rfl
theorem xc_135_163 : p_code 135 163 = some (.iload_n 2, 1) := (xco_135 163).trans rfl
theorem xc_135_164 : p_code 135 164 = some (.iconst 2, 1) := (xco_135 164).trans rfl
theorem xc_135_165 : p_code 135 165 = some (.iadd, 1) := (xco_135 165).trans rfl
theorem xc_135_166 : p_code 135 166 = some (.bipush (-33), 2) := (xco_135 166).trans rfl
theorem xc_135_168 : p_code 135 168 = some (.iastore, 1) := (xco_135 168).trans rfl
theorem xc_135_169 : p_code 135 169 = some (.aload_n 0, 1) := (xco_135 169).trans rfl
theorem xc_135_170 : p_code 135 170 = some (.getfield 49, 3) := (xco_135 170).trans rfl
theorem xc_135_173 : p_code 135 173 = some (.iload_n 2, 1) := (xco_135 173).trans rfl
theorem xc_135_174 : p_code 135 174 = some (.iconst 3, 1) := (xco_135 174).trans rfl
theorem xc_135_175 : p_code 135 175 = some (.iadd, 1) := (xco_135 175).trans rfl
theorem xc_135_176 : p_code 135 176 = some (.bipush (-45), 2) := (xco_135 176).trans rfl
theorem xc_135_178 : p_code 135 178 = some (.iastore, 1) := (xco_135 178).trans rfl
theorem xc_135_179 : p_code 135 179 = some (.aload_n 0, 1) := (xco_135 179).trans rfl
theorem xc_135_180 : p_code 135 180 = some (.getfield 49, 3) := (xco_135 180).trans rfl
set_option maxRecDepth 100000 in
theorem xc_135_183 : p_code 135 183 = some (.iload_n 2, 1) := (xco_135 183).trans rfl
set_option maxRecDepth 100000 in
theorem xc_135_184 : p_code 135 184 = some (.iconst 4, 1) := (xco_135 184).trans rfl
set_option maxRecDepth 100000 in
theorem xc_135_185 : p_code 135 185 = some (.iadd, 1) := (xco_135 185).trans rfl
set_option maxRecDepth 100000 in
theorem xc_135_186 : p_code 135 186 = some (.aload_n 0, 1) := (xco_135 186).trans rfl
set_option maxRecDepth 100000 in
theorem xc_135_187 : p_code 135 187 = some (.getfield 22, 3) := (xco_135 187).trans rfl
theorem xf_135_22 : p_fld (p_own 135) 22 = some (6, 8) := by rw [xow_135]; rfl
set_option maxRecDepth 100000 in
theorem xc_135_190 : p_code 135 190 = some (.iload_n 3, 1) := (xco_135 190).trans rfl
set_option maxRecDepth 100000 in
theorem xc_135_191 : p_code 135 191 = some (.iaload, 1) := (xco_135 191).trans rfl
set_option maxRecDepth 100000 in
theorem xc_135_192 : p_code 135 192 = some (.iastore, 1) := (xco_135 192).trans rfl
set_option maxRecDepth 100000 in
theorem xc_135_193 : p_code 135 193 = some (.iload_n 2, 1) := (xco_135 193).trans rfl
set_option maxRecDepth 100000 in
theorem xc_135_194 : p_code 135 194 = some (.iconst 5, 1) := (xco_135 194).trans rfl
set_option maxRecDepth 100000 in
theorem xc_135_195 : p_code 135 195 = some (.iadd, 1) := (xco_135 195).trans rfl
set_option maxRecDepth 100000 in
theorem xc_135_196 : p_code 135 196 = some (.ireturn, 1) := (xco_135 196).trans rfl
set_option maxRecDepth 100000 in
theorem xc_135_197 : p_code 135 197 = some (.aload_n 0, 1) := (xco_135 197).trans rfl
set_option maxRecDepth 100000 in
theorem xc_135_198 : p_code 135 198 = some (.iload_n 3, 1) := (xco_135 198).trans rfl
set_option maxRecDepth 100000 in
theorem xc_135_199 : p_code 135 199 = some (.iload_n 2, 1) := (xco_135 199).trans rfl
set_option maxRecDepth 100000 in
theorem xc_135_200 : p_code 135 200 = some (.invokevirtual 257, 3) := (xco_135 200).trans rfl
theorem xm_135_200 : p_calls 135 (.invokevirtual 257) = some (140, 3) := by dsimp only [p_calls]; rw [xow_135]; rfl
set_option maxRecDepth 100000 in
theorem xc_135_203 : p_code 135 203 = some (.ireturn, 1) := (xco_135 203).trans rfl
set_option maxRecDepth 100000 in
theorem xc_135_204 : p_code 135 204 = some (.iload_n 2, 1) := (xco_135 204).trans rfl
set_option maxRecDepth 100000 in
theorem xc_135_205 : p_code 135 205 = some (.ireturn, 1) := (xco_135 205).trans rfl
theorem xrt_135 : p_rty 135 = some .int := rfl
theorem xhh_135 : p_hh 135 = [] := rfl
theorem xin_135 {x1 : Int32} {x2 : Int32} : p_in0 135 [.ref 22, .int x1, .int x2] = [some (.ref 22), some (.int x1), some (.int x2), none] := rfl
theorem xrc_135 {z : Nat → Int32} {a : Nat → Nat → Int32} {w : Nat → Nat → Int64} {y : Nat → Int64} {g : List pE} {x1 : Int32} {x2 : Int32} : p_recv 135 [.ref 22, .int x1, .int x2] (hp z a w y g) = true := rfl
theorem xco_136 (pc : Nat) : p_code 136 pc = p_find pc pc_136 := rfl
theorem xow_136 : p_own 136 = 6 := rfl
theorem xc_136_0 : p_code 136 0 = some (.bipush 56, 2) := (xco_136 0).trans rfl
theorem xc_136_2 : p_code 136 2 = some (.istore_n 3, 1) := (xco_136 2).trans rfl
theorem xc_136_3 : p_code 136 3 = some (.iload_n 3, 1) := (xco_136 3).trans rfl
theorem xc_136_4 : p_code 136 4 = some (.ifCond .lt 33, 3) := (xco_136 4).trans rfl
theorem xj_136_4 : p_tgt 4 (33) = 37 ∧ 0 ≤ ((4 : Nat) : Int) + (33) := ⟨by decide, by decide⟩
theorem xc_136_7 : p_code 136 7 = some (.lload_n 1, 1) := (xco_136 7).trans rfl
theorem xc_136_8 : p_code 136 8 = some (.iload_n 3, 1) := (xco_136 8).trans rfl
theorem xc_136_9 : p_code 136 9 = some (.lushr, 1) := (xco_136 9).trans rfl
theorem xc_136_10 : p_code 136 10 = some (.ldc2_w 138, 3) := (xco_136 10).trans rfl
theorem xl_136_138 : p_lng (p_own 136) 138 = some (255) := by rw [xow_136]; rfl
theorem xc_136_13 : p_code 136 13 = some (.land, 1) := (xco_136 13).trans rfl
theorem xc_136_14 : p_code 136 14 = some (.lconst 0, 1) := (xco_136 14).trans rfl
theorem xc_136_15 : p_code 136 15 = some (.lcmp, 1) := (xco_136 15).trans rfl
theorem xc_136_16 : p_code 136 16 = some (.ifCond .eq 15, 3) := (xco_136 16).trans rfl
theorem xj_136_16 : p_tgt 16 (15) = 31 ∧ 0 ≤ ((16 : Nat) : Int) + (15) := ⟨by decide, by decide⟩
theorem xc_136_19 : p_code 136 19 = some (.aload_n 0, 1) := (xco_136 19).trans rfl
theorem xc_136_20 : p_code 136 20 = some (.lload_n 1, 1) := (xco_136 20).trans rfl
theorem xc_136_21 : p_code 136 21 = some (.iload_n 3, 1) := (xco_136 21).trans rfl
theorem xc_136_22 : p_code 136 22 = some (.lushr, 1) := (xco_136 22).trans rfl
theorem xc_136_23 : p_code 136 23 = some (.ldc2_w 138, 3) := (xco_136 23).trans rfl
theorem xc_136_26 : p_code 136 26 = some (.land, 1) := (xco_136 26).trans rfl
theorem xc_136_27 : p_code 136 27 = some (.l2i, 1) := (xco_136 27).trans rfl
theorem xc_136_28 : p_code 136 28 = some (.invokevirtual 235, 3) := (xco_136 28).trans rfl
theorem xm_136_28 : p_calls 136 (.invokevirtual 235) = some (134, 2) := by dsimp only [p_calls]; rw [xow_136]; rfl
theorem xc_136_31 : p_code 136 31 = some (.iinc 3 (-8), 3) := (xco_136 31).trans rfl
theorem xc_136_34 : p_code 136 34 = some (.goto (-31), 3) := (xco_136 34).trans rfl
theorem xj_136_34 : p_tgt 34 (-31) = 3 ∧ 0 ≤ ((34 : Nat) : Int) + (-31) := ⟨by decide, by decide⟩
theorem xc_136_37 : p_code 136 37 = some (.return_, 1) := (xco_136 37).trans rfl
theorem xrt_136 : p_rty 136 = none := rfl
theorem xhh_136 : p_hh 136 = [] := rfl
theorem xin_136 {x1 : Int64} : p_in0 136 [.ref 22, .long x1] = [some (.ref 22), some (.long x1), none, none] := rfl
theorem xrc_136 {z : Nat → Int32} {a : Nat → Nat → Int32} {w : Nat → Nat → Int64} {y : Nat → Int64} {g : List pE} {x1 : Int64} : p_recv 136 [.ref 22, .long x1] (hp z a w y g) = true := rfl
theorem xco_137 (pc : Nat) : p_code 137 pc = p_find pc pc_137 := rfl
theorem xow_137 : p_own 137 = 6 := rfl
theorem xc_137_0 : p_code 137 0 = some (.aload_n 0, 1) := (xco_137 0).trans rfl
theorem xc_137_1 : p_code 137 1 = some (.ldc2_w 241, 3) := (xco_137 1).trans rfl
theorem xl_137_241 : p_lng (p_own 137) 241 = some (495874043944) := by rw [xow_137]; rfl
theorem xc_137_4 : p_code 137 4 = some (.invokevirtual 243, 3) := (xco_137 4).trans rfl
theorem xm_137_4 : p_calls 137 (.invokevirtual 243) = some (136, 2) := by dsimp only [p_calls]; rw [xow_137]; rfl
theorem xc_137_7 : p_code 137 7 = some (.aload_n 0, 1) := (xco_137 7).trans rfl
theorem xc_137_8 : p_code 137 8 = some (.aload_n 0, 1) := (xco_137 8).trans rfl
theorem xc_137_9 : p_code 137 9 = some (.getfield 16, 3) := (xco_137 9).trans rfl
theorem xf_137_16 : p_fld (p_own 137) 16 = some (6, 6) := by rw [xow_137]; rfl
theorem xc_137_12 : p_code 137 12 = some (.iload_n 1, 1) := (xco_137 12).trans rfl
theorem xc_137_13 : p_code 137 13 = some (.iaload, 1) := (xco_137 13).trans rfl
theorem xc_137_14 : p_code 137 14 = some (.invokevirtual 238, 3) := (xco_137 14).trans rfl
theorem xm_137_14 : p_calls 137 (.invokevirtual 238) = some (138, 2) := by dsimp only [p_calls]; rw [xow_137]; rfl
theorem xc_137_17 : p_code 137 17 = some (.iconst 0, 1) := (xco_137 17).trans rfl
theorem xc_137_18 : p_code 137 18 = some (.istore_n 2, 1) := (xco_137 18).trans rfl
theorem xc_137_19 : p_code 137 19 = some (.iload_n 2, 1) := (xco_137 19).trans rfl
theorem xc_137_20 : p_code 137 20 = some (.aload_n 0, 1) := (xco_137 20).trans rfl
theorem xc_137_21 : p_code 137 21 = some (.getfield 28, 3) := (xco_137 21).trans rfl
theorem xf_137_28 : p_fld (p_own 137) 28 = some (6, 10) := by rw [xow_137]; rfl
theorem xc_137_24 : p_code 137 24 = some (.iload_n 1, 1) := (xco_137 24).trans rfl
theorem xc_137_25 : p_code 137 25 = some (.iaload, 1) := (xco_137 25).trans rfl
theorem xc_137_26 : p_code 137 26 = some (.if_icmp .ge 66, 3) := (xco_137 26).trans rfl
theorem xj_137_26 : p_tgt 26 (66) = 92 ∧ 0 ≤ ((26 : Nat) : Int) + (66) := ⟨by decide, by decide⟩
theorem xc_137_29 : p_code 137 29 = some (.aload_n 0, 1) := (xco_137 29).trans rfl
theorem xc_137_30 : p_code 137 30 = some (.iload_n 2, 1) := (xco_137 30).trans rfl
theorem xc_137_31 : p_code 137 31 = some (.ifCond .ne 8, 3) := (xco_137 31).trans rfl
theorem xj_137_31 : p_tgt 31 (8) = 39 ∧ 0 ≤ ((31 : Nat) : Int) + (8) := ⟨by decide, by decide⟩
theorem xc_137_34 : p_code 137 34 = some (.bipush 58, 2) := (xco_137 34).trans rfl
theorem xc_137_36 : p_code 137 36 = some (.goto 5, 3) := (xco_137 36).trans rfl
theorem xj_137_36 : p_tgt 36 (5) = 41 ∧ 0 ≤ ((36 : Nat) : Int) + (5) := ⟨by decide, by decide⟩
theorem xc_137_39 : p_code 137 39 = some (.bipush 44, 2) := (xco_137 39).trans rfl
theorem xc_137_41 : p_code 137 41 = some (.invokevirtual 235, 3) := (xco_137 41).trans rfl
theorem xm_137_41 : p_calls 137 (.invokevirtual 235) = some (134, 2) := by dsimp only [p_calls]; rw [xow_137]; rfl
theorem xc_137_44 : p_code 137 44 = some (.aload_n 0, 1) := (xco_137 44).trans rfl
theorem xc_137_45 : p_code 137 45 = some (.bipush 32, 2) := (xco_137 45).trans rfl
theorem xc_137_47 : p_code 137 47 = some (.invokevirtual 235, 3) := (xco_137 47).trans rfl
theorem xm_137_47 : p_calls 137 (.invokevirtual 235) = some (134, 2) := by dsimp only [p_calls]; rw [xow_137]; rfl
theorem xc_137_50 : p_code 137 50 = some (.aload_n 0, 1) := (xco_137 50).trans rfl
theorem xc_137_51 : p_code 137 51 = some (.aload_n 0, 1) := (xco_137 51).trans rfl
theorem xc_137_52 : p_code 137 52 = some (.getfield 31, 3) := (xco_137 52).trans rfl
theorem xf_137_31 : p_fld (p_own 137) 31 = some (6, 11) := by rw [xow_137]; rfl
theorem xc_137_55 : p_code 137 55 = some (.bipush 6, 2) := (xco_137 55).trans rfl
theorem xc_137_57 : p_code 137 57 = some (.iload_n 1, 1) := (xco_137 57).trans rfl
theorem xc_137_58 : p_code 137 58 = some (.imul, 1) := (xco_137 58).trans rfl
theorem xc_137_59 : p_code 137 59 = some (.iload_n 2, 1) := (xco_137 59).trans rfl
theorem xc_137_60 : p_code 137 60 = some (.iadd, 1) := (xco_137 60).trans rfl
theorem xc_137_61 : p_code 137 61 = some (.iaload, 1) := (xco_137 61).trans rfl
theorem xc_137_62 : p_code 137 62 = some (.invokevirtual 238, 3) := (xco_137 62).trans rfl
theorem xm_137_62 : p_calls 137 (.invokevirtual 238) = some (138, 2) := by dsimp only [p_calls]; rw [xow_137]; rfl
theorem xc_137_65 : p_code 137 65 = some (.aload_n 0, 1) := (xco_137 65).trans rfl
theorem xc_137_66 : p_code 137 66 = some (.bipush 61, 2) := (xco_137 66).trans rfl
theorem xc_137_68 : p_code 137 68 = some (.invokevirtual 235, 3) := (xco_137 68).trans rfl
theorem xm_137_68 : p_calls 137 (.invokevirtual 235) = some (134, 2) := by dsimp only [p_calls]; rw [xow_137]; rfl
theorem xc_137_71 : p_code 137 71 = some (.aload_n 0, 1) := (xco_137 71).trans rfl
theorem xc_137_72 : p_code 137 72 = some (.aload_n 0, 1) := (xco_137 72).trans rfl
theorem xc_137_73 : p_code 137 73 = some (.getfield 34, 3) := (xco_137 73).trans rfl
theorem xf_137_34 : p_fld (p_own 137) 34 = some (6, 12) := by rw [xow_137]; rfl
theorem xc_137_76 : p_code 137 76 = some (.bipush 6, 2) := (xco_137 76).trans rfl
theorem xc_137_78 : p_code 137 78 = some (.iload_n 1, 1) := (xco_137 78).trans rfl
theorem xc_137_79 : p_code 137 79 = some (.imul, 1) := (xco_137 79).trans rfl
theorem xc_137_80 : p_code 137 80 = some (.iload_n 2, 1) := (xco_137 80).trans rfl
theorem xc_137_81 : p_code 137 81 = some (.iadd, 1) := (xco_137 81).trans rfl
theorem xc_137_82 : p_code 137 82 = some (.iaload, 1) := (xco_137 82).trans rfl
theorem xc_137_83 : p_code 137 83 = some (.invokevirtual 238, 3) := (xco_137 83).trans rfl
theorem xm_137_83 : p_calls 137 (.invokevirtual 238) = some (138, 2) := by dsimp only [p_calls]; rw [xow_137]; rfl
theorem xc_137_86 : p_code 137 86 = some (.iinc 2 1, 3) := (xco_137 86).trans rfl
theorem xc_137_89 : p_code 137 89 = some (.goto (-70), 3) := (xco_137 89).trans rfl
theorem xj_137_89 : p_tgt 89 (-70) = 19 ∧ 0 ≤ ((89 : Nat) : Int) + (-70) := ⟨by decide, by decide⟩
theorem xc_137_92 : p_code 137 92 = some (.aload_n 0, 1) := (xco_137 92).trans rfl
theorem xc_137_93 : p_code 137 93 = some (.bipush 41, 2) := (xco_137 93).trans rfl
theorem xc_137_95 : p_code 137 95 = some (.invokevirtual 235, 3) := (xco_137 95).trans rfl
theorem xm_137_95 : p_calls 137 (.invokevirtual 235) = some (134, 2) := by dsimp only [p_calls]; rw [xow_137]; rfl
theorem xc_137_98 : p_code 137 98 = some (.return_, 1) := (xco_137 98).trans rfl
theorem xrt_137 : p_rty 137 = none := rfl
theorem xhh_137 : p_hh 137 = [] := rfl
theorem xin_137 {x1 : Int32} : p_in0 137 [.ref 22, .int x1] = [some (.ref 22), some (.int x1), none] := rfl
theorem xrc_137 {z : Nat → Int32} {a : Nat → Nat → Int32} {w : Nat → Nat → Int64} {y : Nat → Int64} {g : List pE} {x1 : Int32} : p_recv 137 [.ref 22, .int x1] (hp z a w y g) = true := rfl
theorem xco_138 (pc : Nat) : p_code 138 pc = p_find pc pc_138 := rfl
theorem xow_138 : p_own 138 = 6 := rfl
theorem xc_138_0 : p_code 138 0 = some (.iconst 1, 1) := (xco_138 0).trans rfl
theorem xc_138_1 : p_code 138 1 = some (.istore_n 2, 1) := (xco_138 1).trans rfl
theorem xc_138_2 : p_code 138 2 = some (.iload_n 1, 1) := (xco_138 2).trans rfl
theorem xc_138_3 : p_code 138 3 = some (.iload_n 2, 1) := (xco_138 3).trans rfl
theorem xc_138_4 : p_code 138 4 = some (.idiv, 1) := (xco_138 4).trans rfl
theorem xc_138_5 : p_code 138 5 = some (.bipush 9, 2) := (xco_138 5).trans rfl
theorem xc_138_7 : p_code 138 7 = some (.if_icmp .le 11, 3) := (xco_138 7).trans rfl
theorem xj_138_7 : p_tgt 7 (11) = 18 ∧ 0 ≤ ((7 : Nat) : Int) + (11) := ⟨by decide, by decide⟩
theorem xc_138_10 : p_code 138 10 = some (.iload_n 2, 1) := (xco_138 10).trans rfl
theorem xc_138_11 : p_code 138 11 = some (.bipush 10, 2) := (xco_138 11).trans rfl
theorem xc_138_13 : p_code 138 13 = some (.imul, 1) := (xco_138 13).trans rfl
theorem xc_138_14 : p_code 138 14 = some (.istore_n 2, 1) := (xco_138 14).trans rfl
theorem xc_138_15 : p_code 138 15 = some (.goto (-13), 3) := (xco_138 15).trans rfl
theorem xj_138_15 : p_tgt 15 (-13) = 2 ∧ 0 ≤ ((15 : Nat) : Int) + (-13) := ⟨by decide, by decide⟩
theorem xc_138_18 : p_code 138 18 = some (.iload_n 2, 1) := (xco_138 18).trans rfl
theorem xc_138_19 : p_code 138 19 = some (.istore_n 3, 1) := (xco_138 19).trans rfl
theorem xc_138_20 : p_code 138 20 = some (.iload_n 3, 1) := (xco_138 20).trans rfl
theorem xc_138_21 : p_code 138 21 = some (.ifCond .le 24, 3) := (xco_138 21).trans rfl
theorem xj_138_21 : p_tgt 21 (24) = 45 ∧ 0 ≤ ((21 : Nat) : Int) + (24) := ⟨by decide, by decide⟩
theorem xc_138_24 : p_code 138 24 = some (.aload_n 0, 1) := (xco_138 24).trans rfl
theorem xc_138_25 : p_code 138 25 = some (.bipush 48, 2) := (xco_138 25).trans rfl
theorem xc_138_27 : p_code 138 27 = some (.iload_n 1, 1) := (xco_138 27).trans rfl
theorem xc_138_28 : p_code 138 28 = some (.iload_n 3, 1) := (xco_138 28).trans rfl
theorem xc_138_29 : p_code 138 29 = some (.idiv, 1) := (xco_138 29).trans rfl
theorem xc_138_30 : p_code 138 30 = some (.bipush 10, 2) := (xco_138 30).trans rfl
theorem xc_138_32 : p_code 138 32 = some (.irem, 1) := (xco_138 32).trans rfl
theorem xc_138_33 : p_code 138 33 = some (.iadd, 1) := (xco_138 33).trans rfl
theorem xc_138_34 : p_code 138 34 = some (.invokevirtual 235, 3) := (xco_138 34).trans rfl
theorem xm_138_34 : p_calls 138 (.invokevirtual 235) = some (134, 2) := by dsimp only [p_calls]; rw [xow_138]; rfl
theorem xc_138_37 : p_code 138 37 = some (.iload_n 3, 1) := (xco_138 37).trans rfl
theorem xc_138_38 : p_code 138 38 = some (.bipush 10, 2) := (xco_138 38).trans rfl
theorem xc_138_40 : p_code 138 40 = some (.idiv, 1) := (xco_138 40).trans rfl
theorem xc_138_41 : p_code 138 41 = some (.istore_n 3, 1) := (xco_138 41).trans rfl
theorem xc_138_42 : p_code 138 42 = some (.goto (-22), 3) := (xco_138 42).trans rfl
theorem xj_138_42 : p_tgt 42 (-22) = 20 ∧ 0 ≤ ((42 : Nat) : Int) + (-22) := ⟨by decide, by decide⟩
theorem xc_138_45 : p_code 138 45 = some (.return_, 1) := (xco_138 45).trans rfl
theorem xrt_138 : p_rty 138 = none := rfl
theorem xhh_138 : p_hh 138 = [] := rfl
theorem xin_138 {x1 : Int32} : p_in0 138 [.ref 22, .int x1] = [some (.ref 22), some (.int x1), none, none] := rfl
theorem xrc_138 {z : Nat → Int32} {a : Nat → Nat → Int32} {w : Nat → Nat → Int64} {y : Nat → Int64} {g : List pE} {x1 : Int32} : p_recv 138 [.ref 22, .int x1] (hp z a w y g) = true := rfl
theorem xco_139 (pc : Nat) : p_code 139 pc = p_find pc pc_139 := rfl
theorem xow_139 : p_own 139 = 6 := rfl
theorem xc_139_0 : p_code 139 0 = some (.aload_n 0, 1) := (xco_139 0).trans rfl
theorem xc_139_1 : p_code 139 1 = some (.iload_n 1, 1) := (xco_139 1).trans rfl
theorem xc_139_2 : p_code 139 2 = some (.sipush 1000, 3) := (xco_139 2).trans rfl
theorem xc_139_5 : p_code 139 5 = some (.idiv, 1) := (xco_139 5).trans rfl
theorem xc_139_6 : p_code 139 6 = some (.invokevirtual 238, 3) := (xco_139 6).trans rfl
theorem xm_139_6 : p_calls 139 (.invokevirtual 238) = some (138, 2) := by dsimp only [p_calls]; rw [xow_139]; rfl
theorem xc_139_9 : p_code 139 9 = some (.iload_n 1, 1) := (xco_139 9).trans rfl
theorem xc_139_10 : p_code 139 10 = some (.sipush 1000, 3) := (xco_139 10).trans rfl
theorem xc_139_13 : p_code 139 13 = some (.irem, 1) := (xco_139 13).trans rfl
theorem xc_139_14 : p_code 139 14 = some (.istore_n 2, 1) := (xco_139 14).trans rfl
theorem xc_139_15 : p_code 139 15 = some (.iload_n 2, 1) := (xco_139 15).trans rfl
theorem xc_139_16 : p_code 139 16 = some (.ifCond .ne 4, 3) := (xco_139 16).trans rfl
theorem xj_139_16 : p_tgt 16 (4) = 20 ∧ 0 ≤ ((16 : Nat) : Int) + (4) := ⟨by decide, by decide⟩
theorem xc_139_19 : p_code 139 19 = some (.return_, 1) := (xco_139 19).trans rfl
theorem xc_139_20 : p_code 139 20 = some (.aload_n 0, 1) := (xco_139 20).trans rfl
theorem xc_139_21 : p_code 139 21 = some (.bipush 46, 2) := (xco_139 21).trans rfl
theorem xc_139_23 : p_code 139 23 = some (.invokevirtual 235, 3) := (xco_139 23).trans rfl
theorem xm_139_23 : p_calls 139 (.invokevirtual 235) = some (134, 2) := by dsimp only [p_calls]; rw [xow_139]; rfl
theorem xc_139_26 : p_code 139 26 = some (.bipush 100, 2) := (xco_139 26).trans rfl
theorem xc_139_28 : p_code 139 28 = some (.istore_n 3, 1) := (xco_139 28).trans rfl
theorem xc_139_29 : p_code 139 29 = some (.iload_n 3, 1) := (xco_139 29).trans rfl
theorem xc_139_30 : p_code 139 30 = some (.ifCond .le 29, 3) := (xco_139 30).trans rfl
theorem xj_139_30 : p_tgt 30 (29) = 59 ∧ 0 ≤ ((30 : Nat) : Int) + (29) := ⟨by decide, by decide⟩
theorem xc_139_33 : p_code 139 33 = some (.iload_n 2, 1) := (xco_139 33).trans rfl
theorem xc_139_34 : p_code 139 34 = some (.ifCond .le 25, 3) := (xco_139 34).trans rfl
theorem xj_139_34 : p_tgt 34 (25) = 59 ∧ 0 ≤ ((34 : Nat) : Int) + (25) := ⟨by decide, by decide⟩
theorem xc_139_37 : p_code 139 37 = some (.aload_n 0, 1) := (xco_139 37).trans rfl
theorem xc_139_38 : p_code 139 38 = some (.bipush 48, 2) := (xco_139 38).trans rfl
theorem xc_139_40 : p_code 139 40 = some (.iload_n 2, 1) := (xco_139 40).trans rfl
theorem xc_139_41 : p_code 139 41 = some (.iload_n 3, 1) := (xco_139 41).trans rfl
theorem xc_139_42 : p_code 139 42 = some (.idiv, 1) := (xco_139 42).trans rfl
theorem xc_139_43 : p_code 139 43 = some (.iadd, 1) := (xco_139 43).trans rfl
theorem xc_139_44 : p_code 139 44 = some (.invokevirtual 235, 3) := (xco_139 44).trans rfl
theorem xm_139_44 : p_calls 139 (.invokevirtual 235) = some (134, 2) := by dsimp only [p_calls]; rw [xow_139]; rfl
theorem xc_139_47 : p_code 139 47 = some (.iload_n 2, 1) := (xco_139 47).trans rfl
theorem xc_139_48 : p_code 139 48 = some (.iload_n 3, 1) := (xco_139 48).trans rfl
theorem xc_139_49 : p_code 139 49 = some (.irem, 1) := (xco_139 49).trans rfl
theorem xc_139_50 : p_code 139 50 = some (.istore_n 2, 1) := (xco_139 50).trans rfl
theorem xc_139_51 : p_code 139 51 = some (.iload_n 3, 1) := (xco_139 51).trans rfl
theorem xc_139_52 : p_code 139 52 = some (.bipush 10, 2) := (xco_139 52).trans rfl
theorem xc_139_54 : p_code 139 54 = some (.idiv, 1) := (xco_139 54).trans rfl
theorem xc_139_55 : p_code 139 55 = some (.istore_n 3, 1) := (xco_139 55).trans rfl
theorem xc_139_56 : p_code 139 56 = some (.goto (-27), 3) := (xco_139 56).trans rfl
theorem xj_139_56 : p_tgt 56 (-27) = 29 ∧ 0 ≤ ((56 : Nat) : Int) + (-27) := ⟨by decide, by decide⟩
theorem xc_139_59 : p_code 139 59 = some (.return_, 1) := (xco_139 59).trans rfl
theorem xrt_139 : p_rty 139 = none := rfl
theorem xhh_139 : p_hh 139 = [] := rfl
theorem xin_139 {x1 : Int32} : p_in0 139 [.ref 22, .int x1] = [some (.ref 22), some (.int x1), none, none] := rfl
theorem xrc_139 {z : Nat → Int32} {a : Nat → Nat → Int32} {w : Nat → Nat → Int64} {y : Nat → Int64} {g : List pE} {x1 : Int32} : p_recv 139 [.ref 22, .int x1] (hp z a w y g) = true := rfl
theorem xco_140 (pc : Nat) : p_code 140 pc = p_find pc pc_140 := rfl
theorem xow_140 : p_own 140 = 6 := rfl
theorem xc_140_0 : p_code 140 0 = some (.iload_n 2, 1) := (xco_140 0).trans rfl
theorem xc_140_1 : p_code 140 1 = some (.istore_n 3, 1) := (xco_140 1).trans rfl
theorem xc_140_2 : p_code 140 2 = some (.aload_n 0, 1) := (xco_140 2).trans rfl
theorem xc_140_3 : p_code 140 3 = some (.getfield 13, 3) := (xco_140 3).trans rfl
theorem xf_140_13 : p_fld (p_own 140) 13 = some (6, 5) := by rw [xow_140]; rfl
theorem xc_140_6 : p_code 140 6 = some (.bipush 60, 2) := (xco_140 6).trans rfl
theorem xc_140_8 : p_code 140 8 = some (.aload_n 0, 1) := (xco_140 8).trans rfl
theorem xc_140_9 : p_code 140 9 = some (.getfield 25, 3) := (xco_140 9).trans rfl
theorem xf_140_25 : p_fld (p_own 140) 25 = some (6, 9) := by rw [xow_140]; rfl
theorem xc_140_12 : p_code 140 12 = some (.iload_n 1, 1) := (xco_140 12).trans rfl
theorem xc_140_13 : p_code 140 13 = some (.iaload, 1) := (xco_140 13).trans rfl
theorem xc_140_14 : p_code 140 14 = some (.iadd, 1) := (xco_140 14).trans rfl
theorem xc_140_15 : p_code 140 15 = some (.iaload, 1) := (xco_140 15).trans rfl
theorem xc_140_16 : p_code 140 16 = some (.iconst 3, 1) := (xco_140 16).trans rfl
theorem xc_140_17 : p_code 140 17 = some (.if_icmp .eq 21, 3) := (xco_140 17).trans rfl
theorem xj_140_17 : p_tgt 17 (21) = 38 ∧ 0 ≤ ((17 : Nat) : Int) + (21) := ⟨by decide, by decide⟩
theorem xc_140_20 : p_code 140 20 = some (.aload_n 0, 1) := (xco_140 20).trans rfl
theorem xc_140_21 : p_code 140 21 = some (.getfield 13, 3) := (xco_140 21).trans rfl
theorem xc_140_24 : p_code 140 24 = some (.bipush 60, 2) := (xco_140 24).trans rfl
theorem xc_140_26 : p_code 140 26 = some (.aload_n 0, 1) := (xco_140 26).trans rfl
theorem xc_140_27 : p_code 140 27 = some (.getfield 25, 3) := (xco_140 27).trans rfl
theorem xc_140_30 : p_code 140 30 = some (.iload_n 1, 1) := (xco_140 30).trans rfl
theorem xc_140_31 : p_code 140 31 = some (.iaload, 1) := (xco_140 31).trans rfl
theorem xc_140_32 : p_code 140 32 = some (.iadd, 1) := (xco_140 32).trans rfl
theorem xc_140_33 : p_code 140 33 = some (.iaload, 1) := (xco_140 33).trans rfl
theorem xc_140_34 : p_code 140 34 = some (.iconst 4, 1) := (xco_140 34).trans rfl
theorem xc_140_35 : p_code 140 35 = some (.if_icmp .ne 7, 3) := (xco_140 35).trans rfl
theorem xj_140_35 : p_tgt 35 (7) = 42 ∧ 0 ≤ ((35 : Nat) : Int) + (7) := ⟨by decide, by decide⟩
theorem xc_140_38 : p_code 140 38 = some (.iconst 1, 1) := (xco_140 38).trans rfl
theorem xc_140_39 : p_code 140 39 = some (.goto 4, 3) := (xco_140 39).trans rfl
theorem xj_140_39 : p_tgt 39 (4) = 43 ∧ 0 ≤ ((39 : Nat) : Int) + (4) := ⟨by decide, by decide⟩
theorem xc_140_42 : p_code 140 42 = some (.iconst 0, 1) := (xco_140 42).trans rfl
theorem xc_140_43 : p_code 140 43 = some (.istore 4, 2) := (xco_140 43).trans rfl
theorem xc_140_45 : p_code 140 45 = some (.iload 4, 2) := (xco_140 45).trans rfl
theorem xc_140_47 : p_code 140 47 = some (.ifCond .eq 14, 3) := (xco_140 47).trans rfl
theorem xj_140_47 : p_tgt 47 (14) = 61 ∧ 0 ≤ ((47 : Nat) : Int) + (14) := ⟨by decide, by decide⟩
theorem xc_140_50 : p_code 140 50 = some (.aload_n 0, 1) := (xco_140 50).trans rfl
theorem xc_140_51 : p_code 140 51 = some (.getfield 49, 3) := (xco_140 51).trans rfl
theorem xf_140_49 : p_fld (p_own 140) 49 = some (6, 23) := by rw [xow_140]; rfl
theorem xc_140_54 : p_code 140 54 = some (.iload_n 3, 1) := (xco_140 54).trans rfl
theorem xc_140_55 : p_code 140 55 = some (.bipush (-42), 2) := (xco_140 55).trans rfl
theorem xc_140_57 : p_code 140 57 = some (.iastore, 1) := (xco_140 57).trans rfl
theorem xc_140_58 : p_code 140 58 = some (.iinc 3 1, 3) := (xco_140 58).trans rfl
theorem xc_140_61 : p_code 140 61 = some (.aload_n 0, 1) := (xco_140 61).trans rfl
theorem xc_140_62 : p_code 140 62 = some (.getfield 49, 3) := (xco_140 62).trans rfl
theorem xc_140_65 : p_code 140 65 = some (.iload_n 3, 1) := (xco_140 65).trans rfl
theorem xc_140_66 : p_code 140 66 = some (.aload_n 0, 1) := (xco_140 66).trans rfl
theorem xc_140_67 : p_code 140 67 = some (.getfield 25, 3) := (xco_140 67).trans rfl
theorem xc_140_70 : p_code 140 70 = some (.iload_n 1, 1) := (xco_140 70).trans rfl
theorem xc_140_71 : p_code 140 71 = some (.iaload, 1) := (xco_140 71).trans rfl
theorem xc_140_72 : p_code 140 72 = some (.iastore, 1) := (xco_140 72).trans rfl
theorem xc_140_73 : p_code 140 73 = some (.iinc 3 1, 3) := (xco_140 73).trans rfl
theorem xc_140_76 : p_code 140 76 = some (.iload 4, 2) := (xco_140 76).trans rfl
theorem xc_140_78 : p_code 140 78 = some (.ifCond .eq 14, 3) := (xco_140 78).trans rfl
theorem xj_140_78 : p_tgt 78 (14) = 92 ∧ 0 ≤ ((78 : Nat) : Int) + (14) := ⟨by decide, by decide⟩
theorem xc_140_81 : p_code 140 81 = some (.aload_n 0, 1) := (xco_140 81).trans rfl
theorem xc_140_82 : p_code 140 82 = some (.getfield 49, 3) := (xco_140 82).trans rfl
theorem xc_140_85 : p_code 140 85 = some (.iload_n 3, 1) := (xco_140 85).trans rfl
theorem xc_140_86 : p_code 140 86 = some (.bipush (-41), 2) := (xco_140 86).trans rfl
theorem xc_140_88 : p_code 140 88 = some (.iastore, 1) := (xco_140 88).trans rfl
theorem xc_140_89 : p_code 140 89 = some (.iinc 3 1, 3) := (xco_140 89).trans rfl
theorem xc_140_92 : p_code 140 92 = some (.aload_n 0, 1) := (xco_140 92).trans rfl
theorem xc_140_93 : p_code 140 93 = some (.getfield 49, 3) := (xco_140 93).trans rfl
theorem xc_140_96 : p_code 140 96 = some (.iload_n 3, 1) := (xco_140 96).trans rfl
theorem xc_140_97 : p_code 140 97 = some (.bipush (-33), 2) := (xco_140 97).trans rfl
theorem xc_140_99 : p_code 140 99 = some (.iastore, 1) := (xco_140 99).trans rfl
theorem xc_140_100 : p_code 140 100 = some (.aload_n 0, 1) := (xco_140 100).trans rfl
theorem xc_140_101 : p_code 140 101 = some (.getfield 49, 3) := (xco_140 101).trans rfl
theorem xc_140_104 : p_code 140 104 = some (.iload_n 3, 1) := (xco_140 104).trans rfl
theorem xc_140_105 : p_code 140 105 = some (.iconst 1, 1) := (xco_140 105).trans rfl
theorem xc_140_106 : p_code 140 106 = some (.iadd, 1) := (xco_140 106).trans rfl
theorem xc_140_107 : p_code 140 107 = some (.iconst (-1), 1) := (xco_140 107).trans rfl
theorem xc_140_108 : p_code 140 108 = some (.aload_n 0, 1) := (xco_140 108).trans rfl
theorem xc_140_109 : p_code 140 109 = some (.getfield 13, 3) := (xco_140 109).trans rfl
theorem xc_140_112 : p_code 140 112 = some (.iload_n 1, 1) := (xco_140 112).trans rfl
theorem xc_140_113 : p_code 140 113 = some (.iaload, 1) := (xco_140 113).trans rfl
theorem xc_140_114 : p_code 140 114 = some (.iconst 3, 1) := (xco_140 114).trans rfl
theorem xc_140_115 : p_code 140 115 = some (.if_icmp .ne 8, 3) := (xco_140 115).trans rfl
theorem xj_140_115 : p_tgt 115 (8) = 123 ∧ 0 ≤ ((115 : Nat) : Int) + (8) := ⟨by decide, by decide⟩
theorem xc_140_118 : p_code 140 118 = some (.bipush 43, 2) := (xco_140 118).trans rfl
theorem xc_140_120 : p_code 140 120 = some (.goto 5, 3) := (xco_140 120).trans rfl
theorem xj_140_120 : p_tgt 120 (5) = 125 ∧ 0 ≤ ((120 : Nat) : Int) + (5) := ⟨by decide, by decide⟩
theorem xc_140_123 : p_code 140 123 = some (.bipush 45, 2) := (xco_140 123).trans rfl
theorem xc_140_125 : p_code 140 125 = some (.isub, 1) := (xco_140 125).trans rfl
theorem xc_140_126 : p_code 140 126 = some (.iastore, 1) := (xco_140 126).trans rfl
theorem xc_140_127 : p_code 140 127 = some (.aload_n 0, 1) := (xco_140 127).trans rfl
theorem xc_140_128 : p_code 140 128 = some (.getfield 49, 3) := (xco_140 128).trans rfl
theorem xc_140_131 : p_code 140 131 = some (.iload_n 3, 1) := (xco_140 131).trans rfl
theorem xc_140_132 : p_code 140 132 = some (.iconst 2, 1) := (xco_140 132).trans rfl
theorem xc_140_133 : p_code 140 133 = some (.iadd, 1) := (xco_140 133).trans rfl
theorem xc_140_134 : p_code 140 134 = some (.bipush (-33), 2) := (xco_140 134).trans rfl
theorem xc_140_136 : p_code 140 136 = some (.iastore, 1) := (xco_140 136).trans rfl
theorem xc_140_137 : p_code 140 137 = some (.aload_n 0, 1) := (xco_140 137).trans rfl
theorem xc_140_138 : p_code 140 138 = some (.getfield 49, 3) := (xco_140 138).trans rfl
theorem xc_140_141 : p_code 140 141 = some (.iload_n 3, 1) := (xco_140 141).trans rfl
theorem xc_140_142 : p_code 140 142 = some (.iconst 3, 1) := (xco_140 142).trans rfl
theorem xc_140_143 : p_code 140 143 = some (.iadd, 1) := (xco_140 143).trans rfl
theorem xc_140_144 : p_code 140 144 = some (.aload_n 0, 1) := (xco_140 144).trans rfl
theorem xc_140_145 : p_code 140 145 = some (.getfield 22, 3) := (xco_140 145).trans rfl
theorem xf_140_22 : p_fld (p_own 140) 22 = some (6, 8) := by rw [xow_140]; rfl
theorem xc_140_148 : p_code 140 148 = some (.iload_n 1, 1) := (xco_140 148).trans rfl
theorem xc_140_149 : p_code 140 149 = some (.iaload, 1) := (xco_140 149).trans rfl
theorem xc_140_150 : p_code 140 150 = some (.iastore, 1) := (xco_140 150).trans rfl
theorem xc_140_151 : p_code 140 151 = some (.iload_n 3, 1) := (xco_140 151).trans rfl
theorem xc_140_152 : p_code 140 152 = some (.iconst 4, 1) := (xco_140 152).trans rfl
theorem xc_140_153 : p_code 140 153 = some (.iadd, 1) := (xco_140 153).trans rfl
theorem xc_140_154 : p_code 140 154 = some (.ireturn, 1) := (xco_140 154).trans rfl
theorem xrt_140 : p_rty 140 = some .int := rfl
theorem xhh_140 : p_hh 140 = [] := rfl
theorem xin_140 {x1 : Int32} {x2 : Int32} : p_in0 140 [.ref 22, .int x1, .int x2] = [some (.ref 22), some (.int x1), some (.int x2), none, none] := rfl
theorem xrc_140 {z : Nat → Int32} {a : Nat → Nat → Int32} {w : Nat → Nat → Int64} {y : Nat → Int64} {g : List pE} {x1 : Int32} {x2 : Int32} : p_recv 140 [.ref 22, .int x1, .int x2] (hp z a w y g) = true := rfl
theorem xco_141 (pc : Nat) : p_code 141 pc = p_find pc pc_141 := rfl
theorem xow_141 : p_own 141 = 6 := rfl
theorem xc_141_0 : p_code 141 0 = some (.aload_n 0, 1) := (xco_141 0).trans rfl
theorem xc_141_1 : p_code 141 1 = some (.iload_n 1, 1) := (xco_141 1).trans rfl
theorem xc_141_2 : p_code 141 2 = some (.ifCond .lt 11, 3) := (xco_141 2).trans rfl
theorem xj_141_2 : p_tgt 2 (11) = 13 ∧ 0 ≤ ((2 : Nat) : Int) + (11) := ⟨by decide, by decide⟩
theorem xc_141_5 : p_code 141 5 = some (.iload_n 1, 1) := (xco_141 5).trans rfl
theorem xc_141_6 : p_code 141 6 = some (.aload_n 0, 1) := (xco_141 6).trans rfl
theorem xc_141_7 : p_code 141 7 = some (.getfield 232, 3) := (xco_141 7).trans rfl
theorem xf_141_232 : p_fld (p_own 141) 232 = some (6, 31) := by rw [xow_141]; rfl
theorem xc_141_10 : p_code 141 10 = some (.if_icmp .lt 7, 3) := (xco_141 10).trans rfl
theorem xj_141_10 : p_tgt 10 (7) = 17 ∧ 0 ≤ ((10 : Nat) : Int) + (7) := ⟨by decide, by decide⟩
theorem xc_141_13 : p_code 141 13 = some (.iconst 1, 1) := (xco_141 13).trans rfl
theorem xc_141_14 : p_code 141 14 = some (.goto 4, 3) := (xco_141 14).trans rfl
theorem xj_141_14 : p_tgt 14 (4) = 18 ∧ 0 ≤ ((14 : Nat) : Int) + (4) := ⟨by decide, by decide⟩
theorem xc_141_17 : p_code 141 17 = some (.iconst 0, 1) := (xco_141 17).trans rfl
theorem xc_141_18 : p_code 141 18 = some (.putfield 73, 3) := (xco_141 18).trans rfl
theorem xf_141_73 : p_fld (p_own 141) 73 = some (6, 4) := by rw [xow_141]; rfl
theorem xc_141_21 : p_code 141 21 = some (.aload_n 0, 1) := (xco_141 21).trans rfl
theorem xc_141_22 : p_code 141 22 = some (.getfield 73, 3) := (xco_141 22).trans rfl
theorem xc_141_25 : p_code 141 25 = some (.ifCond .eq 7, 3) := (xco_141 25).trans rfl
theorem xj_141_25 : p_tgt 25 (7) = 32 ∧ 0 ≤ ((25 : Nat) : Int) + (7) := ⟨by decide, by decide⟩
theorem xc_141_28 : p_code 141 28 = some (.iconst 0, 1) := (xco_141 28).trans rfl
theorem xc_141_29 : p_code 141 29 = some (.goto 9, 3) := (xco_141 29).trans rfl
theorem xj_141_29 : p_tgt 29 (9) = 38 ∧ 0 ≤ ((29 : Nat) : Int) + (9) := ⟨by decide, by decide⟩
theorem xc_141_32 : p_code 141 32 = some (.aload_n 0, 1) := (xco_141 32).trans rfl
theorem xc_141_33 : p_code 141 33 = some (.getfield 68, 3) := (xco_141 33).trans rfl
theorem xf_141_68 : p_fld (p_own 141) 68 = some (6, 30) := by rw [xow_141]; rfl
theorem xc_141_36 : p_code 141 36 = some (.iload_n 1, 1) := (xco_141 36).trans rfl
theorem xc_141_37 : p_code 141 37 = some (.iaload, 1) := (xco_141 37).trans rfl
theorem xc_141_38 : p_code 141 38 = some (.ireturn, 1) := (xco_141 38).trans rfl
theorem xrt_141 : p_rty 141 = some .int := rfl
theorem xhh_141 : p_hh 141 = [] := rfl
theorem xin_141 {x1 : Int32} : p_in0 141 [.ref 22, .int x1] = [some (.ref 22), some (.int x1)] := rfl
theorem xrc_141 {z : Nat → Int32} {a : Nat → Nat → Int32} {w : Nat → Nat → Int64} {y : Nat → Int64} {g : List pE} {x1 : Int32} : p_recv 141 [.ref 22, .int x1] (hp z a w y g) = true := rfl
theorem xco_142 (pc : Nat) : p_code 142 pc = p_find pc pc_142 := rfl
theorem xow_142 : p_own 142 = 6 := rfl
theorem xc_142_0 : p_code 142 0 = some (.lload_n 1, 1) := (xco_142 0).trans rfl
theorem xc_142_1 : p_code 142 1 = some (.lconst 0, 1) := (xco_142 1).trans rfl
theorem xc_142_2 : p_code 142 2 = some (.lcmp, 1) := (xco_142 2).trans rfl
theorem xc_142_3 : p_code 142 3 = some (.ifCond .lt 29, 3) := (xco_142 3).trans rfl
theorem xj_142_3 : p_tgt 3 (29) = 32 ∧ 0 ≤ ((3 : Nat) : Int) + (29) := ⟨by decide, by decide⟩
theorem xc_142_6 : p_code 142 6 = some (.lload_n 1, 1) := (xco_142 6).trans rfl
theorem xc_142_7 : p_code 142 7 = some (.ldc2_w 263, 3) := (xco_142 7).trans rfl
theorem xl_142_263 : p_lng (p_own 142) 263 = some (1000000000) := by rw [xow_142]; rfl
theorem xc_142_10 : p_code 142 10 = some (.lcmp, 1) := (xco_142 10).trans rfl
theorem xc_142_11 : p_code 142 11 = some (.ifCond .gt 21, 3) := (xco_142 11).trans rfl
theorem xj_142_11 : p_tgt 11 (21) = 32 ∧ 0 ≤ ((11 : Nat) : Int) + (21) := ⟨by decide, by decide⟩
theorem xc_142_14 : p_code 142 14 = some (.lload_n 3, 1) := (xco_142 14).trans rfl
theorem xc_142_15 : p_code 142 15 = some (.lconst 0, 1) := (xco_142 15).trans rfl
theorem xc_142_16 : p_code 142 16 = some (.lcmp, 1) := (xco_142 16).trans rfl
theorem xc_142_17 : p_code 142 17 = some (.ifCond .lt 15, 3) := (xco_142 17).trans rfl
theorem xj_142_17 : p_tgt 17 (15) = 32 ∧ 0 ≤ ((17 : Nat) : Int) + (15) := ⟨by decide, by decide⟩
theorem xc_142_20 : p_code 142 20 = some (.lload_n 3, 1) := (xco_142 20).trans rfl
theorem xc_142_21 : p_code 142 21 = some (.ldc2_w 263, 3) := (xco_142 21).trans rfl
theorem xc_142_24 : p_code 142 24 = some (.lcmp, 1) := (xco_142 24).trans rfl
theorem xc_142_25 : p_code 142 25 = some (.ifCond .gt 7, 3) := (xco_142 25).trans rfl
theorem xj_142_25 : p_tgt 25 (7) = 32 ∧ 0 ≤ ((25 : Nat) : Int) + (7) := ⟨by decide, by decide⟩
theorem xc_142_28 : p_code 142 28 = some (.iconst 1, 1) := (xco_142 28).trans rfl
theorem xc_142_29 : p_code 142 29 = some (.goto 4, 3) := (xco_142 29).trans rfl
theorem xj_142_29 : p_tgt 29 (4) = 33 ∧ 0 ≤ ((29 : Nat) : Int) + (4) := ⟨by decide, by decide⟩
theorem xc_142_32 : p_code 142 32 = some (.iconst 0, 1) := (xco_142 32).trans rfl
theorem xc_142_33 : p_code 142 33 = some (.istore 5, 2) := (xco_142 33).trans rfl
theorem xc_142_35 : p_code 142 35 = some (.aload_n 0, 1) := (xco_142 35).trans rfl
theorem xc_142_36 : p_code 142 36 = some (.iload 5, 2) := (xco_142 36).trans rfl
theorem xc_142_38 : p_code 142 38 = some (.ifCond .ne 7, 3) := (xco_142 38).trans rfl
theorem xj_142_38 : p_tgt 38 (7) = 45 ∧ 0 ≤ ((38 : Nat) : Int) + (7) := ⟨by decide, by decide⟩
theorem xc_142_41 : p_code 142 41 = some (.iconst 1, 1) := (xco_142 41).trans rfl
theorem xc_142_42 : p_code 142 42 = some (.goto 14, 3) := (xco_142 42).trans rfl
theorem xj_142_42 : p_tgt 42 (14) = 56 ∧ 0 ≤ ((42 : Nat) : Int) + (14) := ⟨by decide, by decide⟩
theorem xc_142_45 : p_code 142 45 = some (.lload_n 3, 1) := (xco_142 45).trans rfl
theorem xc_142_46 : p_code 142 46 = some (.lconst 0, 1) := (xco_142 46).trans rfl
theorem xc_142_47 : p_code 142 47 = some (.lcmp, 1) := (xco_142 47).trans rfl
theorem xc_142_48 : p_code 142 48 = some (.ifCond .ne 7, 3) := (xco_142 48).trans rfl
theorem xj_142_48 : p_tgt 48 (7) = 55 ∧ 0 ≤ ((48 : Nat) : Int) + (7) := ⟨by decide, by decide⟩
theorem xc_142_51 : p_code 142 51 = some (.iconst 2, 1) := (xco_142 51).trans rfl
theorem xc_142_52 : p_code 142 52 = some (.goto 4, 3) := (xco_142 52).trans rfl
theorem xj_142_52 : p_tgt 52 (4) = 56 ∧ 0 ≤ ((52 : Nat) : Int) + (4) := ⟨by decide, by decide⟩
theorem xc_142_55 : p_code 142 55 = some (.iconst 0, 1) := (xco_142 55).trans rfl
theorem xc_142_56 : p_code 142 56 = some (.putfield 73, 3) := (xco_142 56).trans rfl
theorem xf_142_73 : p_fld (p_own 142) 73 = some (6, 4) := by rw [xow_142]; rfl
theorem xc_142_59 : p_code 142 59 = some (.aload_n 0, 1) := (xco_142 59).trans rfl
theorem xc_142_60 : p_code 142 60 = some (.getfield 73, 3) := (xco_142 60).trans rfl
theorem xc_142_63 : p_code 142 63 = some (.ifCond .eq 7, 3) := (xco_142 63).trans rfl
theorem xj_142_63 : p_tgt 63 (7) = 70 ∧ 0 ≤ ((63 : Nat) : Int) + (7) := ⟨by decide, by decide⟩
theorem xc_142_66 : p_code 142 66 = some (.lconst 0, 1) := (xco_142 66).trans rfl
theorem xc_142_67 : p_code 142 67 = some (.goto 10, 3) := (xco_142 67).trans rfl
theorem xj_142_67 : p_tgt 67 (10) = 77 ∧ 0 ≤ ((67 : Nat) : Int) + (10) := ⟨by decide, by decide⟩
theorem xc_142_70 : p_code 142 70 = some (.lload_n 1, 1) := (xco_142 70).trans rfl
theorem xc_142_71 : p_code 142 71 = some (.ldc2_w 200, 3) := (xco_142 71).trans rfl
theorem xl_142_200 : p_lng (p_own 142) 200 = some (100) := by rw [xow_142]; rfl
theorem xc_142_74 : p_code 142 74 = some (.lmul, 1) := (xco_142 74).trans rfl
theorem xc_142_75 : p_code 142 75 = some (.lload_n 3, 1) := (xco_142 75).trans rfl
theorem xc_142_76 : p_code 142 76 = some (.ldiv, 1) := (xco_142 76).trans rfl
theorem xc_142_77 : p_code 142 77 = some (.lreturn, 1) := (xco_142 77).trans rfl
theorem xrt_142 : p_rty 142 = some .long := rfl
theorem xhh_142 : p_hh 142 = [] := rfl
theorem xin_142 {x1 : Int64} {x2 : Int64} : p_in0 142 [.ref 22, .long x1, .long x2] = [some (.ref 22), some (.long x1), none, some (.long x2), none, none] := rfl
theorem xrc_142 {z : Nat → Int32} {a : Nat → Nat → Int32} {w : Nat → Nat → Int64} {y : Nat → Int64} {g : List pE} {x1 : Int64} {x2 : Int64} : p_recv 142 [.ref 22, .long x1, .long x2] (hp z a w y g) = true := rfl
theorem xco_143 (pc : Nat) : p_code 143 pc = p_find pc pc_143 := rfl
theorem xow_143 : p_own 143 = 6 := rfl
theorem xc_143_0 : p_code 143 0 = some (.aload_n 0, 1) := (xco_143 0).trans rfl
theorem xc_143_1 : p_code 143 1 = some (.iconst 0, 1) := (xco_143 1).trans rfl
theorem xc_143_2 : p_code 143 2 = some (.putfield 73, 3) := (xco_143 2).trans rfl
theorem xf_143_73 : p_fld (p_own 143) 73 = some (6, 4) := by rw [xow_143]; rfl
theorem xc_143_5 : p_code 143 5 = some (.iload_n 1, 1) := (xco_143 5).trans rfl
theorem xc_143_6 : p_code 143 6 = some (.tableswitch 61 0 3 #[30, 35, 40, 45], 30) := (xco_143 6).trans rfl
theorem xc_143_36 : p_code 143 36 = some (.aload_n 0, 1) := (xco_143 36).trans rfl
theorem xc_143_37 : p_code 143 37 = some (.getfield 77, 3) := (xco_143 37).trans rfl
theorem xf_143_77 : p_fld (p_own 143) 77 = some (6, 1) := by rw [xow_143]; rfl
theorem xc_143_40 : p_code 143 40 = some (.ireturn, 1) := (xco_143 40).trans rfl
theorem xc_143_41 : p_code 143 41 = some (.aload_n 0, 1) := (xco_143 41).trans rfl
theorem xc_143_42 : p_code 143 42 = some (.getfield 174, 3) := (xco_143 42).trans rfl
theorem xf_143_174 : p_fld (p_own 143) 174 = some (6, 15) := by rw [xow_143]; rfl
theorem xc_143_45 : p_code 143 45 = some (.ireturn, 1) := (xco_143 45).trans rfl
theorem xc_143_46 : p_code 143 46 = some (.aload_n 0, 1) := (xco_143 46).trans rfl
theorem xc_143_47 : p_code 143 47 = some (.getfield 232, 3) := (xco_143 47).trans rfl
theorem xf_143_232 : p_fld (p_own 143) 232 = some (6, 31) := by rw [xow_143]; rfl
theorem xc_143_50 : p_code 143 50 = some (.ireturn, 1) := (xco_143 50).trans rfl
theorem xc_143_51 : p_code 143 51 = some (.aload_n 0, 1) := (xco_143 51).trans rfl
theorem xc_143_52 : p_code 143 52 = some (.getfield 174, 3) := (xco_143 52).trans rfl
theorem xc_143_55 : p_code 143 55 = some (.ifCond .ne 7, 3) := (xco_143 55).trans rfl
theorem xj_143_55 : p_tgt 55 (7) = 62 ∧ 0 ≤ ((55 : Nat) : Int) + (7) := ⟨by decide, by decide⟩
theorem xc_143_58 : p_code 143 58 = some (.iconst 0, 1) := (xco_143 58).trans rfl
theorem xc_143_59 : p_code 143 59 = some (.goto 7, 3) := (xco_143 59).trans rfl
theorem xj_143_59 : p_tgt 59 (7) = 66 ∧ 0 ≤ ((59 : Nat) : Int) + (7) := ⟨by decide, by decide⟩
theorem xc_143_62 : p_code 143 62 = some (.aload_n 0, 1) := (xco_143 62).trans rfl
theorem xc_143_63 : p_code 143 63 = some (.getfield 177, 3) := (xco_143 63).trans rfl
theorem xf_143_177 : p_fld (p_own 143) 177 = some (6, 16) := by rw [xow_143]; rfl
theorem xc_143_66 : p_code 143 66 = some (.ireturn, 1) := (xco_143 66).trans rfl
theorem xc_143_67 : p_code 143 67 = some (.iconst (-1), 1) := (xco_143 67).trans rfl
theorem xc_143_68 : p_code 143 68 = some (.ireturn, 1) := (xco_143 68).trans rfl
theorem xrt_143 : p_rty 143 = some .int := rfl
theorem xhh_143 : p_hh 143 = [] := rfl
theorem xin_143 {x1 : Int32} : p_in0 143 [.ref 22, .int x1] = [some (.ref 22), some (.int x1)] := rfl
theorem xrc_143 {z : Nat → Int32} {a : Nat → Nat → Int32} {w : Nat → Nat → Int64} {y : Nat → Int64} {g : List pE} {x1 : Int32} : p_recv 143 [.ref 22, .int x1] (hp z a w y g) = true := rfl
