/-! THE REFERENCE (X9): type, coins, tune, lot, meetings -/
abbrev mX9_meetOnce : mT := (yX9_meetOnce, RX9, cX9_meetOnce, 7, (some .int), wsX9_meetOnce)
abbrev rX9_meetOnce : Room := { frames := 1, cells := 0, slots := 0, locals := 21 }
theorem dX9_meetOnce_0 : decode cX9_meetOnce 0 = .ok (.aload_n 0, 1) := by decide +kernel
theorem dX9_meetOnce_1 : decode cX9_meetOnce 1 = .ok (.aload_n 0, 1) := by decide +kernel
theorem dX9_meetOnce_2 : decode cX9_meetOnce 2 = .ok (.getfield 111, 3) := by decide +kernel
theorem dX9_meetOnce_5 : decode cX9_meetOnce 5 = .ok (.invokevirtual 140, 3) := by decide +kernel
theorem dX9_meetOnce_8 : decode cX9_meetOnce 8 = .ok (.istore_n 1, 1) := by decide +kernel
theorem dX9_meetOnce_9 : decode cX9_meetOnce 9 = .ok (.iload_n 1, 1) := by decide +kernel
theorem dX9_meetOnce_10 : decode cX9_meetOnce 10 = .ok (.iconst 1, 1) := by decide +kernel
theorem dX9_meetOnce_11 : decode cX9_meetOnce 11 = .ok (.iadd, 1) := by decide +kernel
theorem dX9_meetOnce_12 : decode cX9_meetOnce 12 = .ok (.aload_n 0, 1) := by decide +kernel
theorem dX9_meetOnce_13 : decode cX9_meetOnce 13 = .ok (.aload_n 0, 1) := by decide +kernel
theorem dX9_meetOnce_14 : decode cX9_meetOnce 14 = .ok (.getfield 111, 3) := by decide +kernel
theorem dX9_meetOnce_17 : decode cX9_meetOnce 17 = .ok (.iconst 1, 1) := by decide +kernel
theorem dX9_meetOnce_18 : decode cX9_meetOnce 18 = .ok (.isub, 1) := by decide +kernel
theorem dX9_meetOnce_19 : decode cX9_meetOnce 19 = .ok (.invokevirtual 140, 3) := by decide +kernel
theorem dX9_meetOnce_22 : decode cX9_meetOnce 22 = .ok (.iadd, 1) := by decide +kernel
theorem dX9_meetOnce_23 : decode cX9_meetOnce 23 = .ok (.aload_n 0, 1) := by decide +kernel
theorem dX9_meetOnce_24 : decode cX9_meetOnce 24 = .ok (.getfield 111, 3) := by decide +kernel
theorem dX9_meetOnce_27 : decode cX9_meetOnce 27 = .ok (.irem, 1) := by decide +kernel
theorem dX9_meetOnce_28 : decode cX9_meetOnce 28 = .ok (.istore_n 2, 1) := by decide +kernel
theorem dX9_meetOnce_29 : decode cX9_meetOnce 29 = .ok (.aload_n 0, 1) := by decide +kernel
theorem dX9_meetOnce_30 : decode cX9_meetOnce 30 = .ok (.getfield 13, 3) := by decide +kernel
theorem dX9_meetOnce_33 : decode cX9_meetOnce 33 = .ok (.iload_n 2, 1) := by decide +kernel
theorem dX9_meetOnce_34 : decode cX9_meetOnce 34 = .ok (.iaload, 1) := by decide +kernel
theorem dX9_meetOnce_35 : decode cX9_meetOnce 35 = .ok (.iconst 1, 1) := by decide +kernel
theorem dX9_meetOnce_36 : decode cX9_meetOnce 36 = .ok (.if_icmp .eq 28, 3) := by decide +kernel
theorem dX9_meetOnce_39 : decode cX9_meetOnce 39 = .ok (.aload_n 0, 1) := by decide +kernel
theorem dX9_meetOnce_40 : decode cX9_meetOnce 40 = .ok (.getfield 13, 3) := by decide +kernel
theorem dX9_meetOnce_43 : decode cX9_meetOnce 43 = .ok (.iload_n 2, 1) := by decide +kernel
theorem dX9_meetOnce_44 : decode cX9_meetOnce 44 = .ok (.iaload, 1) := by decide +kernel
theorem dX9_meetOnce_45 : decode cX9_meetOnce 45 = .ok (.iconst 2, 1) := by decide +kernel
theorem dX9_meetOnce_46 : decode cX9_meetOnce 46 = .ok (.if_icmp .ne 22, 3) := by decide +kernel
theorem dX9_meetOnce_49 : decode cX9_meetOnce 49 = .ok (.aload_n 0, 1) := by decide +kernel
theorem dX9_meetOnce_50 : decode cX9_meetOnce 50 = .ok (.bipush 10, 2) := by decide +kernel
theorem dX9_meetOnce_52 : decode cX9_meetOnce 52 = .ok (.invokevirtual 140, 3) := by decide +kernel
theorem dX9_meetOnce_55 : decode cX9_meetOnce 55 = .ok (.aload_n 0, 1) := by decide +kernel
theorem dX9_meetOnce_56 : decode cX9_meetOnce 56 = .ok (.getfield 17, 3) := by decide +kernel
theorem dX9_meetOnce_59 : decode cX9_meetOnce 59 = .ok (.iload_n 2, 1) := by decide +kernel
theorem dX9_meetOnce_60 : decode cX9_meetOnce 60 = .ok (.iaload, 1) := by decide +kernel
theorem dX9_meetOnce_61 : decode cX9_meetOnce 61 = .ok (.if_icmp .ge 7, 3) := by decide +kernel
theorem dX9_meetOnce_64 : decode cX9_meetOnce 64 = .ok (.iconst 1, 1) := by decide +kernel
theorem dX9_meetOnce_65 : decode cX9_meetOnce 65 = .ok (.goto 4, 3) := by decide +kernel
theorem dX9_meetOnce_68 : decode cX9_meetOnce 68 = .ok (.iconst 0, 1) := by decide +kernel
theorem dX9_meetOnce_69 : decode cX9_meetOnce 69 = .ok (.istore_n 3, 1) := by decide +kernel
theorem dX9_meetOnce_70 : decode cX9_meetOnce 70 = .ok (.bipush (-9), 2) := by decide +kernel
theorem dX9_meetOnce_72 : decode cX9_meetOnce 72 = .ok (.istore 4, 2) := by decide +kernel
theorem dX9_meetOnce_74 : decode cX9_meetOnce 74 = .ok (.iconst 0, 1) := by decide +kernel
theorem dX9_meetOnce_75 : decode cX9_meetOnce 75 = .ok (.istore 5, 2) := by decide +kernel
theorem dX9_meetOnce_77 : decode cX9_meetOnce 77 = .ok (.iload 5, 2) := by decide +kernel
theorem dX9_meetOnce_79 : decode cX9_meetOnce 79 = .ok (.bipush 10, 2) := by decide +kernel
theorem dX9_meetOnce_81 : decode cX9_meetOnce 81 = .ok (.if_icmp .ge 76, 3) := by decide +kernel
theorem dX9_meetOnce_84 : decode cX9_meetOnce 84 = .ok (.aload_n 0, 1) := by decide +kernel
theorem dX9_meetOnce_85 : decode cX9_meetOnce 85 = .ok (.getfield 26, 3) := by decide +kernel
theorem dX9_meetOnce_88 : decode cX9_meetOnce 88 = .ok (.bipush 10, 2) := by decide +kernel
theorem dX9_meetOnce_90 : decode cX9_meetOnce 90 = .ok (.iload_n 1, 1) := by decide +kernel
theorem dX9_meetOnce_91 : decode cX9_meetOnce 91 = .ok (.imul, 1) := by decide +kernel
theorem dX9_meetOnce_92 : decode cX9_meetOnce 92 = .ok (.iload 5, 2) := by decide +kernel
theorem dX9_meetOnce_94 : decode cX9_meetOnce 94 = .ok (.iadd, 1) := by decide +kernel
theorem dX9_meetOnce_95 : decode cX9_meetOnce 95 = .ok (.iaload, 1) := by decide +kernel
theorem dX9_meetOnce_96 : decode cX9_meetOnce 96 = .ok (.ifCond .le 22, 3) := by decide +kernel
theorem dX9_meetOnce_99 : decode cX9_meetOnce 99 = .ok (.iload_n 3, 1) := by decide +kernel
theorem dX9_meetOnce_100 : decode cX9_meetOnce 100 = .ok (.ifCond .eq 14, 3) := by decide +kernel
theorem dX9_meetOnce_103 : decode cX9_meetOnce 103 = .ok (.iload 5, 2) := by decide +kernel
theorem dX9_meetOnce_105 : decode cX9_meetOnce 105 = .ok (.aload_n 0, 1) := by decide +kernel
theorem dX9_meetOnce_106 : decode cX9_meetOnce 106 = .ok (.getfield 39, 3) := by decide +kernel
theorem dX9_meetOnce_109 : decode cX9_meetOnce 109 = .ok (.iconst 0, 1) := by decide +kernel
theorem dX9_meetOnce_110 : decode cX9_meetOnce 110 = .ok (.iaload, 1) := by decide +kernel
theorem dX9_meetOnce_111 : decode cX9_meetOnce 111 = .ok (.if_icmp .gt 7, 3) := by decide +kernel
theorem dX9_meetOnce_114 : decode cX9_meetOnce 114 = .ok (.iconst 1, 1) := by decide +kernel
theorem dX9_meetOnce_115 : decode cX9_meetOnce 115 = .ok (.goto 4, 3) := by decide +kernel
theorem dX9_meetOnce_118 : decode cX9_meetOnce 118 = .ok (.iconst 0, 1) := by decide +kernel
theorem dX9_meetOnce_119 : decode cX9_meetOnce 119 = .ok (.istore 6, 2) := by decide +kernel
theorem dX9_meetOnce_121 : decode cX9_meetOnce 121 = .ok (.iload 6, 2) := by decide +kernel
theorem dX9_meetOnce_123 : decode cX9_meetOnce 123 = .ok (.ifCond .eq 24, 3) := by decide +kernel
theorem dX9_meetOnce_126 : decode cX9_meetOnce 126 = .ok (.iload 4, 2) := by decide +kernel
theorem dX9_meetOnce_128 : decode cX9_meetOnce 128 = .ok (.bipush (-9), 2) := by decide +kernel
theorem dX9_meetOnce_130 : decode cX9_meetOnce 130 = .ok (.if_icmp .eq 12, 3) := by decide +kernel
theorem dX9_meetOnce_133 : decode cX9_meetOnce 133 = .ok (.aload_n 0, 1) := by decide +kernel
theorem dX9_meetOnce_134 : decode cX9_meetOnce 134 = .ok (.getfield 20, 3) := by decide +kernel
theorem dX9_meetOnce_137 : decode cX9_meetOnce 137 = .ok (.iload_n 1, 1) := by decide +kernel
theorem dX9_meetOnce_138 : decode cX9_meetOnce 138 = .ok (.iaload, 1) := by decide +kernel
theorem dX9_meetOnce_139 : decode cX9_meetOnce 139 = .ok (.ifCond .ne 8, 3) := by decide +kernel
theorem dX9_meetOnce_142 : decode cX9_meetOnce 142 = .ok (.iload 5, 2) := by decide +kernel
theorem dX9_meetOnce_144 : decode cX9_meetOnce 144 = .ok (.goto 5, 3) := by decide +kernel
theorem dX9_meetOnce_147 : decode cX9_meetOnce 147 = .ok (.iload 4, 2) := by decide +kernel
theorem dX9_meetOnce_149 : decode cX9_meetOnce 149 = .ok (.istore 4, 2) := by decide +kernel
theorem dX9_meetOnce_151 : decode cX9_meetOnce 151 = .ok (.iinc 5 1, 3) := by decide +kernel
theorem dX9_meetOnce_154 : decode cX9_meetOnce 154 = .ok (.goto (-77), 3) := by decide +kernel
theorem dX9_meetOnce_157 : decode cX9_meetOnce 157 = .ok (.iload 4, 2) := by decide +kernel
theorem dX9_meetOnce_159 : decode cX9_meetOnce 159 = .ok (.bipush (-9), 2) := by decide +kernel
theorem dX9_meetOnce_161 : decode cX9_meetOnce 161 = .ok (.if_icmp .eq 24, 3) := by decide +kernel
theorem dX9_meetOnce_164 : decode cX9_meetOnce 164 = .ok (.aload_n 0, 1) := by decide +kernel
theorem dX9_meetOnce_165 : decode cX9_meetOnce 165 = .ok (.getfield 26, 3) := by decide +kernel
theorem dX9_meetOnce_168 : decode cX9_meetOnce 168 = .ok (.bipush 10, 2) := by decide +kernel
theorem dX9_meetOnce_170 : decode cX9_meetOnce 170 = .ok (.iload_n 2, 1) := by decide +kernel
theorem dX9_meetOnce_171 : decode cX9_meetOnce 171 = .ok (.imul, 1) := by decide +kernel
theorem dX9_meetOnce_172 : decode cX9_meetOnce 172 = .ok (.iload 4, 2) := by decide +kernel
theorem dX9_meetOnce_174 : decode cX9_meetOnce 174 = .ok (.iadd, 1) := by decide +kernel
theorem dX9_meetOnce_175 : decode cX9_meetOnce 175 = .ok (.iaload, 1) := by decide +kernel
theorem dX9_meetOnce_176 : decode cX9_meetOnce 176 = .ok (.bipush 99, 2) := by decide +kernel
theorem dX9_meetOnce_178 : decode cX9_meetOnce 178 = .ok (.if_icmp .ne 7, 3) := by decide +kernel
theorem dX9_meetOnce_181 : decode cX9_meetOnce 181 = .ok (.bipush (-9), 2) := by decide +kernel
theorem dX9_meetOnce_183 : decode cX9_meetOnce 183 = .ok (.istore 4, 2) := by decide +kernel
theorem dX9_meetOnce_185 : decode cX9_meetOnce 185 = .ok (.iload 4, 2) := by decide +kernel
theorem dX9_meetOnce_187 : decode cX9_meetOnce 187 = .ok (.bipush (-9), 2) := by decide +kernel
theorem dX9_meetOnce_189 : decode cX9_meetOnce 189 = .ok (.if_icmp .eq 35, 3) := by decide +kernel
theorem dX9_meetOnce_192 : decode cX9_meetOnce 192 = .ok (.aload_n 0, 1) := by decide +kernel
theorem dX9_meetOnce_193 : decode cX9_meetOnce 193 = .ok (.getfield 26, 3) := by decide +kernel
theorem dX9_meetOnce_196 : decode cX9_meetOnce 196 = .ok (.bipush 10, 2) := by decide +kernel
theorem dX9_meetOnce_198 : decode cX9_meetOnce 198 = .ok (.iload_n 1, 1) := by decide +kernel
theorem dX9_meetOnce_199 : decode cX9_meetOnce 199 = .ok (.imul, 1) := by decide +kernel
theorem dX9_meetOnce_200 : decode cX9_meetOnce 200 = .ok (.iload 4, 2) := by decide +kernel
theorem dX9_meetOnce_202 : decode cX9_meetOnce 202 = .ok (.iadd, 1) := by decide +kernel
theorem dX9_meetOnce_203 : decode cX9_meetOnce 203 = .ok (.dup2, 1) := by decide +kernel
theorem dX9_meetOnce_204 : decode cX9_meetOnce 204 = .ok (.iaload, 1) := by decide +kernel
theorem dX9_meetOnce_205 : decode cX9_meetOnce 205 = .ok (.iconst 1, 1) := by decide +kernel
theorem dX9_meetOnce_206 : decode cX9_meetOnce 206 = .ok (.isub, 1) := by decide +kernel
theorem dX9_meetOnce_207 : decode cX9_meetOnce 207 = .ok (.iastore, 1) := by decide +kernel
theorem dX9_meetOnce_208 : decode cX9_meetOnce 208 = .ok (.aload_n 0, 1) := by decide +kernel
theorem dX9_meetOnce_209 : decode cX9_meetOnce 209 = .ok (.getfield 26, 3) := by decide +kernel
theorem dX9_meetOnce_212 : decode cX9_meetOnce 212 = .ok (.bipush 10, 2) := by decide +kernel
theorem dX9_meetOnce_214 : decode cX9_meetOnce 214 = .ok (.iload_n 2, 1) := by decide +kernel
theorem dX9_meetOnce_215 : decode cX9_meetOnce 215 = .ok (.imul, 1) := by decide +kernel
theorem dX9_meetOnce_216 : decode cX9_meetOnce 216 = .ok (.iload 4, 2) := by decide +kernel
theorem dX9_meetOnce_218 : decode cX9_meetOnce 218 = .ok (.iadd, 1) := by decide +kernel
theorem dX9_meetOnce_219 : decode cX9_meetOnce 219 = .ok (.dup2, 1) := by decide +kernel
theorem dX9_meetOnce_220 : decode cX9_meetOnce 220 = .ok (.iaload, 1) := by decide +kernel
theorem dX9_meetOnce_221 : decode cX9_meetOnce 221 = .ok (.iconst 1, 1) := by decide +kernel
theorem dX9_meetOnce_222 : decode cX9_meetOnce 222 = .ok (.iadd, 1) := by decide +kernel
theorem dX9_meetOnce_223 : decode cX9_meetOnce 223 = .ok (.iastore, 1) := by decide +kernel
theorem dX9_meetOnce_224 : decode cX9_meetOnce 224 = .ok (.aload_n 0, 1) := by decide +kernel
theorem dX9_meetOnce_225 : decode cX9_meetOnce 225 = .ok (.getfield 42, 3) := by decide +kernel
theorem dX9_meetOnce_228 : decode cX9_meetOnce 228 = .ok (.iconst 0, 1) := by decide +kernel
theorem dX9_meetOnce_229 : decode cX9_meetOnce 229 = .ok (.iload_n 1, 1) := by decide +kernel
theorem dX9_meetOnce_230 : decode cX9_meetOnce 230 = .ok (.iastore, 1) := by decide +kernel
theorem dX9_meetOnce_231 : decode cX9_meetOnce 231 = .ok (.aload_n 0, 1) := by decide +kernel
theorem dX9_meetOnce_232 : decode cX9_meetOnce 232 = .ok (.getfield 42, 3) := by decide +kernel
theorem dX9_meetOnce_235 : decode cX9_meetOnce 235 = .ok (.iconst 1, 1) := by decide +kernel
theorem dX9_meetOnce_236 : decode cX9_meetOnce 236 = .ok (.iload_n 2, 1) := by decide +kernel
theorem dX9_meetOnce_237 : decode cX9_meetOnce 237 = .ok (.iastore, 1) := by decide +kernel
theorem dX9_meetOnce_238 : decode cX9_meetOnce 238 = .ok (.aload_n 0, 1) := by decide +kernel
theorem dX9_meetOnce_239 : decode cX9_meetOnce 239 = .ok (.getfield 42, 3) := by decide +kernel
theorem dX9_meetOnce_242 : decode cX9_meetOnce 242 = .ok (.iconst 2, 1) := by decide +kernel
theorem dX9_meetOnce_243 : decode cX9_meetOnce 243 = .ok (.iload_n 3, 1) := by decide +kernel
theorem dX9_meetOnce_244 : decode cX9_meetOnce 244 = .ok (.ifCond .eq 7, 3) := by decide +kernel
theorem dX9_meetOnce_247 : decode cX9_meetOnce 247 = .ok (.iconst 1, 1) := by decide +kernel
theorem dX9_meetOnce_248 : decode cX9_meetOnce 248 = .ok (.goto 4, 3) := by decide +kernel
theorem dX9_meetOnce_251 : decode cX9_meetOnce 251 = .ok (.iconst 0, 1) := by decide +kernel
theorem dX9_meetOnce_252 : decode cX9_meetOnce 252 = .ok (.iastore, 1) := by decide +kernel
theorem dX9_meetOnce_253 : decode cX9_meetOnce 253 = .ok (.aload_n 0, 1) := by decide +kernel
theorem dX9_meetOnce_254 : decode cX9_meetOnce 254 = .ok (.getfield 42, 3) := by decide +kernel
theorem dX9_meetOnce_257 : decode cX9_meetOnce 257 = .ok (.iconst 3, 1) := by decide +kernel
theorem dX9_meetOnce_258 : decode cX9_meetOnce 258 = .ok (.iload 4, 2) := by decide +kernel
theorem dX9_meetOnce_260 : decode cX9_meetOnce 260 = .ok (.iastore, 1) := by decide +kernel
theorem dX9_meetOnce_261 : decode cX9_meetOnce 261 = .ok (.aload_n 0, 1) := by decide +kernel
theorem dX9_meetOnce_262 : decode cX9_meetOnce 262 = .ok (.dup, 1) := by decide +kernel
theorem dX9_meetOnce_263 : decode cX9_meetOnce 263 = .ok (.getfield 114, 3) := by decide +kernel
theorem dX9_meetOnce_266 : decode cX9_meetOnce 266 = .ok (.iconst 1, 1) := by decide +kernel
theorem dX9_meetOnce_267 : decode cX9_meetOnce 267 = .ok (.iadd, 1) := by decide +kernel
theorem dX9_meetOnce_268 : decode cX9_meetOnce 268 = .ok (.putfield 114, 3) := by decide +kernel
theorem dX9_meetOnce_271 : decode cX9_meetOnce 271 = .ok (.iload 4, 2) := by decide +kernel
theorem dX9_meetOnce_273 : decode cX9_meetOnce 273 = .ok (.ireturn, 1) := by decide +kernel
theorem iX9_meetOnce_9 : ∀ w ∈ wsX90, w ∈ wsX9_meetOnce := fun w h => List.mem_cons_of_mem _ (List.mem_append_right _ h)
theorem fX9_meetOnce_13 : FL mX9_meetOnce 13 9 4 := ⟨_, _, _, rfl, by decide, iX9_meetOnce_9, by decide +kernel⟩
theorem fX9_meetOnce_17 : FL mX9_meetOnce 17 9 5 := ⟨_, _, _, rfl, by decide, iX9_meetOnce_9, by decide +kernel⟩
theorem fX9_meetOnce_20 : FL mX9_meetOnce 20 9 6 := ⟨_, _, _, rfl, by decide, iX9_meetOnce_9, by decide +kernel⟩
theorem fX9_meetOnce_26 : FL mX9_meetOnce 26 9 13 := ⟨_, _, _, rfl, by decide, iX9_meetOnce_9, by decide +kernel⟩
theorem fX9_meetOnce_39 : FL mX9_meetOnce 39 9 17 := ⟨_, _, _, rfl, by decide, iX9_meetOnce_9, by decide +kernel⟩
theorem fX9_meetOnce_42 : FL mX9_meetOnce 42 9 18 := ⟨_, _, _, rfl, by decide, iX9_meetOnce_9, by decide +kernel⟩
theorem fX9_meetOnce_111 : FL mX9_meetOnce 111 9 3 := ⟨_, _, _, rfl, by decide, iX9_meetOnce_9, by decide +kernel⟩
theorem fX9_meetOnce_114 : FL mX9_meetOnce 114 9 19 := ⟨_, _, _, rfl, by decide, iX9_meetOnce_9, by decide +kernel⟩
theorem pX9_meetOnce_114 : FP mX9_meetOnce 114 9 19 .int false := ⟨_, _, _, tyX9, rfl, by decide, iX9_meetOnce_9, by decide +kernel, tyX9_ok, nmX9, rfl, rfl, fun z => absurd z (by decide)⟩
set_option maxRecDepth 20000 in
theorem ggX9_meetOnce_X9_draw : GoodIn wsX9_meetOnce wsX9_draw := goodIn_r _ [13, 14, 15, 16, 17, 18, 19, 20, 21, 22, 23, 24, 25, 26, 27, 28, 29, 30, 31, 32, 33, 34, 35, 36, 37, 38, 39, 40] (by decide +kernel) (by decide +kernel)
set_option maxRecDepth 20000 in
theorem gX9_meetOnce_X9_draw : GoodIn wsX9_meetOnce (wsV RX9 140 RX9 yX9_draw wsX9_draw) := goodIn_app (goodIn_of _ (by decide +kernel)) ggX9_meetOnce_X9_draw
theorem wX9_meetOnce_140 : CWV mX9_meetOnce 140 mX9_draw 1 := ⟨gX9_meetOnce_X9_draw, ⟨_, rfl⟩, rfl, by decide +kernel, by decide +kernel, by decide +kernel⟩
abbrev mX9_meet : mT := (yX9_meet, RX9, cX9_meet, 1, (some .int), wsX9_meet)
abbrev rX9_meet : Room := { frames := 2, cells := 0, slots := 0, locals := 47 }
theorem dX9_meet_0 : decode cX9_meet 0 = .ok (.aload_n 0, 1) := by decide +kernel
theorem dX9_meet_1 : decode cX9_meet 1 = .ok (.getfield 111, 3) := by decide +kernel
theorem dX9_meet_4 : decode cX9_meet 4 = .ok (.iconst 2, 1) := by decide +kernel
theorem dX9_meet_5 : decode cX9_meet 5 = .ok (.if_icmp .ge 8, 3) := by decide +kernel
theorem dX9_meet_8 : decode cX9_meet 8 = .ok (.bipush (-2), 2) := by decide +kernel
theorem dX9_meet_10 : decode cX9_meet 10 = .ok (.goto 7, 3) := by decide +kernel
theorem dX9_meet_13 : decode cX9_meet 13 = .ok (.aload_n 0, 1) := by decide +kernel
theorem dX9_meet_14 : decode cX9_meet 14 = .ok (.invokevirtual 143, 3) := by decide +kernel
theorem dX9_meet_17 : decode cX9_meet 17 = .ok (.ireturn, 1) := by decide +kernel
theorem iX9_meet_9 : ∀ w ∈ wsX90, w ∈ wsX9_meet := fun w h => List.mem_cons_of_mem _ (List.mem_append_right _ h)
theorem fX9_meet_111 : FL mX9_meet 111 9 3 := ⟨_, _, _, rfl, by decide, iX9_meet_9, by decide +kernel⟩
set_option maxRecDepth 20000 in
theorem ggX9_meet_X9_meetOnce : GoodIn wsX9_meet wsX9_meetOnce := goodIn_r _ [6, 1, 7, 8, 9, 10, 11, 12, 13, 14, 15, 16, 5, 17, 18, 19, 20, 21, 22, 23, 24, 25, 26, 27, 28, 29, 30, 31, 32, 33, 34, 35, 36, 37, 38, 39, 40, 41, 42, 43, 44] (by decide +kernel) (by decide +kernel)
set_option maxRecDepth 20000 in
theorem gX9_meet_X9_meetOnce : GoodIn wsX9_meet (wsV RX9 143 RX9 yX9_meetOnce wsX9_meetOnce) := goodIn_app (goodIn_of _ (by decide +kernel)) ggX9_meet_X9_meetOnce
theorem wX9_meet_143 : CWV mX9_meet 143 mX9_meetOnce 0 := ⟨gX9_meet_X9_meetOnce, ⟨_, rfl⟩, rfl, by decide +kernel, by decide +kernel, by decide +kernel⟩
abbrev mX9_run : mT := (yX9_run, RX9, cX9_run, 4, (some .int), wsX9_run)
abbrev rX9_run : Room := { frames := 2, cells := 0, slots := 0, locals := 47 }
theorem dX9_run_0 : decode cX9_run 0 = .ok (.iload_n 1, 1) := by decide +kernel
theorem dX9_run_1 : decode cX9_run 1 = .ok (.i2l, 1) := by decide +kernel
theorem dX9_run_2 : decode cX9_run 2 = .ok (.lconst 1, 1) := by decide +kernel
theorem dX9_run_3 : decode cX9_run 3 = .ok (.ldc2_w 146, 3) := by decide +kernel
theorem dX9_run_6 : decode cX9_run 6 = .ok (.invokestatic 60, 3) := by decide +kernel
theorem dX9_run_9 : decode cX9_run 9 = .ok (.ifCond .ne 5, 3) := by decide +kernel
theorem dX9_run_12 : decode cX9_run 12 = .ok (.iconst (-1), 1) := by decide +kernel
theorem dX9_run_13 : decode cX9_run 13 = .ok (.ireturn, 1) := by decide +kernel
theorem dX9_run_14 : decode cX9_run 14 = .ok (.aload_n 0, 1) := by decide +kernel
theorem dX9_run_15 : decode cX9_run 15 = .ok (.getfield 111, 3) := by decide +kernel
theorem dX9_run_18 : decode cX9_run 18 = .ok (.iconst 2, 1) := by decide +kernel
theorem dX9_run_19 : decode cX9_run 19 = .ok (.if_icmp .ge 6, 3) := by decide +kernel
theorem dX9_run_22 : decode cX9_run 22 = .ok (.bipush (-2), 2) := by decide +kernel
theorem dX9_run_24 : decode cX9_run 24 = .ok (.ireturn, 1) := by decide +kernel
theorem dX9_run_25 : decode cX9_run 25 = .ok (.iconst 0, 1) := by decide +kernel
theorem dX9_run_26 : decode cX9_run 26 = .ok (.istore_n 2, 1) := by decide +kernel
theorem dX9_run_27 : decode cX9_run 27 = .ok (.iconst 0, 1) := by decide +kernel
theorem dX9_run_28 : decode cX9_run 28 = .ok (.istore_n 3, 1) := by decide +kernel
theorem dX9_run_29 : decode cX9_run 29 = .ok (.iload_n 3, 1) := by decide +kernel
theorem dX9_run_30 : decode cX9_run 30 = .ok (.iload_n 1, 1) := by decide +kernel
theorem dX9_run_31 : decode cX9_run 31 = .ok (.if_icmp .ge 26, 3) := by decide +kernel
theorem dX9_run_34 : decode cX9_run 34 = .ok (.iload_n 2, 1) := by decide +kernel
theorem dX9_run_35 : decode cX9_run 35 = .ok (.aload_n 0, 1) := by decide +kernel
theorem dX9_run_36 : decode cX9_run 36 = .ok (.invokevirtual 143, 3) := by decide +kernel
theorem dX9_run_39 : decode cX9_run 39 = .ok (.bipush (-9), 2) := by decide +kernel
theorem dX9_run_41 : decode cX9_run 41 = .ok (.if_icmp .ne 7, 3) := by decide +kernel
theorem dX9_run_44 : decode cX9_run 44 = .ok (.iconst 0, 1) := by decide +kernel
theorem dX9_run_45 : decode cX9_run 45 = .ok (.goto 4, 3) := by decide +kernel
theorem dX9_run_48 : decode cX9_run 48 = .ok (.iconst 1, 1) := by decide +kernel
theorem dX9_run_49 : decode cX9_run 49 = .ok (.iadd, 1) := by decide +kernel
theorem dX9_run_50 : decode cX9_run 50 = .ok (.istore_n 2, 1) := by decide +kernel
theorem dX9_run_51 : decode cX9_run 51 = .ok (.iinc 3 1, 3) := by decide +kernel
theorem dX9_run_54 : decode cX9_run 54 = .ok (.goto (-25), 3) := by decide +kernel
theorem dX9_run_57 : decode cX9_run 57 = .ok (.iload_n 2, 1) := by decide +kernel
theorem dX9_run_58 : decode cX9_run 58 = .ok (.ireturn, 1) := by decide +kernel
theorem iX9_run_9 : ∀ w ∈ wsX90, w ∈ wsX9_run := fun w h => List.mem_cons_of_mem _ (List.mem_append_right _ h)
theorem fX9_run_111 : FL mX9_run 111 9 3 := ⟨_, _, _, rfl, by decide, iX9_run_9, by decide +kernel⟩
set_option maxRecDepth 20000 in
theorem ggX9_run_X9_in : GoodIn wsX9_run wsX9_in := goodIn_r _ [6] (by decide +kernel) (by decide +kernel)
set_option maxRecDepth 20000 in
theorem gX9_run_X9_in : GoodIn wsX9_run (va_wsS RX9 60 yX9_in wsX9_in) := goodIn_app (goodIn_of _ (by decide +kernel)) ggX9_run_X9_in
theorem wX9_run_60 : CWS mX9_run 60 mX9_in 3 := ⟨gX9_run_X9_in, ⟨_, rfl⟩, by decide +kernel, by decide +kernel, by decide +kernel⟩
set_option maxRecDepth 20000 in
theorem ggX9_run_X9_meetOnce : GoodIn wsX9_run wsX9_meetOnce := goodIn_r _ [10, 2, 11, 12, 13, 14, 15, 16, 17, 18, 19, 20, 5, 21, 22, 23, 24, 25, 26, 27, 28, 29, 30, 31, 32, 33, 34, 35, 36, 37, 38, 39, 40, 41, 42, 43, 44, 45, 46, 47, 48] (by decide +kernel) (by decide +kernel)
set_option maxRecDepth 20000 in
theorem gX9_run_X9_meetOnce : GoodIn wsX9_run (wsV RX9 143 RX9 yX9_meetOnce wsX9_meetOnce) := goodIn_app (goodIn_of _ (by decide +kernel)) ggX9_run_X9_meetOnce
theorem wX9_run_143 : CWV mX9_run 143 mX9_meetOnce 0 := ⟨gX9_run_X9_meetOnce, ⟨_, rfl⟩, rfl, by decide +kernel, by decide +kernel, by decide +kernel⟩
theorem inB_C (b : Nat) (a : Nat) {q : Int32} {A B : Int64} (ha : A = (nI a).toInt64) (hb : B = (nI b).toInt64) : inB q.toInt64 A B = (decide (nI a ≤ q) && decide (q ≤ nI b)) := inB_i ha hb
theorem inB_nI {a b j : Nat} {A B : Int64} (ha : A = (nI a).toInt64) (hb : B = (nI b).toInt64) (h1 : a ≤ j) (h2 : j ≤ b) (hb2 : b < 2 ^ 31) : inB (nI j).toInt64 A B = true := by
  rw [inB_i ha hb, Bool.and_eq_true, decide_eq_true_eq, decide_eq_true_eq]
  exact ⟨nI_le h1 (by omega), nI_le h2 hb2⟩
theorem inB_no {a b : Nat} {q : Int32} {A B : Int64} (ha : A = (nI a).toInt64) (hb : B = (nI b).toInt64) (h : q < nI a ∨ nI b < q) : inB q.toInt64 A B = false := by
  rw [inB_i ha hb, Bool.and_eq_false_iff, decide_eq_false_iff_not, decide_eq_false_iff_not]
  exact h.imp Int32.not_le.mpr Int32.not_le.mpr
/-- the found weight when k are looked at -/
def fdS (f : Nat → Int32) (p : Nat) (pay lm : Int32) (lk : Bool) : Nat → Int32
  | 0 => -9
  | k + 1 => if (0 < f (p * 10 + k) ∧ (lk = true → nI k ≤ lm)) ∧ (fdS f p pay lm lk k = -9 ∨ pay = 0) then nI k else fdS f p pay lm lk k
section
variable {Γ : gT} {l : Launch} {as : List Nat} {h : aH} {m : Nat} {tc : Int64} {r : Nat → Nat} {z : Nat → Int32} {n len lim : Nat} {f u w x y o bm lo mt : Nat → Int32}
theorem n_type_bad {vv : Int64} {q : Int32} (hb : q < 1 ∨ 8 < q) : Det Γ l mX9_type rX9_type [.ref m, .long vv, .int q] as h (some (.int (-1))) h := by
  refine Con.of (by decide +kernel) rfl rfl (Nat.le_of_ble_eq_true rfl) ?_
  refine q_iload_n dX9_type_0 rfl rfl ?_
  refine q_i2l dX9_type_1 ?_
  refine q_lconst (v := 1) dX9_type_2 rfl ?_
  refine q_ldc2 (v := 8) dX9_type_3 (by decide +kernel) ?_
  refine q_callSd dX9_type_6 wX9_type_60 (n_in) rfl rfl (Nat.le_of_ble_eq_true rfl) ⟨⟨Nat.le_of_ble_eq_true rfl, Nat.le_of_ble_eq_true rfl⟩, Nat.le_of_ble_eq_true rfl, Nat.le_of_ble_eq_true rfl⟩ ?_
  refine q_if_ne 14 dX9_type_9 (by decide) (fun z => absurd (by rw [inB_no (a := 1) (b := 8) (by decide) (by decide) hb]; rfl) z) (fun _ => ?_)
  refine q_iconst (v := (-1)) dX9_type_12 rfl ?_
  exact q_iret dX9_type_13 rfl (Nat.zero_le _) (Nat.zero_le _) (⟨rfl, rfl, rfl⟩)
theorem n_type_full {vv : Int64} {q : Nat} (hq0 : 1 ≤ q) (hq : q ≤ 8) (hM : hat as h m (mo tc r z)) (hl : z 2 = nI len) (hl3 : len ≤ 300) (hf : 300 < len + q) : Det Γ l mX9_type rX9_type [.ref m, .long vv, .int (nI q)] as h (some (.int (-3))) h := by
  refine Con.of (by decide +kernel) rfl rfl (Nat.le_of_ble_eq_true rfl) ?_
  refine q_iload_n dX9_type_0 rfl rfl ?_
  refine q_i2l dX9_type_1 ?_
  refine q_lconst (v := 1) dX9_type_2 rfl ?_
  refine q_ldc2 (v := 8) dX9_type_3 (by decide +kernel) ?_
  refine q_callSd dX9_type_6 wX9_type_60 (n_in) rfl rfl (Nat.le_of_ble_eq_true rfl) ⟨⟨Nat.le_of_ble_eq_true rfl, Nat.le_of_ble_eq_true rfl⟩, Nat.le_of_ble_eq_true rfl, Nat.le_of_ble_eq_true rfl⟩ ?_
  refine q_if_ne 14 dX9_type_9 (by decide) (fun _ => ?_) (fun z => absurd z (by rw [inB_nI (a := 1) (b := 8) (by decide) (by decide) hq0 hq (by omega)]; decide))
  refine q_aload_n dX9_type_14 rfl rfl ?_
  refine q_get dX9_type_15 fX9_type_64 (hM) rfl ?_
  refine q_iload_n dX9_type_18 rfl rfl ?_
  refine q_iadd dX9_type_19 ?_
  refine q_sipush (v := 300) dX9_type_20 rfl ?_
  rw [hl, nI_add]
  refine q_icmp_le 29 dX9_type_23 (by decide) (fun z => absurd z (nI_ge (a := 300) hf (by omega))) (fun _ => ?_)
  refine q_bipush (v := (-3)) dX9_type_26 rfl ?_
  exact q_iret dX9_type_28 rfl (Nat.zero_le _) (Nat.zero_le _) (⟨rfl, rfl, rfl⟩)
theorem n_type {vv : Int64} {q : Nat} (hq0 : 1 ≤ q) (hq : q ≤ 8) (hM : hat as h m (mo tc r z)) (hb : hat as h (r 1) (aB Γ 300 bm)) (hl : z 2 = nI len) (hf : len + q ≤ 300) : Det Γ l mX9_type rX9_type [.ref m, .long vv, .int (nI q)] as h (some (.int (nI (len + q)))) (hset (hset h (r 1) (aB Γ 300 (tyM bm len vv q q))) m (mo tc r (upd z 2 (nI (len + q))))) := by
  have e1 := hat_oa hM hb
  have key : ∀ (d c : Nat) (v4 : Int32) (ls : List (Nat × Value)) (h' : aH), c + d = q → v4 + 1 = nI (q - c) → h' = hset (hset h (r 1) (aB Γ 300 (tyM bm len vv q c))) m (mo tc r (upd z 2 (nI (len + c)))) → lin ls [(0, .ref m), (1, .long vv), (4, .int v4)] → V Γ l mX9_type rX9_type (Zm Γ rX9_type (qD (some (.int (nI (len + q)))) as (hset (hset h (r 1) (aB Γ 300 (tyM bm len vv q q))) m (mo tc r (upd z 2 (nI (len + q))))))) 0 0 34 ls [] as h' := by
    intro d
    induction d with
    | zero =>
      intro c v4 ls h' hc hv hh hll
      subst hh
      have e : v4 < 0 := (pred_lt (k := 0) hv (by omega) (by omega)).mpr (by omega)
      refine V.at ?_ hll
      refine q_iload dX9_type_34 rfl ?_
      refine q_if_lt 77 dX9_type_36 (by decide) (fun _ => ?_) (fun z => absurd (e) z)
      refine q_aload_n dX9_type_77 rfl rfl ?_
      refine q_get dX9_type_78 fX9_type_64 (hat_set (hat_ne hM e1)) rfl ?_
      exact q_iret dX9_type_81 rfl (Nat.zero_le _) (Nat.zero_le _) (⟨by rw [show c = q by omega]; rfl, rfl, by rw [show c = q by omega]⟩)
    | succ d ih =>
      intro c v4 ls h' hc hv hh hll
      subst hh
      have ez : v4 = nI (q - 1 - c) := pred_eq (by rw [hv]; congr 1; omega)
      subst ez
      refine V.at ?_ hll
      refine q_iload dX9_type_34 rfl ?_
      refine q_if_lt 77 dX9_type_36 (by decide) (fun z => absurd z (nI_pos (by omega))) (fun _ => ?_)
      refine q_aload_n dX9_type_39 rfl rfl ?_
      refine q_get dX9_type_40 fX9_type_7 (hat_set (hat_ne hM e1)) rfl ?_
      refine q_aload_n dX9_type_43 rfl rfl ?_
      refine q_get dX9_type_44 fX9_type_64 (hat_set (hat_ne hM e1)) rfl ?_
      refine q_lload_n dX9_type_47 rfl rfl ?_
      refine q_bipush (v := 8) dX9_type_48 rfl ?_
      refine q_iload dX9_type_50 rfl ?_
      refine q_imul dX9_type_52 ?_
      refine q_lshr dX9_type_53 ?_
      refine q_ldc2 (v := 255) dX9_type_54 (by decide +kernel) ?_
      refine q_land dX9_type_57 ?_
      refine q_l2i dX9_type_58 ?_
      refine q_i2b dX9_type_59 ?_
      refine q_bast dX9_type_60 (hat_ne (hat_set hb) e1.symm) (in_nI (show len + c < 300 by omega) (by omega)) ?_
      refine q_aload_n dX9_type_61 rfl rfl ?_
      refine q_dup dX9_type_62 rfl ?_
      refine q_get dX9_type_63 fX9_type_64 (hat_ne (hat_set (hat_ne hM e1)) e1) rfl ?_
      refine q_iconst (v := 1) dX9_type_66 rfl ?_
      refine q_iadd dX9_type_67 ?_
      refine q_put dX9_type_68 pX9_type_64 (hat_ne (hat_set (hat_ne hM e1)) e1) rfl rfl (Nat.le_of_ble_eq_true rfl) ?_
      refine q_iincM dX9_type_71 rfl (by decide) ?_
      refine q_goto 34 dX9_type_74 (by decide) ?_
      exact ih (c + 1) _ _ _ (by omega) (by rw [m1p1]; congr 1; omega) (by rw [hset4 e1.symm, show (upd z 2 (nI (len + c)) 2).toNatClampNeg = len + c from nI_clamp (n := len + c) (by omega)]; show hset (hset h (r 1) (aB Γ 300 (tyM bm len vv q (c + 1)))) m (mo tc r (upd (upd z 2 (nI (len + c))) 2 (nI (len + c) + 1))) = _; rw [upd_upd, nI_s]; rfl) ⟨rfl, rfl, rfl, trivial⟩
  refine Con.of (by decide +kernel) rfl rfl (Nat.le_of_ble_eq_true rfl) ?_
  refine q_iload_n dX9_type_0 rfl rfl ?_
  refine q_i2l dX9_type_1 ?_
  refine q_lconst (v := 1) dX9_type_2 rfl ?_
  refine q_ldc2 (v := 8) dX9_type_3 (by decide +kernel) ?_
  refine q_callSd dX9_type_6 wX9_type_60 (n_in) rfl rfl (Nat.le_of_ble_eq_true rfl) ⟨⟨Nat.le_of_ble_eq_true rfl, Nat.le_of_ble_eq_true rfl⟩, Nat.le_of_ble_eq_true rfl, Nat.le_of_ble_eq_true rfl⟩ ?_
  refine q_if_ne 14 dX9_type_9 (by decide) (fun _ => ?_) (fun z => absurd z (by rw [inB_nI (a := 1) (b := 8) (by decide) (by decide) hq0 hq (by omega)]; decide))
  refine q_aload_n dX9_type_14 rfl rfl ?_
  refine q_get dX9_type_15 fX9_type_64 (hM) rfl ?_
  refine q_iload_n dX9_type_18 rfl rfl ?_
  refine q_iadd dX9_type_19 ?_
  refine q_sipush (v := 300) dX9_type_20 rfl ?_
  rw [hl, nI_add]
  refine q_icmp_le 29 dX9_type_23 (by decide) (fun _ => ?_) (fun z => absurd (nI_le (b := 300) hf (by omega)) z)
  refine q_iload_n dX9_type_29 rfl rfl ?_
  refine q_iconst (v := 1) dX9_type_30 rfl ?_
  refine q_isub dX9_type_31 ?_
  refine q_istore dX9_type_32 (by decide) ?_
  exact key q 0 _ _ _ (by omega) (Int32.sub_add_cancel _ _) (by rw [show tyM bm len vv q 0 = bm from rfl, hset_same hb.2]; refine (hset_same ?_).symm; rw [hM.2, Nat.add_zero, ← hl]; rfl) ⟨rfl, rfl, rfl, trivial⟩
theorem n_coins_bad {p q : Int32} (hb : isW q = false ∨ (¬ p = -1 ∧ isP n p = false)) (hM : hat as h m (mo tc r z)) (hn : z 3 = nI n) (hn8 : n ≤ 8) : Det Γ l mX9_coins rX9_coins [.ref m, .int p, .int q] as h (some (.int (-1))) h := by
  refine Con.of (by decide +kernel) rfl rfl (Nat.le_of_ble_eq_true rfl) ?_
  refine q_iload_n dX9_coins_0 rfl rfl ?_
  refine q_i2l dX9_coins_1 ?_
  refine q_ldc2 (v := (-1)) dX9_coins_2 (by decide +kernel) ?_
  refine q_aload_n dX9_coins_5 rfl rfl ?_
  refine q_get dX9_coins_6 fX9_coins_111 (hM) rfl ?_
  refine q_iconst (v := 1) dX9_coins_9 rfl ?_
  refine q_isub dX9_coins_10 ?_
  refine q_i2l dX9_coins_11 ?_
  refine q_callSd dX9_coins_12 wX9_coins_60 (n_in) rfl rfl (Nat.le_of_ble_eq_true rfl) ⟨⟨Nat.le_of_ble_eq_true rfl, Nat.le_of_ble_eq_true rfl⟩, Nat.le_of_ble_eq_true rfl, Nat.le_of_ble_eq_true rfl⟩ ?_
  refine q_if_eq 30 dX9_coins_15 (by decide) (fun cA => ?_) (fun cA => ?_)
  · refine q_iconst (v := (-1)) dX9_coins_30 rfl ?_
    exact q_iret dX9_coins_31 rfl (Nat.zero_le _) (Nat.zero_le _) (⟨rfl, rfl, rfl⟩)
  · refine q_iload_n dX9_coins_18 rfl rfl ?_
    refine q_i2l dX9_coins_19 ?_
    refine q_lconst (v := 0) dX9_coins_20 rfl ?_
    refine q_ldc2 (v := 9) dX9_coins_21 (by decide +kernel) ?_
    refine q_callSd dX9_coins_24 wX9_coins_60 (n_in) rfl rfl (Nat.le_of_ble_eq_true rfl) ⟨⟨Nat.le_of_ble_eq_true rfl, Nat.le_of_ble_eq_true rfl⟩, Nat.le_of_ble_eq_true rfl, Nat.le_of_ble_eq_true rfl⟩ ?_
    rw [inB_W]
    refine q_if_ne 32 dX9_coins_27 (by decide) (fun cB => ?_) (fun cB => ?_)
    · exact absurd hb (by
          rintro (e | e)
          · exact cB (by rw [e]; rfl)
          · rw [hn, inB_i (a := -1) (b := nI n - 1) (by decide) rfl] at cA
            have h1 := bI_n.mp cA
            rw [Bool.and_eq_true, decide_eq_true_eq, decide_eq_true_eq] at h1
            refine absurd e.2 (by
              rw [← inB_P hn8, inB_i (a := 0) (b := nI n - 1) (by decide) rfl, Bool.and_eq_false_iff, decide_eq_false_iff_not, decide_eq_false_iff_not]
              rintro (g | g)
              · refine g ?_
                have h2 := h1.1
                rw [Int32.le_iff_toInt_le] at h2 ⊢
                have e1 : (-1 : Int32).toInt = -1 := by decide
                have e2 : (0 : Int32).toInt = 0 := by decide
                have e3 : p.toInt ≠ -1 := fun q => e.1 (Int32.toInt_inj.mp (q.trans e1.symm))
                omega
              · exact g h1.2))
    · refine q_iconst (v := (-1)) dX9_coins_30 rfl ?_
      exact q_iret dX9_coins_31 rfl (Nat.zero_le _) (Nat.zero_le _) (⟨rfl, rfl, rfl⟩)
theorem n_coins_all {q : Nat} (hq : q < 10) (hM : hat as h m (mo tc r z)) (hn : z 3 = nI n) (hn8 : n ≤ 8) (hf : hat as h (r 13) (aI Γ 240 f)) (hz : zro n f) : Det Γ l mX9_coins rX9_coins [.ref m, .int (-1), .int (nI q)] as h (some (.int (pWt f q))) h := by
  have e : inB (-1 : Int32).toInt64 (-1) (nI n - 1).toInt64 = true := by
    rw [inB_i (a := -1) (b := nI n - 1) (by decide) rfl, Bool.and_eq_true, decide_eq_true_eq, decide_eq_true_eq]
    refine ⟨Int32.le_refl _, ?_⟩
    rw [Int32.le_iff_toInt_le, show nI n - 1 = nI n - nI 1 from rfl, pk_sub_toInt (by omega) (by omega)]
    have e1 : (-1 : Int32).toInt = -1 := by decide
    omega
  refine Con.of (by decide +kernel) rfl rfl (Nat.le_of_ble_eq_true rfl) ?_
  refine q_iload_n dX9_coins_0 rfl rfl ?_
  refine q_i2l dX9_coins_1 ?_
  refine q_ldc2 (v := (-1)) dX9_coins_2 (by decide +kernel) ?_
  refine q_aload_n dX9_coins_5 rfl rfl ?_
  refine q_get dX9_coins_6 fX9_coins_111 (hM) rfl ?_
  refine q_iconst (v := 1) dX9_coins_9 rfl ?_
  refine q_isub dX9_coins_10 ?_
  refine q_i2l dX9_coins_11 ?_
  refine q_callSd dX9_coins_12 wX9_coins_60 (n_in) rfl rfl (Nat.le_of_ble_eq_true rfl) ⟨⟨Nat.le_of_ble_eq_true rfl, Nat.le_of_ble_eq_true rfl⟩, Nat.le_of_ble_eq_true rfl, Nat.le_of_ble_eq_true rfl⟩ ?_
  refine q_if_eq 30 dX9_coins_15 (by decide) (fun z => absurd z (by rw [hn, e]; decide)) (fun _ => ?_)
  refine q_iload_n dX9_coins_18 rfl rfl ?_
  refine q_i2l dX9_coins_19 ?_
  refine q_lconst (v := 0) dX9_coins_20 rfl ?_
  refine q_ldc2 (v := 9) dX9_coins_21 (by decide +kernel) ?_
  refine q_callSd dX9_coins_24 wX9_coins_60 (n_in) rfl rfl (Nat.le_of_ble_eq_true rfl) ⟨⟨Nat.le_of_ble_eq_true rfl, Nat.le_of_ble_eq_true rfl⟩, Nat.le_of_ble_eq_true rfl, Nat.le_of_ble_eq_true rfl⟩ ?_
  rw [inB_W]
  refine q_if_ne 32 dX9_coins_27 (by decide) (fun _ => ?_) (fun z => absurd z (by rw [isW_nI hq]; decide))
  refine q_iload_n dX9_coins_32 rfl rfl ?_
  refine q_if_ge 44 dX9_coins_33 (by decide) (fun z => absurd z ((by decide))) (fun _ => ?_)
  refine q_aload_n dX9_coins_36 rfl rfl ?_
  refine q_iload_n dX9_coins_37 rfl rfl ?_
  refine q_callVd dX9_coins_38 wX9_coins_131 (n_ofAll hq hM hn hn8 hf hz) (hM) ⟨_, _, rfl⟩ rfl rfl (Nat.le_of_ble_eq_true rfl) ⟨⟨Nat.le_of_ble_eq_true rfl, Nat.le_of_ble_eq_true rfl⟩, Nat.le_of_ble_eq_true rfl, Nat.le_of_ble_eq_true rfl⟩ ?_
  refine q_goto 55 dX9_coins_41 (by decide) ?_
  exact q_iret dX9_coins_55 rfl (Nat.zero_le _) (Nat.zero_le _) (⟨rfl, rfl, rfl⟩)
theorem n_coins {p q : Nat} (hp : p < n) (hn8 : n ≤ 8) (hq : q < 10) (hM : hat as h m (mo tc r z)) (hn : z 3 = nI n) (hf : hat as h (r 13) (aI Γ 240 f)) : Det Γ l mX9_coins rX9_coins [.ref m, .int (nI p), .int (nI q)] as h (some (.int (f (p * 10 + q)))) h := by
  have e : inB (nI p).toInt64 (-1) (nI n - 1).toInt64 = true := by
    rw [inB_i (a := -1) (b := nI n - 1) (by decide) rfl, Bool.and_eq_true, decide_eq_true_eq, decide_eq_true_eq]
    refine ⟨?_, ?_⟩
    · rw [Int32.le_iff_toInt_le, nI_toInt (by omega)]
      have e1 : (-1 : Int32).toInt = -1 := by decide
      omega
    · rw [Int32.le_iff_toInt_le, show (1 : Int32) = nI 1 from rfl, pk_sub_toInt (by omega) (by omega), nI_toInt (by omega)]
      omega
  refine Con.of (by decide +kernel) rfl rfl (Nat.le_of_ble_eq_true rfl) ?_
  refine q_iload_n dX9_coins_0 rfl rfl ?_
  refine q_i2l dX9_coins_1 ?_
  refine q_ldc2 (v := (-1)) dX9_coins_2 (by decide +kernel) ?_
  refine q_aload_n dX9_coins_5 rfl rfl ?_
  refine q_get dX9_coins_6 fX9_coins_111 (hM) rfl ?_
  refine q_iconst (v := 1) dX9_coins_9 rfl ?_
  refine q_isub dX9_coins_10 ?_
  refine q_i2l dX9_coins_11 ?_
  refine q_callSd dX9_coins_12 wX9_coins_60 (n_in) rfl rfl (Nat.le_of_ble_eq_true rfl) ⟨⟨Nat.le_of_ble_eq_true rfl, Nat.le_of_ble_eq_true rfl⟩, Nat.le_of_ble_eq_true rfl, Nat.le_of_ble_eq_true rfl⟩ ?_
  refine q_if_eq 30 dX9_coins_15 (by decide) (fun z => absurd z (by rw [hn, e]; decide)) (fun _ => ?_)
  refine q_iload_n dX9_coins_18 rfl rfl ?_
  refine q_i2l dX9_coins_19 ?_
  refine q_lconst (v := 0) dX9_coins_20 rfl ?_
  refine q_ldc2 (v := 9) dX9_coins_21 (by decide +kernel) ?_
  refine q_callSd dX9_coins_24 wX9_coins_60 (n_in) rfl rfl (Nat.le_of_ble_eq_true rfl) ⟨⟨Nat.le_of_ble_eq_true rfl, Nat.le_of_ble_eq_true rfl⟩, Nat.le_of_ble_eq_true rfl, Nat.le_of_ble_eq_true rfl⟩ ?_
  rw [inB_W]
  refine q_if_ne 32 dX9_coins_27 (by decide) (fun _ => ?_) (fun z => absurd z (by rw [isW_nI hq]; decide))
  refine q_iload_n dX9_coins_32 rfl rfl ?_
  refine q_if_ge 44 dX9_coins_33 (by decide) (fun _ => ?_) (fun z => absurd (nI_pos' (by omega)) z)
  refine q_aload_n dX9_coins_44 rfl rfl ?_
  refine q_get dX9_coins_45 fX9_coins_26 (hM) rfl ?_
  refine q_bipush (v := 10) dX9_coins_48 rfl ?_
  refine q_iload_n dX9_coins_50 rfl rfl ?_
  refine q_imul dX9_coins_51 ?_
  refine q_iload_n dX9_coins_52 rfl rfl ?_
  refine q_iadd dX9_coins_53 ?_
  refine q_iald dX9_coins_54 (hf) (inM (show p < 8 by omega) hq) ?_
  exact q_iret dX9_coins_55 rfl (Nat.zero_le _) (Nat.zero_le _) (⟨by rw [clM (by omega) hq], rfl, rfl⟩)
theorem n_highOf {j : Nat} (hj : j < 6) : Det Γ l mX9_highOf rX9_highOf [.int (nI j)] as h (some (.int (tuM j))) h := by
  refine Con.of (by decide +kernel) rfl rfl (Nat.le_of_ble_eq_true rfl) ?_
  rcases (show j = 0 ∨ j = 1 ∨ j = 2 ∨ j = 3 ∨ j = 4 ∨ j = 5 by omega) with rfl | rfl | rfl | rfl | rfl | rfl
  · skip
    refine q_iload_n dX9_highOf_0 rfl rfl ?_
    refine q_if_ne 9 dX9_highOf_1 (by decide) (fun z => absurd (rfl) z) (fun _ => ?_)
    refine q_bipush (v := 9) dX9_highOf_4 rfl ?_
    refine q_goto 31 dX9_highOf_6 (by decide) ?_
    exact q_iret dX9_highOf_31 rfl (Nat.zero_le _) (Nat.zero_le _) (⟨rfl, rfl, rfl⟩)
  · skip
    refine q_iload_n dX9_highOf_0 rfl rfl ?_
    refine q_if_ne 9 dX9_highOf_1 (by decide) (fun _ => ?_) (fun z => absurd z ((by decide)))
    refine q_iload_n dX9_highOf_9 rfl rfl ?_
    refine q_iconst (v := 3) dX9_highOf_10 rfl ?_
    refine q_icmp_ne 19 dX9_highOf_11 (by decide) (fun _ => ?_) (fun z => absurd z ((by decide)))
    refine q_iload_n dX9_highOf_19 rfl rfl ?_
    refine q_iconst (v := 4) dX9_highOf_20 rfl ?_
    refine q_icmp_ne 29 dX9_highOf_21 (by decide) (fun _ => ?_) (fun z => absurd z ((by decide)))
    refine q_bipush (v := 99) dX9_highOf_29 rfl ?_
    exact q_iret dX9_highOf_31 rfl (Nat.zero_le _) (Nat.zero_le _) (⟨rfl, rfl, rfl⟩)
  · skip
    refine q_iload_n dX9_highOf_0 rfl rfl ?_
    refine q_if_ne 9 dX9_highOf_1 (by decide) (fun _ => ?_) (fun z => absurd z ((by decide)))
    refine q_iload_n dX9_highOf_9 rfl rfl ?_
    refine q_iconst (v := 3) dX9_highOf_10 rfl ?_
    refine q_icmp_ne 19 dX9_highOf_11 (by decide) (fun _ => ?_) (fun z => absurd z ((by decide)))
    refine q_iload_n dX9_highOf_19 rfl rfl ?_
    refine q_iconst (v := 4) dX9_highOf_20 rfl ?_
    refine q_icmp_ne 29 dX9_highOf_21 (by decide) (fun _ => ?_) (fun z => absurd z ((by decide)))
    refine q_bipush (v := 99) dX9_highOf_29 rfl ?_
    exact q_iret dX9_highOf_31 rfl (Nat.zero_le _) (Nat.zero_le _) (⟨rfl, rfl, rfl⟩)
  · skip
    refine q_iload_n dX9_highOf_0 rfl rfl ?_
    refine q_if_ne 9 dX9_highOf_1 (by decide) (fun _ => ?_) (fun z => absurd z ((by decide)))
    refine q_iload_n dX9_highOf_9 rfl rfl ?_
    refine q_iconst (v := 3) dX9_highOf_10 rfl ?_
    refine q_icmp_ne 19 dX9_highOf_11 (by decide) (fun z => absurd (rfl) z) (fun _ => ?_)
    refine q_bipush (v := 10) dX9_highOf_14 rfl ?_
    refine q_goto 31 dX9_highOf_16 (by decide) ?_
    exact q_iret dX9_highOf_31 rfl (Nat.zero_le _) (Nat.zero_le _) (⟨rfl, rfl, rfl⟩)
  · skip
    refine q_iload_n dX9_highOf_0 rfl rfl ?_
    refine q_if_ne 9 dX9_highOf_1 (by decide) (fun _ => ?_) (fun z => absurd z ((by decide)))
    refine q_iload_n dX9_highOf_9 rfl rfl ?_
    refine q_iconst (v := 3) dX9_highOf_10 rfl ?_
    refine q_icmp_ne 19 dX9_highOf_11 (by decide) (fun _ => ?_) (fun z => absurd z ((by decide)))
    refine q_iload_n dX9_highOf_19 rfl rfl ?_
    refine q_iconst (v := 4) dX9_highOf_20 rfl ?_
    refine q_icmp_ne 29 dX9_highOf_21 (by decide) (fun z => absurd (rfl) z) (fun _ => ?_)
    refine q_bipush (v := 20) dX9_highOf_24 rfl ?_
    refine q_goto 31 dX9_highOf_26 (by decide) ?_
    exact q_iret dX9_highOf_31 rfl (Nat.zero_le _) (Nat.zero_le _) (⟨rfl, rfl, rfl⟩)
  · skip
    refine q_iload_n dX9_highOf_0 rfl rfl ?_
    refine q_if_ne 9 dX9_highOf_1 (by decide) (fun _ => ?_) (fun z => absurd z ((by decide)))
    refine q_iload_n dX9_highOf_9 rfl rfl ?_
    refine q_iconst (v := 3) dX9_highOf_10 rfl ?_
    refine q_icmp_ne 19 dX9_highOf_11 (by decide) (fun _ => ?_) (fun z => absurd z ((by decide)))
    refine q_iload_n dX9_highOf_19 rfl rfl ?_
    refine q_iconst (v := 4) dX9_highOf_20 rfl ?_
    refine q_icmp_ne 29 dX9_highOf_21 (by decide) (fun _ => ?_) (fun z => absurd z ((by decide)))
    refine q_bipush (v := 99) dX9_highOf_29 rfl ?_
    exact q_iret dX9_highOf_31 rfl (Nat.zero_le _) (Nat.zero_le _) (⟨rfl, rfl, rfl⟩)
theorem n_tune_bad {p q : Int32} (hb : p < 0 ∨ 5 < p) : Det Γ l mX9_tune rX9_tune [.ref m, .int p, .int q] as h (some (.int (-1))) h := by
  refine Con.of (by decide +kernel) rfl rfl (Nat.le_of_ble_eq_true rfl) ?_
  refine q_iload_n dX9_tune_0 rfl rfl ?_
  refine q_i2l dX9_tune_1 ?_
  refine q_lconst (v := 0) dX9_tune_2 rfl ?_
  refine q_ldc2 (v := 5) dX9_tune_3 (by decide +kernel) ?_
  refine q_callSd dX9_tune_6 wX9_tune_60 (n_in) rfl rfl (Nat.le_of_ble_eq_true rfl) ⟨⟨Nat.le_of_ble_eq_true rfl, Nat.le_of_ble_eq_true rfl⟩, Nat.le_of_ble_eq_true rfl, Nat.le_of_ble_eq_true rfl⟩ ?_
  refine q_if_eq 35 dX9_tune_9 (by decide) (fun _ => ?_) (fun z => absurd (by rw [inB_no (a := 0) (b := 5) (by decide) (by decide) hb]; rfl) z)
  refine q_iconst (v := (-1)) dX9_tune_35 rfl ?_
  exact q_iret dX9_tune_36 rfl (Nat.zero_le _) (Nat.zero_le _) (⟨rfl, rfl, rfl⟩)
theorem n_tune {j : Nat} {q : Int32} (hj : j < 6) (hM : hat as h m (mo tc r z)) (hu : hat as h (r 17) (aI Γ 6 u)) : Det Γ l mX9_tune rX9_tune [.ref m, .int (nI j), .int q] as h (some (.int (if tuL j ≤ q ∧ q ≤ tuM j then u j else -1))) (if tuL j ≤ q ∧ q ≤ tuM j then hset h (r 17) (aI Γ 6 (upd u j q)) else h) := by
  have hj31 : j < 2 ^ 31 := by omega
  have tail : ∀ b : Bool, b = decide (tuL j ≤ q ∧ q ≤ tuM j) → V Γ l mX9_tune rX9_tune (Zm Γ rX9_tune (qD (some (.int (if tuL j ≤ q ∧ q ≤ tuM j then u j else -1))) as (if tuL j ≤ q ∧ q ≤ tuM j then hset h (r 17) (aI Γ 6 (upd u j q)) else h))) 0 0 32 [(0, .ref m), (1, .int (nI j)), (2, .int q)] [.int (bI b)] as h := by
    intro b hb
    refine q_if_ne 37 dX9_tune_32 (by decide) (fun cA => ?_) (fun cA => ?_)
    · have hc : tuL j ≤ q ∧ q ≤ tuM j := of_decide_eq_true (hb.symm.trans (bI_n.mp cA))
      rw [if_pos hc, if_pos hc]
      refine q_aload_n dX9_tune_37 rfl rfl ?_
      refine q_get dX9_tune_38 fX9_tune_39 (hM) rfl ?_
      refine q_iload_n dX9_tune_41 rfl rfl ?_
      refine q_iald dX9_tune_42 (hu) (in_nI hj (by omega)) ?_
      refine q_istore_n dX9_tune_43 rfl (by decide) ?_
      refine q_aload_n dX9_tune_44 rfl rfl ?_
      refine q_get dX9_tune_45 fX9_tune_39 (hM) rfl ?_
      refine q_iload_n dX9_tune_48 rfl rfl ?_
      refine q_iload_n dX9_tune_49 rfl rfl ?_
      refine q_iast dX9_tune_50 (hu) (in_nI hj (by omega)) ?_
      refine q_iload_n dX9_tune_51 rfl rfl ?_
      exact q_iret dX9_tune_52 rfl (Nat.zero_le _) (Nat.zero_le _) (⟨by rw [nI_clamp hj31], rfl, by rw [nI_clamp hj31]⟩)
    · have hc : ¬ (tuL j ≤ q ∧ q ≤ tuM j) := of_decide_eq_false (hb.symm.trans (bI_0.mp cA))
      rw [if_neg hc, if_neg hc]
      refine q_iconst (v := (-1)) dX9_tune_35 rfl ?_
      exact q_iret dX9_tune_36 rfl (Nat.zero_le _) (Nat.zero_le _) (⟨rfl, rfl, rfl⟩)
  refine Con.of (by decide +kernel) rfl rfl (Nat.le_of_ble_eq_true rfl) ?_
  refine q_iload_n dX9_tune_0 rfl rfl ?_
  refine q_i2l dX9_tune_1 ?_
  refine q_lconst (v := 0) dX9_tune_2 rfl ?_
  refine q_ldc2 (v := 5) dX9_tune_3 (by decide +kernel) ?_
  refine q_callSd dX9_tune_6 wX9_tune_60 (n_in) rfl rfl (Nat.le_of_ble_eq_true rfl) ⟨⟨Nat.le_of_ble_eq_true rfl, Nat.le_of_ble_eq_true rfl⟩, Nat.le_of_ble_eq_true rfl, Nat.le_of_ble_eq_true rfl⟩ ?_
  refine q_if_eq 35 dX9_tune_9 (by decide) (fun z => absurd z (by rw [inB_nI (a := 0) (b := 5) (by decide) (by decide) (by omega) (by omega) (by omega)]; decide)) (fun _ => ?_)
  refine q_iload_n dX9_tune_12 rfl rfl ?_
  refine q_i2l dX9_tune_13 ?_
  refine q_iload_n dX9_tune_14 rfl rfl ?_
  refine q_iconst (v := 5) dX9_tune_15 rfl ?_
  refine q_icmp_ne 23 dX9_tune_16 (by decide) (fun cE => ?_) (fun cE => ?_)
  · refine q_lconst (v := 0) dX9_tune_23 rfl ?_
    refine q_iload_n dX9_tune_24 rfl rfl ?_
    refine q_callSd dX9_tune_25 wX9_tune_136 (n_highOf hj) rfl rfl (Nat.le_of_ble_eq_true rfl) ⟨⟨Nat.le_of_ble_eq_true rfl, Nat.le_of_ble_eq_true rfl⟩, Nat.le_of_ble_eq_true rfl, Nat.le_of_ble_eq_true rfl⟩ ?_
    refine q_i2l dX9_tune_28 ?_
    refine q_callSd dX9_tune_29 wX9_tune_60 (n_in) rfl rfl (Nat.le_of_ble_eq_true rfl) ⟨⟨Nat.le_of_ble_eq_true rfl, Nat.le_of_ble_eq_true rfl⟩, Nat.le_of_ble_eq_true rfl, Nat.le_of_ble_eq_true rfl⟩ ?_
    refine V.at (tail _ ?_) ⟨rfl, rfl, rfl, trivial⟩
    rw [Bool.decide_and]
    first
    | (have h5 : j = 5 := (nI_eq (b := 5) hj31 (by omega)).mp cE; subst h5; exact inB_i (a := tuL 5) (b := tuM 5) (by decide) rfl)
    | (have h5 : ¬ j = 5 := fun e => cE (by rw [e]; rfl); refine inB_i (a := tuL j) (b := tuM j) ?_ rfl; rcases (show j = 0 ∨ j = 1 ∨ j = 2 ∨ j = 3 ∨ j = 4 by omega) with rfl | rfl | rfl | rfl | rfl <;> decide)
  · refine q_lconst (v := 1) dX9_tune_19 rfl ?_
    refine q_goto 24 dX9_tune_20 (by decide) ?_
    refine q_iload_n dX9_tune_24 rfl rfl ?_
    refine q_callSd dX9_tune_25 wX9_tune_136 (n_highOf hj) rfl rfl (Nat.le_of_ble_eq_true rfl) ⟨⟨Nat.le_of_ble_eq_true rfl, Nat.le_of_ble_eq_true rfl⟩, Nat.le_of_ble_eq_true rfl, Nat.le_of_ble_eq_true rfl⟩ ?_
    refine q_i2l dX9_tune_28 ?_
    refine q_callSd dX9_tune_29 wX9_tune_60 (n_in) rfl rfl (Nat.le_of_ble_eq_true rfl) ⟨⟨Nat.le_of_ble_eq_true rfl, Nat.le_of_ble_eq_true rfl⟩, Nat.le_of_ble_eq_true rfl, Nat.le_of_ble_eq_true rfl⟩ ?_
    refine V.at (tail _ ?_) ⟨rfl, rfl, rfl, trivial⟩
    rw [Bool.decide_and]
    first
    | (have h5 : j = 5 := (nI_eq (b := 5) hj31 (by omega)).mp cE; subst h5; exact inB_i (a := tuL 5) (b := tuM 5) (by decide) rfl)
    | (have h5 : ¬ j = 5 := fun e => cE (by rw [e]; rfl); refine inB_i (a := tuL j) (b := tuM j) ?_ rfl; rcases (show j = 0 ∨ j = 1 ∨ j = 2 ∨ j = 3 ∨ j = 4 by omega) with rfl | rfl | rfl | rfl | rfl <;> decide)
theorem n_lot {q : Int32} (hM : hat as h m (mo tc r z)) (hl : hat as h (r 14) (aI Γ 3 lo)) : Det Γ l mX9_lot rX9_lot [.ref m, .int q] as h (some (.int (lo 0))) (hset h (r 14) (aI Γ 3 (upd lo 0 q))) := by
  refine Con.of (by decide +kernel) rfl rfl (Nat.le_of_ble_eq_true rfl) ?_
  refine q_aload_n dX9_lot_0 rfl rfl ?_
  refine q_get dX9_lot_1 fX9_lot_29 (hM) rfl ?_
  refine q_iconst (v := 0) dX9_lot_4 rfl ?_
  refine q_iald dX9_lot_5 (hl) (in_nI (k := 0) (by omega) (by omega)) ?_
  refine q_istore_n dX9_lot_6 rfl (by decide) ?_
  refine q_aload_n dX9_lot_7 rfl rfl ?_
  refine q_get dX9_lot_8 fX9_lot_29 (hM) rfl ?_
  refine q_iconst (v := 0) dX9_lot_11 rfl ?_
  refine q_iload_n dX9_lot_12 rfl rfl ?_
  refine q_iast dX9_lot_13 (hl) (in_nI (k := 0) (by omega) (by omega)) ?_
  refine q_iload_n dX9_lot_14 rfl rfl ?_
  exact q_iret dX9_lot_15 rfl (Nat.zero_le _) (Nat.zero_le _) (⟨rfl, rfl, rfl⟩)
theorem n_draw {k : Nat} (hk : 0 < k) (hk2 : k < 2 ^ 31) (hM : hat as h m (mo tc r z)) (hl : hat as h (r 14) (aI Γ 3 lo)) : Det Γ l mX9_draw rX9_draw [.ref m, .int (nI k)] as h (some (.int (nI (drw (lotN (lo 0)) % k)))) (hset h (r 14) (aI Γ 3 (upd lo 0 (lotN (lo 0))))) := by
  have e1 := hat_oa hM hl
  have b1 : drw (lotN (lo 0)) < 2 ^ 31 := Nat.lt_of_lt_of_le (drw_lt _) (by decide)
  refine Con.of (by decide +kernel) rfl rfl (Nat.le_of_ble_eq_true rfl) ?_
  refine q_aload_n dX9_draw_0 rfl rfl ?_
  refine q_get dX9_draw_1 fX9_draw_29 (hM) rfl ?_
  refine q_iconst (v := 0) dX9_draw_4 rfl ?_
  refine q_aload_n dX9_draw_5 rfl rfl ?_
  refine q_get dX9_draw_6 fX9_draw_29 (hM) rfl ?_
  refine q_iconst (v := 0) dX9_draw_9 rfl ?_
  refine q_iald dX9_draw_10 (hl) (in_nI (k := 0) (by omega) (by omega)) ?_
  refine q_ldc (v := 1103515245) dX9_draw_11 (by decide +kernel) ?_
  refine q_imul dX9_draw_13 ?_
  refine q_sipush (v := 12345) dX9_draw_14 rfl ?_
  refine q_iadd dX9_draw_17 ?_
  refine q_iast dX9_draw_18 (hl) (in_nI (k := 0) (by omega) (by omega)) ?_
  refine q_aload_n dX9_draw_19 rfl rfl ?_
  refine q_get dX9_draw_20 fX9_draw_29 (hat_ne hM e1) rfl ?_
  refine q_iconst (v := 0) dX9_draw_23 rfl ?_
  refine q_iald dX9_draw_24 (hat_set hl) (in_nI (k := 0) (by omega) (by omega)) ?_
  refine q_bipush (v := 16) dX9_draw_25 rfl ?_
  refine q_iushr dX9_draw_27 ?_
  refine q_iload_n dX9_draw_28 rfl rfl ?_
  rw [show (upd lo (0 : Int32).toNatClampNeg (lo (0 : Int32).toNatClampNeg * 1103515245 + 12345) (0 : Int32).toNatClampNeg) = lotN (lo 0) from rfl, show ((lotN (lo 0)).toUInt32 >>> ((16 : Int32).toUInt32 &&& Int32.toUInt32 31)).toInt32 = nI (drw (lotN (lo 0))) from us16 _]
  refine q_irem dX9_draw_29 (nI_ne0 hk hk2) ?_
  exact q_iret dX9_draw_30 rfl (Nat.zero_le _) (Nat.zero_le _) (⟨by rw [pk_rem b1 hk hk2], rfl, rfl⟩)
theorem n_met_bad {q : Int32} (hb : q < 0 ∨ 3 < q) : Det Γ l mX9_met rX9_met [.ref m, .int q] as h (some (.int (-1))) h := by
  refine Con.of (by decide +kernel) rfl rfl (Nat.le_of_ble_eq_true rfl) ?_
  refine q_iload_n dX9_met_0 rfl rfl ?_
  refine q_i2l dX9_met_1 ?_
  refine q_lconst (v := 0) dX9_met_2 rfl ?_
  refine q_ldc2 (v := 3) dX9_met_3 (by decide +kernel) ?_
  refine q_callSd dX9_met_6 wX9_met_60 (n_in) rfl rfl (Nat.le_of_ble_eq_true rfl) ⟨⟨Nat.le_of_ble_eq_true rfl, Nat.le_of_ble_eq_true rfl⟩, Nat.le_of_ble_eq_true rfl, Nat.le_of_ble_eq_true rfl⟩ ?_
  refine q_if_eq 21 dX9_met_9 (by decide) (fun _ => ?_) (fun z => absurd (by rw [inB_no (a := 0) (b := 3) (by decide) (by decide) hb]; rfl) z)
  refine q_iconst (v := (-1)) dX9_met_21 rfl ?_
  exact q_iret dX9_met_22 rfl (Nat.zero_le _) (Nat.zero_le _) (⟨rfl, rfl, rfl⟩)
theorem n_met {j : Nat} (hj : j < 4) (hM : hat as h m (mo tc r z)) (hm : hat as h (r 18) (aI Γ 4 mt)) : Det Γ l mX9_met rX9_met [.ref m, .int (nI j)] as h (some (.int (mt j))) h := by
  refine Con.of (by decide +kernel) rfl rfl (Nat.le_of_ble_eq_true rfl) ?_
  refine q_iload_n dX9_met_0 rfl rfl ?_
  refine q_i2l dX9_met_1 ?_
  refine q_lconst (v := 0) dX9_met_2 rfl ?_
  refine q_ldc2 (v := 3) dX9_met_3 (by decide +kernel) ?_
  refine q_callSd dX9_met_6 wX9_met_60 (n_in) rfl rfl (Nat.le_of_ble_eq_true rfl) ⟨⟨Nat.le_of_ble_eq_true rfl, Nat.le_of_ble_eq_true rfl⟩, Nat.le_of_ble_eq_true rfl, Nat.le_of_ble_eq_true rfl⟩ ?_
  refine q_if_eq 21 dX9_met_9 (by decide) (fun z => absurd z (by rw [inB_nI (a := 0) (b := 3) (by decide) (by decide) (by omega) (by omega) (by omega)]; decide)) (fun _ => ?_)
  refine q_aload_n dX9_met_12 rfl rfl ?_
  refine q_get dX9_met_13 fX9_met_42 (hM) rfl ?_
  refine q_iload_n dX9_met_16 rfl rfl ?_
  refine q_iald dX9_met_17 (hm) (in_nI hj (by omega)) ?_
  refine q_goto 22 dX9_met_18 (by decide) ?_
  exact q_iret dX9_met_22 rfl (Nat.zero_le _) (Nat.zero_le _) (⟨by rw [nI_clamp (by omega)], rfl, rfl⟩)
end

